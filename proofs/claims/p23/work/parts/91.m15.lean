abbrev rX8_findFault : Room := { frames := 3, cells := 0, slots := 0, locals := 70 }
abbrev rX8_fault : Room := { frames := 4, cells := 0, slots := 0, locals := 92 }
abbrev rX8_play_f : Room := { frames := 4, cells := 0, slots := 0, locals := 92 }
abbrev rX8_play : Room := { frames := 7, cells := 0, slots := 0, locals := 156 }
