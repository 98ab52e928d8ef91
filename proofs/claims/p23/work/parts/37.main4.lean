abbrev rX7_play : Room := { frames := 6, cells := 0, slots := 0, locals := 166 }
