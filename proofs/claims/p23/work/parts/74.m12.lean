abbrev rX8_character : Room := { frames := 0, cells := 0, slots := 0, locals := 0 }
abbrev rX8_takes : Room := { frames := 1, cells := 0, slots := 0, locals := 21 }
abbrev rX8_takeNumber : Room := { frames := 1, cells := 0, slots := 0, locals := 22 }
