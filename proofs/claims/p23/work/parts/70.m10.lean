abbrev rX8_join : Room := { frames := 5, cells := 0, slots := 0, locals := 109 }
abbrev rX8_digestOf : Room := { frames := 4, cells := 0, slots := 0, locals := 88 }
