abbrev rX8_aheadOf : Room := { frames := 2, cells := 0, slots := 0, locals := 45 }
abbrev rX8_sumOf : Room := { frames := 1, cells := 0, slots := 0, locals := 22 }
abbrev rX8_greatestWeight : Room := { frames := 2, cells := 0, slots := 0, locals := 45 }
abbrev rX8_putValuesInOrder : Room := { frames := 1, cells := 0, slots := 0, locals := 22 }
