abbrev rX8_takeHeaps : Room := { frames := 2, cells := 0, slots := 0, locals := 45 }
abbrev rX8_takeBuffer : Room := { frames := 1, cells := 0, slots := 0, locals := 24 }
abbrev rX8_putInOrder : Room := { frames := 1, cells := 0, slots := 0, locals := 22 }
