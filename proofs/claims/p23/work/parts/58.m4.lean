abbrev rX8_findPacked : Room := { frames := 3, cells := 0, slots := 0, locals := 67 }
abbrev rX8_giveHeaps : Room := { frames := 1, cells := 0, slots := 0, locals := 23 }
