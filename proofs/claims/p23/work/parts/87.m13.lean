abbrev rX8_readsPart : Room := { frames := 2, cells := 0, slots := 0, locals := 45 }
