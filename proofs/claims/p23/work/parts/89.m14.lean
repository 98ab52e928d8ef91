abbrev rX8_readsPart_p : Room := { frames := 6, cells := 0, slots := 0, locals := 131 }
