abbrev rX8_quantileBy : Room := { frames := 0, cells := 0, slots := 0, locals := 0 }
