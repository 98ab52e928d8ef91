abbrev rX8_putTogether : Room := { frames := 1, cells := 0, slots := 0, locals := 22 }
