abbrev rX8_record : Room := { frames := 1, cells := 0, slots := 0, locals := 24 }
