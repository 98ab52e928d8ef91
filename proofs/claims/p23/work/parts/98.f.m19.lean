abbrev rX8_heapOf : Room := { frames := 3, cells := 0, slots := 0, locals := 69 }
