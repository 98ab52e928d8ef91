abbrev rX8_within : Room := { frames := 0, cells := 0, slots := 0, locals := 0 }
abbrev rX8_isDigest : Room := { frames := 1, cells := 0, slots := 0, locals := 22 }
abbrev rX8_part : Room := { frames := 0, cells := 0, slots := 0, locals := 0 }
abbrev rX8_setPart : Room := { frames := 0, cells := 0, slots := 0, locals := 0 }
abbrev rX8_heapPart : Room := { frames := 1, cells := 0, slots := 0, locals := 22 }
abbrev rX8_weightOf : Room := { frames := 1, cells := 0, slots := 0, locals := 22 }
abbrev rX8_takeHeap : Room := { frames := 0, cells := 0, slots := 0, locals := 0 }
abbrev rX8_copyHeap : Room := { frames := 0, cells := 0, slots := 0, locals := 0 }
