abbrev rX8_add : Room := { frames := 6, cells := 0, slots := 0, locals := 131 }
abbrev rX8_pack : Room := { frames := 5, cells := 0, slots := 0, locals := 109 }
abbrev rX8_clear : Room := { frames := 2, cells := 0, slots := 0, locals := 45 }
abbrev rX8_bufferOf : Room := { frames := 2, cells := 0, slots := 0, locals := 42 }
