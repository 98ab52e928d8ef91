abbrev rX8_packs : Room := { frames := 4, cells := 0, slots := 0, locals := 88 }
abbrev rX8_knows : Room := { frames := 1, cells := 0, slots := 0, locals := 23 }
abbrev rX8_comes : Room := { frames := 5, cells := 0, slots := 0, locals := 109 }
abbrev rX8_moves : Room := { frames := 0, cells := 0, slots := 0, locals := 0 }
