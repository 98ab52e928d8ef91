abbrev rX8_quantile : Room := { frames := 5, cells := 0, slots := 0, locals := 109 }
abbrev rX8_worst : Room := { frames := 5, cells := 0, slots := 0, locals := 109 }
abbrev rX8_rank : Room := { frames := 5, cells := 0, slots := 0, locals := 109 }
