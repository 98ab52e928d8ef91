abbrev rX3_digitAt : Room := { frames := 1, cells := 0, slots := 0, locals := 21 }
abbrev rX3_readValue : Room := { frames := 2, cells := 0, slots := 0, locals := 43 }
abbrev rX3_readFrom : Room := { frames := 3, cells := 0, slots := 0, locals := 66 }
abbrev rX6_reasonOf : Room := { frames := 4, cells := 0, slots := 0, locals := 90 }
abbrev rX6_startWeights : Room := { frames := 3, cells := 0, slots := 0, locals := 63 }
