abbrev rX8_whyNoQuantile : Room := { frames := 2, cells := 0, slots := 0, locals := 43 }
abbrev rX8_findAll : Room := { frames := 4, cells := 0, slots := 0, locals := 88 }
abbrev rX8_truthBy : Room := { frames := 0, cells := 0, slots := 0, locals := 0 }
abbrev rX8_truth : Room := { frames := 5, cells := 0, slots := 0, locals := 109 }
abbrev rX8_width : Room := { frames := 5, cells := 0, slots := 0, locals := 109 }
abbrev rX8_heapsBy : Room := { frames := 2, cells := 0, slots := 0, locals := 48 }
abbrev rX8_settingFor : Room := { frames := 3, cells := 0, slots := 0, locals := 71 }
