-- references and values; the constants' lists
abbrev VR : Type := Nat × Nat × Nat
abbrev VV : Type := Int32 ⊕ (Int64 ⊕ (UInt64 ⊕ VR))
def pm_nest (w : Cond) : Bool := match w with
  | .fieldLinkNest .. => true
  | .methodLinkNest .. => true
  | .declares _ => true
  | .castable .. => true
  | _ => false
noncomputable def NW : List Cond := tables_1.filter pm_nest
noncomputable def enL : List String := ["END", "WRONG", "NAME", "NUMBER", "MOON", "FLOCK", "TAKES", "IN", "NOT", "AND", "OR", "HOUR", "KIND", "WEIGHT", "WING", "GOOSE", "ON", "EVERY", "STEP", "GAP", "TELLS", "COUNT", "SUM", "MOST", "LEAST", "OF", "OPEN", "CLOSE", "OPEN_TEST", "CLOSE_TEST", "SEMICOLON", "COMMA", "LESS", "GREATER", "EQUAL", "PLUS", "MINUS", "TIMES"]
noncomputable def ordF : List (String × String × String × List Int32) := [("java/lang/Enum", "ordinal", "I", (List.range 38).map Int32.ofNat)]
noncomputable def msL : List (Nat × String) := [(365, "there is no such flock"), (104, "there is no such comma"), (367, "there is no such goose"), (369, "there is no such open window"), (371, "there is no such telling"), (148, "so many nights cannot go by"), (109, "no more commas can come"), (73, "the tape would be too long"), (84, "the tape does not have so many bytes")]
noncomputable def lsL : List (Nat × String × Nat) := [(7, "", 35), (75, "(", 36), (85, ")", 37), (100, "*", 38), (105, " + ", 39), (107, "-", 40), (109, "[", 41), (114, "]", 42), (119, "in ", 43), (121, "f", 44), (126, "<", 45), (128, " > ", 46), (130, "=", 47), (132, "not ", 48), (140, " and ", 49), (145, " or ", 50), (147, "moon ", 51), (149, ",", 52), (151, ";\n", 53), (153, "flock f", 54), (155, " takes ", 55), (160, "goose g", 56), (162, " on f", 57), (164, " gap ", 58), (166, " every ", 59), (168, " step ", 60), (170, " tells ", 61), (177, "hour", 62), (179, "kind", 63), (181, "weight", 64), (183, "wing", 65), (185, "count", 66), (187, "sum of ", 67), (189, "most of ", 68), (191, "least of ", 69)]
