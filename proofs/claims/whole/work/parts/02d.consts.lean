-- references and values; the constants' lists
abbrev VR : Type := Nat × Nat × Nat
abbrev VV : Type := Int32 ⊕ (Int64 ⊕ (UInt64 ⊕ VR))
def pm_nest (w : Cond) : Bool := match w with
  | .fieldLinkNest .. => true
  | .methodLinkNest .. => true
  | .declares _ => true
  | .castable .. => true
  | _ => false
noncomputable def NW : List Cond := tables_1.filter pm_nest
noncomputable def enL : List String := ["END", "WRONG", "NAME", "NUMBER", "MOON", "FLOCK", "TAKES", "IN", "NOT", "AND", "OR", "HOUR", "KIND", "WEIGHT", "WING", "GOOSE", "ON", "EVERY", "STEP", "GAP", "TELLS", "COUNT", "SUM", "MOST", "LEAST", "OF", "OPEN", "CLOSE", "OPEN_TEST", "CLOSE_TEST", "SEMICOLON", "COMMA", "LESS", "GREATER", "EQUAL", "PLUS", "MINUS", "TIMES"]
noncomputable def ordF : List (String × String × String × List Int32) := [("java/lang/Enum", "ordinal", "I", (List.range 38).map Int32.ofNat)]
noncomputable def klL : List (String × Int64) := [("K_MOON", 441838), ("K_FLOCK", 6700139), ("K_TAKES", 21015731), ("K_IN", 302), ("K_NOT", 14836), ("K_AND", 1476), ("K_OR", 498), ("K_GOOSE", 7847525), ("K_ON", 494), ("K_EVERY", 5969497), ("K_STEP", 643248), ("K_GAP", 7216), ("K_TELLS", 21148051), ("K_COUNT", 3659220), ("K_SUM", 20141), ("K_MOST", 441972), ("K_LEAST", 12748404), ("K_OF", 486)]
noncomputable def msL : List (Nat × String) := [(365, "there is no such flock"), (367, "there is no such goose"), (369, "there is no such open window"), (371, "there is no such telling"), (73, "the tape would be too long"), (84, "the tape does not have so many bytes"), (104, "there is no such comma"), (109, "no more commas can come"), (148, "so many nights cannot go by"), (360, "there is no such hour")]
noncomputable def lsL : List (Nat × String × Nat) := [(24, "hour", 35), (30, "kind", 36), (32, "weight", 37), (34, "wing", 38), (138, "()[];,<>=+-*", 39)]
