/-! tables, printed by a program (wip/gen/tables.py): the words that are used, the classes, the methods, the code that is gone through -/
def xk_T0 : u_T := fun k => match k with
  | 0 => ("SlideNight$Choice", "bestBits", "I", false)
  | 1 => ("SlideNight$Choice", "bestSeconds", "I", false)
  | 2 => ("SlideNight$Choice", "bestGain", "J", false)
  | 3 => ("SlideNight$Choice", "size", "I", false)
  | 4 => ("SlideNight$Choice", "numbers", "[I", true)
  | 5 => ("SlideNight$Choice", "seconds", "[I", true)
  | 6 => ("SlideNight$Choice", "gains", "[J", true)
  | _ => ("SlideNight$Choice", "needs", "[I", true)
def xk_y0 : Nat → FieldType := fun k => match k with
  | 0 => .int
  | 1 => .int
  | 2 => .long
  | 3 => .int
  | 4 => .array .int
  | 5 => .array .int
  | 6 => .array .long
  | _ => .array .int
def xk_T1 : u_T := fun k => match k with
  | 0 => ("SlideNight$Evening", "seconds", "I", false)
  | 1 => ("SlideNight$Evening", "shownCount", "I", false)
  | 2 => ("SlideNight$Evening", "noticed", "I", false)
  | 3 => ("SlideNight$Evening", "turns", "I", false)
  | 4 => ("SlideNight$Evening", "jams", "I", false)
  | 5 => ("SlideNight$Evening", "pops", "I", false)
  | 6 => ("SlideNight$Evening", "awake", "I", false)
  | 7 => ("SlideNight$Evening", "x", "I", false)
  | 8 => ("SlideNight$Evening", "lampsLeft", "I", false)
  | 9 => ("SlideNight$Evening", "waysIn", "[I", true)
  | _ => ("SlideNight$Evening", "patienceLeft", "[I", true)
def xk_y1 : Nat → FieldType := fun k => match k with
  | 0 => .int
  | 1 => .int
  | 2 => .int
  | 3 => .int
  | 4 => .int
  | 5 => .int
  | 6 => .int
  | 7 => .int
  | 8 => .int
  | 9 => .array .int
  | _ => .array .int
def xk_T2 : u_T := fun k => match k with
  | 0 => ("SlideNight$Law", "code", "LSlideNight$LawCode;", false)
  | 1 => ("SlideNight$Law", "spare", "LSlideNight$LawCode;", false)
  | _ => ("SlideNight$Law", "facts", "[I", true)
def xk_y2 : Nat → FieldType := fun k => match k with
  | 0 => .object "SlideNight$LawCode"
  | 1 => .object "SlideNight$LawCode"
  | _ => .array .int
def xk_T3 : u_T := fun k => match k with
  | 0 => ("SlideNight$LawCode", "clauses", "I", false)
  | 1 => ("SlideNight$LawCode", "size", "I", false)
  | 2 => ("SlideNight$LawCode", "isRefused", "Z", false)
  | 3 => ("SlideNight$LawCode", "operations", "[I", true)
  | 4 => ("SlideNight$LawCode", "operands", "[I", true)
  | 5 => ("SlideNight$LawCode", "letters", "[I", true)
  | 6 => ("SlideNight$LawCode", "starts", "[I", true)
  | 7 => ("SlideNight$LawCode", "conditions", "[I", true)
  | 8 => ("SlideNight$LawCode", "ends", "[I", true)
  | _ => ("SlideNight$LawCode", "stack", "[I", true)
def xk_y3 : Nat → FieldType := fun k => match k with
  | 0 => .int
  | 1 => .int
  | 2 => .boolean
  | 3 => .array .int
  | 4 => .array .int
  | 5 => .array .int
  | 6 => .array .int
  | 7 => .array .int
  | 8 => .array .int
  | _ => .array .int
def xk_T4 : u_T := fun k => match k with
  | 0 => ("SlideNight$LawReader", "text", "[I", false)
  | 1 => ("SlideNight$LawReader", "end", "I", false)
  | 2 => ("SlideNight$LawReader", "at", "I", false)
  | 3 => ("SlideNight$LawReader", "fault", "I", false)
  | _ => ("SlideNight$LawReader", "code", "LSlideNight$LawCode;", false)
def xk_y4 : Nat → FieldType := fun k => match k with
  | 0 => .array .int
  | 1 => .int
  | 2 => .int
  | 3 => .int
  | _ => .object "SlideNight$LawCode"
def xk_T5 : u_T := fun k => match k with
  | 0 => ("SlideNight$Orders", "tellingLow", "I", false)
  | 1 => ("SlideNight$Orders", "tellingHigh", "I", false)
  | 2 => ("SlideNight$Orders", "tellingLesser", "I", false)
  | 3 => ("SlideNight$Orders", "size", "I", false)
  | 4 => ("SlideNight$Orders", "numbers", "[I", true)
  | 5 => ("SlideNight$Orders", "places", "[I", true)
  | 6 => ("SlideNight$Orders", "ahead", "[I", true)
  | 7 => ("SlideNight$Orders", "waysFirst", "[I", true)
  | 8 => ("SlideNight$Orders", "waysLast", "[I", true)
  | _ => ("SlideNight$Orders", "lowAhead", "[I", true)
def xk_y5 : Nat → FieldType := fun k => match k with
  | 0 => .int
  | 1 => .int
  | 2 => .int
  | 3 => .int
  | 4 => .array .int
  | 5 => .array .int
  | 6 => .array .int
  | 7 => .array .int
  | 8 => .array .int
  | _ => .array .int
def xk_T6 : u_T := fun k => match k with
  | 0 => ("SlideNight$Pairs", "first", "[I", true)
  | 1 => ("SlideNight$Pairs", "second", "[I", true)
  | _ => ("SlideNight$Pairs", "size", "I", false)
def xk_y6 : Nat → FieldType := fun k => match k with
  | 0 => .array .int
  | 1 => .array .int
  | _ => .int
def xk_T7 : u_T := fun k => match k with
  | 0 => ("SlideNight$Slide", "number", "I", true)
  | 1 => ("SlideNight$Slide", "picture", "[I", true)
  | 2 => ("SlideNight$Slide", "told", "Z", false)
  | 3 => ("SlideNight$Slide", "kind", "I", false)
  | 4 => ("SlideNight$Slide", "maker", "I", false)
  | 5 => ("SlideNight$Slide", "worth", "I", false)
  | 6 => ("SlideNight$Slide", "taken", "I", false)
  | 7 => ("SlideNight$Slide", "way", "I", false)
  | 8 => ("SlideNight$Slide", "alike", "I", false)
  | _ => ("SlideNight$Slide", "corner", "I", false)
def xk_y7 : Nat → FieldType := fun k => match k with
  | 0 => .int
  | 1 => .array .int
  | 2 => .boolean
  | 3 => .int
  | 4 => .int
  | 5 => .int
  | 6 => .int
  | 7 => .int
  | 8 => .int
  | _ => .int
def xk_T8 : u_T := fun k => match k with
  | 0 => ("SlideNight$State", "slides", "[LSlideNight$Slide;", true)
  | 1 => ("SlideNight$State", "lookersTold", "I", false)
  | 2 => ("SlideNight$State", "eyes", "[I", true)
  | 3 => ("SlideNight$State", "patience", "[I", true)
  | 4 => ("SlideNight$State", "lampsLeft", "I", false)
  | 5 => ("SlideNight$State", "clues", "LSlideNight$Pairs;", true)
  | 6 => ("SlideNight$State", "links", "LSlideNight$Pairs;", true)
  | _ => ("SlideNight$State", "x", "I", false)
def xk_y8 : Nat → FieldType := fun k => match k with
  | 0 => .array (.object "SlideNight$Slide")
  | 1 => .int
  | 2 => .array .int
  | 3 => .array .int
  | 4 => .int
  | 5 => .object "SlideNight$Pairs"
  | 6 => .object "SlideNight$Pairs"
  | _ => .int
def xk_T9 : u_T := fun k => match k with
  | 0 => ("SlideNight$TrayText", "slots", "[I", true)
  | 1 => ("SlideNight$TrayText", "count", "I", false)
  | 2 => ("SlideNight$TrayText", "text", "[I", false)
  | 3 => ("SlideNight$TrayText", "end", "I", false)
  | 4 => ("SlideNight$TrayText", "at", "I", false)
  | _ => ("SlideNight$TrayText", "fault", "I", false)
def xk_y9 : Nat → FieldType := fun k => match k with
  | 0 => .array .int
  | 1 => .int
  | 2 => .array .int
  | 3 => .int
  | 4 => .int
  | _ => .int
def xk_T10 : u_T := fun k => match k with
  | 0 => ("SlideNight$TurnRow", "allOften", "I", false)
  | 1 => ("SlideNight$TurnRow", "often", "[I", true)
  | 2 => ("SlideNight$TurnRow", "turnSeconds", "[I", true)
  | 3 => ("SlideNight$TurnRow", "rightBy", "[I", true)
  | 4 => ("SlideNight$TurnRow", "open", "[I", true)
  | 5 => ("SlideNight$TurnRow", "fewest", "[I", true)
  | _ => ("SlideNight$TurnRow", "row", "[I", true)
def xk_y10 : Nat → FieldType := fun k => match k with
  | 0 => .int
  | 1 => .array .int
  | 2 => .array .int
  | 3 => .array .int
  | 4 => .array .int
  | 5 => .array .int
  | _ => .array .int
def xk_T11 : u_T := fun k => match k with
  | 0 => ("SlideNight", "tape", "[I", true)
  | 1 => ("SlideNight", "tapeLength", "I", false)
  | 2 => ("SlideNight", "now", "LSlideNight$State;", true)
  | 3 => ("SlideNight", "kept", "LSlideNight$State;", true)
  | 4 => ("SlideNight", "isKept", "Z", false)
  | 5 => ("SlideNight", "inUse", "LSlideNight$TrayText;", false)
  | 6 => ("SlideNight", "spareTray", "LSlideNight$TrayText;", false)
  | 7 => ("SlideNight", "lawReader", "LSlideNight$LawReader;", true)
  | 8 => ("SlideNight", "rules", "LSlideNight$Law;", true)
  | 9 => ("SlideNight", "night", "LSlideNight$Evening;", true)
  | 10 => ("SlideNight", "turnRow", "LSlideNight$TurnRow;", true)
  | 11 => ("SlideNight", "choice", "LSlideNight$Choice;", true)
  | _ => ("SlideNight", "orders", "LSlideNight$Orders;", true)
def xk_y11 : Nat → FieldType := fun k => match k with
  | 0 => .array .int
  | 1 => .int
  | 2 => .object "SlideNight$State"
  | 3 => .object "SlideNight$State"
  | 4 => .boolean
  | 5 => .object "SlideNight$TrayText"
  | 6 => .object "SlideNight$TrayText"
  | 7 => .object "SlideNight$LawReader"
  | 8 => .object "SlideNight$Law"
  | 9 => .object "SlideNight$Evening"
  | 10 => .object "SlideNight$TurnRow"
  | 11 => .object "SlideNight$Choice"
  | _ => .object "SlideNight$Orders"
def xk_T12 : u_T := fun k => match k with
  | 0 => ("SlideNightModel", "told0", "I", false)
  | 1 => ("SlideNightModel", "lookers0", "I", false)
  | 2 => ("SlideNightModel", "now", "[I", true)
  | 3 => ("SlideNightModel", "aside", "[I", true)
  | 4 => ("SlideNightModel", "kindOf", "[I", true)
  | 5 => ("SlideNightModel", "makerOf", "[I", true)
  | 6 => ("SlideNightModel", "worthOf", "[I", true)
  | 7 => ("SlideNightModel", "dayOf", "[I", true)
  | 8 => ("SlideNightModel", "eyesOf", "[I", true)
  | 9 => ("SlideNightModel", "patienceOf", "[I", true)
  | 10 => ("SlideNightModel", "sureOf", "[I", true)
  | 11 => ("SlideNightModel", "clueA", "[I", true)
  | 12 => ("SlideNightModel", "clueB", "[I", true)
  | 13 => ("SlideNightModel", "linkA", "[I", true)
  | 14 => ("SlideNightModel", "linkB", "[I", true)
  | 15 => ("SlideNightModel", "pictures", "[B", true)
  | 16 => ("SlideNightModel", "tape", "[B", true)
  | 17 => ("SlideNightModel", "taped", "I", false)
  | 18 => ("SlideNightModel", "place0", "I", false)
  | 19 => ("SlideNightModel", "length0", "I", false)
  | 20 => ("SlideNightModel", "fault", "I", false)
  | 21 => ("SlideNightModel", "number0", "I", false)
  | 22 => ("SlideNightModel", "clues0", "I", false)
  | 23 => ("SlideNightModel", "links0", "I", false)
  | 24 => ("SlideNightModel", "trayMany", "I", false)
  | 25 => ("SlideNightModel", "newMany", "I", false)
  | 26 => ("SlideNightModel", "groups", "I", false)
  | 27 => ("SlideNightModel", "trayOf", "[I", true)
  | 28 => ("SlideNightModel", "newTray", "[I", true)
  | 29 => ("SlideNightModel", "groupFrom", "[I", true)
  | 30 => ("SlideNightModel", "groupAt", "[I", true)
  | 31 => ("SlideNightModel", "open", "I", false)
  | 32 => ("SlideNightModel", "codeMany", "I", false)
  | 33 => ("SlideNightModel", "waiting", "I", false)
  | 34 => ("SlideNightModel", "saidMany", "I", false)
  | 35 => ("SlideNightModel", "clauses", "I", false)
  | 36 => ("SlideNightModel", "said", "[I", true)
  | 37 => ("SlideNightModel", "waitsAt", "[I", true)
  | 38 => ("SlideNightModel", "saidLetter", "[I", true)
  | 39 => ("SlideNightModel", "saidFrom", "[I", true)
  | 40 => ("SlideNightModel", "saidHalf", "[I", true)
  | 41 => ("SlideNightModel", "saidTo", "[I", true)
  | 42 => ("SlideNightModel", "codes", "[I", true)
  | 43 => ("SlideNightModel", "clauseOf", "[I", true)
  | 44 => ("SlideNightModel", "codeFrom", "[I", true)
  | 45 => ("SlideNightModel", "codeHalf", "[I", true)
  | 46 => ("SlideNightModel", "codeTo", "[I", true)
  | 47 => ("SlideNightModel", "stack", "[I", true)
  | 48 => ("SlideNightModel", "facts", "[I", true)
  | 49 => ("SlideNightModel", "shownMany", "I", false)
  | 50 => ("SlideNightModel", "seconds", "I", false)
  | 51 => ("SlideNightModel", "noticedMany", "I", false)
  | 52 => ("SlideNightModel", "turnMany", "I", false)
  | 53 => ("SlideNightModel", "jamMany", "I", false)
  | 54 => ("SlideNightModel", "popMany", "I", false)
  | 55 => ("SlideNightModel", "handOf", "[I", true)
  | 56 => ("SlideNightModel", "turnTakes", "[I", true)
  | 57 => ("SlideNightModel", "rowNow", "[I", true)
  | 58 => ("SlideNightModel", "bestRow", "[I", true)
  | 59 => ("SlideNightModel", "seenBy", "[I", true)
  | 60 => ("SlideNightModel", "comeTo", "[I", true)
  | 61 => ("SlideNightModel", "rightSet", "I", false)
  | 62 => ("SlideNightModel", "leastAll", "J", false)
  | 63 => ("SlideNightModel", "parts0", "J", false)
  | 64 => ("SlideNightModel", "fewMany", "I", false)
  | 65 => ("SlideNightModel", "fewOf", "[I", true)
  | 66 => ("SlideNightModel", "costOf", "[I", true)
  | 67 => ("SlideNightModel", "savesOf", "[J", true)
  | 68 => ("SlideNightModel", "spiltOf", "[I", true)
  | 69 => ("SlideNightModel", "mustBe", "[I", true)
  | 70 => ("SlideNightModel", "waysFrom", "[J", true)
  | 71 => ("SlideNightModel", "spiltMany", "I", false)
  | 72 => ("SlideNightModel", "isKept", "Z", false)
  | 73 => ("SlideNightModel", "keptTold", "I", false)
  | 74 => ("SlideNightModel", "keptLookers", "I", false)
  | 75 => ("SlideNightModel", "keptClues", "I", false)
  | 76 => ("SlideNightModel", "keptLinks", "I", false)
  | 77 => ("SlideNightModel", "keptNow", "[I", true)
  | 78 => ("SlideNightModel", "keptKind", "[I", true)
  | 79 => ("SlideNightModel", "keptMaker", "[I", true)
  | 80 => ("SlideNightModel", "keptWorth", "[I", true)
  | 81 => ("SlideNightModel", "keptDay", "[I", true)
  | 82 => ("SlideNightModel", "keptEyes", "[I", true)
  | 83 => ("SlideNightModel", "keptPatience", "[I", true)
  | 84 => ("SlideNightModel", "keptSure", "[I", true)
  | 85 => ("SlideNightModel", "keptClueA", "[I", true)
  | 86 => ("SlideNightModel", "keptClueB", "[I", true)
  | 87 => ("SlideNightModel", "keptLinkA", "[I", true)
  | 88 => ("SlideNightModel", "keptLinkB", "[I", true)
  | _ => ("SlideNightModel", "keptPictures", "[B", true)
def xk_y12 : Nat → FieldType := fun k => match k with
  | 0 => .int
  | 1 => .int
  | 2 => .array .int
  | 3 => .array .int
  | 4 => .array .int
  | 5 => .array .int
  | 6 => .array .int
  | 7 => .array .int
  | 8 => .array .int
  | 9 => .array .int
  | 10 => .array .int
  | 11 => .array .int
  | 12 => .array .int
  | 13 => .array .int
  | 14 => .array .int
  | 15 => .array .byte
  | 16 => .array .byte
  | 17 => .int
  | 18 => .int
  | 19 => .int
  | 20 => .int
  | 21 => .int
  | 22 => .int
  | 23 => .int
  | 24 => .int
  | 25 => .int
  | 26 => .int
  | 27 => .array .int
  | 28 => .array .int
  | 29 => .array .int
  | 30 => .array .int
  | 31 => .int
  | 32 => .int
  | 33 => .int
  | 34 => .int
  | 35 => .int
  | 36 => .array .int
  | 37 => .array .int
  | 38 => .array .int
  | 39 => .array .int
  | 40 => .array .int
  | 41 => .array .int
  | 42 => .array .int
  | 43 => .array .int
  | 44 => .array .int
  | 45 => .array .int
  | 46 => .array .int
  | 47 => .array .int
  | 48 => .array .int
  | 49 => .int
  | 50 => .int
  | 51 => .int
  | 52 => .int
  | 53 => .int
  | 54 => .int
  | 55 => .array .int
  | 56 => .array .int
  | 57 => .array .int
  | 58 => .array .int
  | 59 => .array .int
  | 60 => .array .int
  | 61 => .int
  | 62 => .long
  | 63 => .long
  | 64 => .int
  | 65 => .array .int
  | 66 => .array .int
  | 67 => .array .long
  | 68 => .array .int
  | 69 => .array .int
  | 70 => .array .long
  | 71 => .int
  | 72 => .boolean
  | 73 => .int
  | 74 => .int
  | 75 => .int
  | 76 => .int
  | 77 => .array .int
  | 78 => .array .int
  | 79 => .array .int
  | 80 => .array .int
  | 81 => .array .int
  | 82 => .array .int
  | 83 => .array .int
  | 84 => .array .int
  | 85 => .array .int
  | 86 => .array .int
  | 87 => .array .int
  | 88 => .array .int
  | _ => .array .byte
def xk_cl : List vw_C := [("SlideNight$Choice", xk_T0, 8), ("SlideNight$Evening", xk_T1, 11), ("SlideNight$Law", xk_T2, 3), ("SlideNight$LawCode", xk_T3, 10), ("SlideNight$LawReader", xk_T4, 5), ("SlideNight$Orders", xk_T5, 10), ("SlideNight$Pairs", xk_T6, 3), ("SlideNight$Slide", xk_T7, 10), ("SlideNight$State", xk_T8, 8), ("SlideNight$TrayText", xk_T9, 6), ("SlideNight$TurnRow", xk_T10, 7), ("SlideNight", xk_T11, 13), ("SlideNightModel", xk_T12, 90)]
def xk_yy : List (Nat → FieldType) := [xk_y0, xk_y1, xk_y2, xk_y3, xk_y4, xk_y5, xk_y6, xk_y7, xk_y8, xk_y9, xk_y10, xk_y11, xk_y12]
def xk_pp : List (Nat × Nat × Nat) := [(0, 199, 184), (8, 200, 185), (19, 201, 186), (22, 202, 187), (32, 203, 188), (37, 204, 189), (47, 205, 190), (50, 206, 191), (60, 207, 192), (68, 208, 193), (74, 209, 194), (81, 210, 195), (94, 211, 196)]
def xt_0 : List Cond := [(Jvm.Cond.lays "SlideNight$Choice" "SlideNight$Choice" "bestBits" "I"),
  (Jvm.Cond.lays "SlideNight$Choice" "SlideNight$Choice" "bestSeconds" "I"),
  (Jvm.Cond.lays "SlideNight$Choice" "SlideNight$Choice" "bestGain" "J"),
  (Jvm.Cond.lays "SlideNight$Choice" "SlideNight$Choice" "size" "I"),
  (Jvm.Cond.laysFinal "SlideNight$Choice" "SlideNight$Choice" "numbers" "[I"),
  (Jvm.Cond.laysFinal "SlideNight$Choice" "SlideNight$Choice" "seconds" "[I"),
  (Jvm.Cond.laysFinal "SlideNight$Choice" "SlideNight$Choice" "gains" "[J"),
  (Jvm.Cond.laysFinal "SlideNight$Choice" "SlideNight$Choice" "needs" "[I"),
  (Jvm.Cond.lays "SlideNight$Evening" "SlideNight$Evening" "seconds" "I"),
  (Jvm.Cond.lays "SlideNight$Evening" "SlideNight$Evening" "shownCount" "I"),
  (Jvm.Cond.lays "SlideNight$Evening" "SlideNight$Evening" "noticed" "I"),
  (Jvm.Cond.lays "SlideNight$Evening" "SlideNight$Evening" "turns" "I"),
  (Jvm.Cond.lays "SlideNight$Evening" "SlideNight$Evening" "jams" "I"),
  (Jvm.Cond.lays "SlideNight$Evening" "SlideNight$Evening" "pops" "I"),
  (Jvm.Cond.lays "SlideNight$Evening" "SlideNight$Evening" "awake" "I"),
  (Jvm.Cond.lays "SlideNight$Evening" "SlideNight$Evening" "x" "I"),
  (Jvm.Cond.lays "SlideNight$Evening" "SlideNight$Evening" "lampsLeft" "I"),
  (Jvm.Cond.laysFinal "SlideNight$Evening" "SlideNight$Evening" "waysIn" "[I"),
  (Jvm.Cond.laysFinal "SlideNight$Evening" "SlideNight$Evening" "patienceLeft" "[I"),
  (Jvm.Cond.lays "SlideNight$Law" "SlideNight$Law" "code" "LSlideNight$LawCode;"),
  (Jvm.Cond.lays "SlideNight$Law" "SlideNight$Law" "spare" "LSlideNight$LawCode;"),
  (Jvm.Cond.laysFinal "SlideNight$Law" "SlideNight$Law" "facts" "[I"),
  (Jvm.Cond.lays "SlideNight$LawCode" "SlideNight$LawCode" "clauses" "I"),
  (Jvm.Cond.lays "SlideNight$LawCode" "SlideNight$LawCode" "size" "I"),
  (Jvm.Cond.lays "SlideNight$LawCode" "SlideNight$LawCode" "isRefused" "Z"),
  (Jvm.Cond.laysFinal "SlideNight$LawCode" "SlideNight$LawCode" "operations" "[I"),
  (Jvm.Cond.laysFinal "SlideNight$LawCode" "SlideNight$LawCode" "operands" "[I"),
  (Jvm.Cond.laysFinal "SlideNight$LawCode" "SlideNight$LawCode" "letters" "[I"),
  (Jvm.Cond.laysFinal "SlideNight$LawCode" "SlideNight$LawCode" "starts" "[I"),
  (Jvm.Cond.laysFinal "SlideNight$LawCode" "SlideNight$LawCode" "conditions" "[I"),
  (Jvm.Cond.laysFinal "SlideNight$LawCode" "SlideNight$LawCode" "ends" "[I"),
  (Jvm.Cond.laysFinal "SlideNight$LawCode" "SlideNight$LawCode" "stack" "[I")]
def xt_1 : List Cond := [(Jvm.Cond.lays "SlideNight$LawReader" "SlideNight$LawReader" "text" "[I"),
  (Jvm.Cond.lays "SlideNight$LawReader" "SlideNight$LawReader" "end" "I"),
  (Jvm.Cond.lays "SlideNight$LawReader" "SlideNight$LawReader" "at" "I"),
  (Jvm.Cond.lays "SlideNight$LawReader" "SlideNight$LawReader" "fault" "I"),
  (Jvm.Cond.lays "SlideNight$LawReader" "SlideNight$LawReader" "code" "LSlideNight$LawCode;"),
  (Jvm.Cond.lays "SlideNight$Orders" "SlideNight$Orders" "tellingLow" "I"),
  (Jvm.Cond.lays "SlideNight$Orders" "SlideNight$Orders" "tellingHigh" "I"),
  (Jvm.Cond.lays "SlideNight$Orders" "SlideNight$Orders" "tellingLesser" "I"),
  (Jvm.Cond.lays "SlideNight$Orders" "SlideNight$Orders" "size" "I"),
  (Jvm.Cond.laysFinal "SlideNight$Orders" "SlideNight$Orders" "numbers" "[I"),
  (Jvm.Cond.laysFinal "SlideNight$Orders" "SlideNight$Orders" "places" "[I"),
  (Jvm.Cond.laysFinal "SlideNight$Orders" "SlideNight$Orders" "ahead" "[I"),
  (Jvm.Cond.laysFinal "SlideNight$Orders" "SlideNight$Orders" "waysFirst" "[I"),
  (Jvm.Cond.laysFinal "SlideNight$Orders" "SlideNight$Orders" "waysLast" "[I"),
  (Jvm.Cond.laysFinal "SlideNight$Orders" "SlideNight$Orders" "lowAhead" "[I"),
  (Jvm.Cond.laysFinal "SlideNight$Pairs" "SlideNight$Pairs" "first" "[I"),
  (Jvm.Cond.laysFinal "SlideNight$Pairs" "SlideNight$Pairs" "second" "[I"),
  (Jvm.Cond.lays "SlideNight$Pairs" "SlideNight$Pairs" "size" "I"),
  (Jvm.Cond.laysFinal "SlideNight$Slide" "SlideNight$Slide" "number" "I"),
  (Jvm.Cond.laysFinal "SlideNight$Slide" "SlideNight$Slide" "picture" "[I"),
  (Jvm.Cond.lays "SlideNight$Slide" "SlideNight$Slide" "told" "Z"),
  (Jvm.Cond.lays "SlideNight$Slide" "SlideNight$Slide" "kind" "I"),
  (Jvm.Cond.lays "SlideNight$Slide" "SlideNight$Slide" "maker" "I"),
  (Jvm.Cond.lays "SlideNight$Slide" "SlideNight$Slide" "worth" "I"),
  (Jvm.Cond.lays "SlideNight$Slide" "SlideNight$Slide" "taken" "I"),
  (Jvm.Cond.lays "SlideNight$Slide" "SlideNight$Slide" "way" "I"),
  (Jvm.Cond.lays "SlideNight$Slide" "SlideNight$Slide" "alike" "I"),
  (Jvm.Cond.lays "SlideNight$Slide" "SlideNight$Slide" "corner" "I"),
  (Jvm.Cond.laysFinal "SlideNight$State" "SlideNight$State" "slides" "[LSlideNight$Slide;"),
  (Jvm.Cond.lays "SlideNight$State" "SlideNight$State" "lookersTold" "I"),
  (Jvm.Cond.laysFinal "SlideNight$State" "SlideNight$State" "eyes" "[I"),
  (Jvm.Cond.laysFinal "SlideNight$State" "SlideNight$State" "patience" "[I")]
def xt_2 : List Cond := [(Jvm.Cond.lays "SlideNight$State" "SlideNight$State" "lampsLeft" "I"),
  (Jvm.Cond.laysFinal "SlideNight$State" "SlideNight$State" "clues" "LSlideNight$Pairs;"),
  (Jvm.Cond.laysFinal "SlideNight$State" "SlideNight$State" "links" "LSlideNight$Pairs;"),
  (Jvm.Cond.lays "SlideNight$State" "SlideNight$State" "x" "I"),
  (Jvm.Cond.laysFinal "SlideNight$TrayText" "SlideNight$TrayText" "slots" "[I"),
  (Jvm.Cond.lays "SlideNight$TrayText" "SlideNight$TrayText" "count" "I"),
  (Jvm.Cond.lays "SlideNight$TrayText" "SlideNight$TrayText" "text" "[I"),
  (Jvm.Cond.lays "SlideNight$TrayText" "SlideNight$TrayText" "end" "I"),
  (Jvm.Cond.lays "SlideNight$TrayText" "SlideNight$TrayText" "at" "I"),
  (Jvm.Cond.lays "SlideNight$TrayText" "SlideNight$TrayText" "fault" "I"),
  (Jvm.Cond.lays "SlideNight$TurnRow" "SlideNight$TurnRow" "allOften" "I"),
  (Jvm.Cond.laysFinal "SlideNight$TurnRow" "SlideNight$TurnRow" "often" "[I"),
  (Jvm.Cond.laysFinal "SlideNight$TurnRow" "SlideNight$TurnRow" "turnSeconds" "[I"),
  (Jvm.Cond.laysFinal "SlideNight$TurnRow" "SlideNight$TurnRow" "rightBy" "[I"),
  (Jvm.Cond.laysFinal "SlideNight$TurnRow" "SlideNight$TurnRow" "open" "[I"),
  (Jvm.Cond.laysFinal "SlideNight$TurnRow" "SlideNight$TurnRow" "fewest" "[I"),
  (Jvm.Cond.laysFinal "SlideNight$TurnRow" "SlideNight$TurnRow" "row" "[I"),
  (Jvm.Cond.laysFinal "SlideNight" "SlideNight" "tape" "[I"),
  (Jvm.Cond.lays "SlideNight" "SlideNight" "tapeLength" "I"),
  (Jvm.Cond.laysFinal "SlideNight" "SlideNight" "now" "LSlideNight$State;"),
  (Jvm.Cond.laysFinal "SlideNight" "SlideNight" "kept" "LSlideNight$State;"),
  (Jvm.Cond.lays "SlideNight" "SlideNight" "isKept" "Z"),
  (Jvm.Cond.lays "SlideNight" "SlideNight" "inUse" "LSlideNight$TrayText;"),
  (Jvm.Cond.lays "SlideNight" "SlideNight" "spareTray" "LSlideNight$TrayText;"),
  (Jvm.Cond.laysFinal "SlideNight" "SlideNight" "lawReader" "LSlideNight$LawReader;"),
  (Jvm.Cond.laysFinal "SlideNight" "SlideNight" "rules" "LSlideNight$Law;"),
  (Jvm.Cond.laysFinal "SlideNight" "SlideNight" "night" "LSlideNight$Evening;"),
  (Jvm.Cond.laysFinal "SlideNight" "SlideNight" "turnRow" "LSlideNight$TurnRow;"),
  (Jvm.Cond.laysFinal "SlideNight" "SlideNight" "choice" "LSlideNight$Choice;"),
  (Jvm.Cond.laysFinal "SlideNight" "SlideNight" "orders" "LSlideNight$Orders;"),
  (Jvm.Cond.lays "SlideNightModel" "SlideNightModel" "told0" "I"),
  (Jvm.Cond.lays "SlideNightModel" "SlideNightModel" "lookers0" "I")]
def xt_3 : List Cond := [(Jvm.Cond.laysFinal "SlideNightModel" "SlideNightModel" "now" "[I"),
  (Jvm.Cond.laysFinal "SlideNightModel" "SlideNightModel" "aside" "[I"),
  (Jvm.Cond.laysFinal "SlideNightModel" "SlideNightModel" "kindOf" "[I"),
  (Jvm.Cond.laysFinal "SlideNightModel" "SlideNightModel" "makerOf" "[I"),
  (Jvm.Cond.laysFinal "SlideNightModel" "SlideNightModel" "worthOf" "[I"),
  (Jvm.Cond.laysFinal "SlideNightModel" "SlideNightModel" "dayOf" "[I"),
  (Jvm.Cond.laysFinal "SlideNightModel" "SlideNightModel" "eyesOf" "[I"),
  (Jvm.Cond.laysFinal "SlideNightModel" "SlideNightModel" "patienceOf" "[I"),
  (Jvm.Cond.laysFinal "SlideNightModel" "SlideNightModel" "sureOf" "[I"),
  (Jvm.Cond.laysFinal "SlideNightModel" "SlideNightModel" "clueA" "[I"),
  (Jvm.Cond.laysFinal "SlideNightModel" "SlideNightModel" "clueB" "[I"),
  (Jvm.Cond.laysFinal "SlideNightModel" "SlideNightModel" "linkA" "[I"),
  (Jvm.Cond.laysFinal "SlideNightModel" "SlideNightModel" "linkB" "[I"),
  (Jvm.Cond.laysFinal "SlideNightModel" "SlideNightModel" "pictures" "[B"),
  (Jvm.Cond.laysFinal "SlideNightModel" "SlideNightModel" "tape" "[B"),
  (Jvm.Cond.lays "SlideNightModel" "SlideNightModel" "taped" "I"),
  (Jvm.Cond.lays "SlideNightModel" "SlideNightModel" "place0" "I"),
  (Jvm.Cond.lays "SlideNightModel" "SlideNightModel" "length0" "I"),
  (Jvm.Cond.lays "SlideNightModel" "SlideNightModel" "fault" "I"),
  (Jvm.Cond.lays "SlideNightModel" "SlideNightModel" "number0" "I"),
  (Jvm.Cond.lays "SlideNightModel" "SlideNightModel" "clues0" "I"),
  (Jvm.Cond.lays "SlideNightModel" "SlideNightModel" "links0" "I"),
  (Jvm.Cond.lays "SlideNightModel" "SlideNightModel" "trayMany" "I"),
  (Jvm.Cond.lays "SlideNightModel" "SlideNightModel" "newMany" "I"),
  (Jvm.Cond.lays "SlideNightModel" "SlideNightModel" "groups" "I"),
  (Jvm.Cond.laysFinal "SlideNightModel" "SlideNightModel" "trayOf" "[I"),
  (Jvm.Cond.laysFinal "SlideNightModel" "SlideNightModel" "newTray" "[I"),
  (Jvm.Cond.laysFinal "SlideNightModel" "SlideNightModel" "groupFrom" "[I"),
  (Jvm.Cond.laysFinal "SlideNightModel" "SlideNightModel" "groupAt" "[I"),
  (Jvm.Cond.lays "SlideNightModel" "SlideNightModel" "open" "I"),
  (Jvm.Cond.lays "SlideNightModel" "SlideNightModel" "codeMany" "I"),
  (Jvm.Cond.lays "SlideNightModel" "SlideNightModel" "waiting" "I")]
def xt_4 : List Cond := [(Jvm.Cond.lays "SlideNightModel" "SlideNightModel" "saidMany" "I"),
  (Jvm.Cond.lays "SlideNightModel" "SlideNightModel" "clauses" "I"),
  (Jvm.Cond.laysFinal "SlideNightModel" "SlideNightModel" "said" "[I"),
  (Jvm.Cond.laysFinal "SlideNightModel" "SlideNightModel" "waitsAt" "[I"),
  (Jvm.Cond.laysFinal "SlideNightModel" "SlideNightModel" "saidLetter" "[I"),
  (Jvm.Cond.laysFinal "SlideNightModel" "SlideNightModel" "saidFrom" "[I"),
  (Jvm.Cond.laysFinal "SlideNightModel" "SlideNightModel" "saidHalf" "[I"),
  (Jvm.Cond.laysFinal "SlideNightModel" "SlideNightModel" "saidTo" "[I"),
  (Jvm.Cond.laysFinal "SlideNightModel" "SlideNightModel" "codes" "[I"),
  (Jvm.Cond.laysFinal "SlideNightModel" "SlideNightModel" "clauseOf" "[I"),
  (Jvm.Cond.laysFinal "SlideNightModel" "SlideNightModel" "codeFrom" "[I"),
  (Jvm.Cond.laysFinal "SlideNightModel" "SlideNightModel" "codeHalf" "[I"),
  (Jvm.Cond.laysFinal "SlideNightModel" "SlideNightModel" "codeTo" "[I"),
  (Jvm.Cond.laysFinal "SlideNightModel" "SlideNightModel" "stack" "[I"),
  (Jvm.Cond.laysFinal "SlideNightModel" "SlideNightModel" "facts" "[I"),
  (Jvm.Cond.lays "SlideNightModel" "SlideNightModel" "shownMany" "I"),
  (Jvm.Cond.lays "SlideNightModel" "SlideNightModel" "seconds" "I"),
  (Jvm.Cond.lays "SlideNightModel" "SlideNightModel" "noticedMany" "I"),
  (Jvm.Cond.lays "SlideNightModel" "SlideNightModel" "turnMany" "I"),
  (Jvm.Cond.lays "SlideNightModel" "SlideNightModel" "jamMany" "I"),
  (Jvm.Cond.lays "SlideNightModel" "SlideNightModel" "popMany" "I"),
  (Jvm.Cond.laysFinal "SlideNightModel" "SlideNightModel" "handOf" "[I"),
  (Jvm.Cond.laysFinal "SlideNightModel" "SlideNightModel" "turnTakes" "[I"),
  (Jvm.Cond.laysFinal "SlideNightModel" "SlideNightModel" "rowNow" "[I"),
  (Jvm.Cond.laysFinal "SlideNightModel" "SlideNightModel" "bestRow" "[I"),
  (Jvm.Cond.laysFinal "SlideNightModel" "SlideNightModel" "seenBy" "[I"),
  (Jvm.Cond.laysFinal "SlideNightModel" "SlideNightModel" "comeTo" "[I"),
  (Jvm.Cond.lays "SlideNightModel" "SlideNightModel" "rightSet" "I"),
  (Jvm.Cond.lays "SlideNightModel" "SlideNightModel" "leastAll" "J"),
  (Jvm.Cond.lays "SlideNightModel" "SlideNightModel" "parts0" "J"),
  (Jvm.Cond.lays "SlideNightModel" "SlideNightModel" "fewMany" "I"),
  (Jvm.Cond.laysFinal "SlideNightModel" "SlideNightModel" "fewOf" "[I")]
def xt_5 : List Cond := [(Jvm.Cond.laysFinal "SlideNightModel" "SlideNightModel" "costOf" "[I"),
  (Jvm.Cond.laysFinal "SlideNightModel" "SlideNightModel" "savesOf" "[J"),
  (Jvm.Cond.laysFinal "SlideNightModel" "SlideNightModel" "spiltOf" "[I"),
  (Jvm.Cond.laysFinal "SlideNightModel" "SlideNightModel" "mustBe" "[I"),
  (Jvm.Cond.laysFinal "SlideNightModel" "SlideNightModel" "waysFrom" "[J"),
  (Jvm.Cond.lays "SlideNightModel" "SlideNightModel" "spiltMany" "I"),
  (Jvm.Cond.lays "SlideNightModel" "SlideNightModel" "isKept" "Z"),
  (Jvm.Cond.lays "SlideNightModel" "SlideNightModel" "keptTold" "I"),
  (Jvm.Cond.lays "SlideNightModel" "SlideNightModel" "keptLookers" "I"),
  (Jvm.Cond.lays "SlideNightModel" "SlideNightModel" "keptClues" "I"),
  (Jvm.Cond.lays "SlideNightModel" "SlideNightModel" "keptLinks" "I"),
  (Jvm.Cond.laysFinal "SlideNightModel" "SlideNightModel" "keptNow" "[I"),
  (Jvm.Cond.laysFinal "SlideNightModel" "SlideNightModel" "keptKind" "[I"),
  (Jvm.Cond.laysFinal "SlideNightModel" "SlideNightModel" "keptMaker" "[I"),
  (Jvm.Cond.laysFinal "SlideNightModel" "SlideNightModel" "keptWorth" "[I"),
  (Jvm.Cond.laysFinal "SlideNightModel" "SlideNightModel" "keptDay" "[I"),
  (Jvm.Cond.laysFinal "SlideNightModel" "SlideNightModel" "keptEyes" "[I"),
  (Jvm.Cond.laysFinal "SlideNightModel" "SlideNightModel" "keptPatience" "[I"),
  (Jvm.Cond.laysFinal "SlideNightModel" "SlideNightModel" "keptSure" "[I"),
  (Jvm.Cond.laysFinal "SlideNightModel" "SlideNightModel" "keptClueA" "[I"),
  (Jvm.Cond.laysFinal "SlideNightModel" "SlideNightModel" "keptClueB" "[I"),
  (Jvm.Cond.laysFinal "SlideNightModel" "SlideNightModel" "keptLinkA" "[I"),
  (Jvm.Cond.laysFinal "SlideNightModel" "SlideNightModel" "keptLinkB" "[I"),
  (Jvm.Cond.laysFinal "SlideNightModel" "SlideNightModel" "keptPictures" "[B"),
  (Jvm.Cond.initialized "SlideNight$Choice"),
  (Jvm.Cond.initialized "SlideNight$Evening"),
  (Jvm.Cond.initialized "SlideNight$Law"),
  (Jvm.Cond.initialized "SlideNight$LawCode"),
  (Jvm.Cond.initialized "SlideNight$LawReader"),
  (Jvm.Cond.initialized "SlideNight$Orders"),
  (Jvm.Cond.initialized "SlideNight$Pairs"),
  (Jvm.Cond.initialized "SlideNight$Slide")]
def xt_6 : List Cond := [(Jvm.Cond.initialized "SlideNight$State"),
  (Jvm.Cond.initialized "SlideNight$TrayText"),
  (Jvm.Cond.initialized "SlideNight$TurnRow"),
  (Jvm.Cond.initialized "SlideNight"),
  (Jvm.Cond.initialized "SlideNightModel"),
  (Jvm.Cond.initialized "java/lang/Math"),
  (Jvm.Cond.initialized "java/lang/System"),
  (Jvm.Cond.instantiable "SlideNight$Choice" (8 : Nat)),
  (Jvm.Cond.instantiable "SlideNight$Evening" (11 : Nat)),
  (Jvm.Cond.instantiable "SlideNight$Law" (3 : Nat)),
  (Jvm.Cond.instantiable "SlideNight$LawCode" (10 : Nat)),
  (Jvm.Cond.instantiable "SlideNight$LawReader" (5 : Nat)),
  (Jvm.Cond.instantiable "SlideNight$Orders" (10 : Nat)),
  (Jvm.Cond.instantiable "SlideNight$Pairs" (3 : Nat)),
  (Jvm.Cond.instantiable "SlideNight$Slide" (10 : Nat)),
  (Jvm.Cond.instantiable "SlideNight$State" (8 : Nat)),
  (Jvm.Cond.instantiable "SlideNight$TrayText" (6 : Nat)),
  (Jvm.Cond.instantiable "SlideNight$TurnRow" (7 : Nat)),
  (Jvm.Cond.instantiable "SlideNight" (13 : Nat)),
  (Jvm.Cond.instantiable "SlideNightModel" (90 : Nat)),
  (Jvm.Cond.arrayClass Jvm.ClassFile.FieldType.int),
  (Jvm.Cond.arrayClass Jvm.ClassFile.FieldType.byte),
  (Jvm.Cond.arrayClass Jvm.ClassFile.FieldType.long),
  (Jvm.Cond.instanceMethod ({ cls := "java/lang/Object", name := "<init>", desc := "()V" } : Jvm.MethodName)),
  (Jvm.Cond.static ({ cls := "java/lang/Math", name := "max", desc := "(II)I" } : Jvm.MethodName)),
  (Jvm.Cond.static ({ cls := "java/lang/Math", name := "min", desc := "(II)I" } : Jvm.MethodName)),
  (Jvm.Cond.static ({ cls := "java/lang/Math", name := "abs", desc := "(J)J" } : Jvm.MethodName)),
  (Jvm.Cond.static ({ cls := "java/lang/System", name := "arraycopy", desc := "(Ljava/lang/Object;ILjava/lang/Object;II)V" } : Jvm.MethodName)),
  (Jvm.Cond.native ({ cls := "java/lang/System", name := "arraycopy", desc := "(Ljava/lang/Object;ILjava/lang/Object;II)V" } : Jvm.MethodName)),
  (Jvm.Cond.instanceMethod ({ cls := "SlideNight$Choice", name := "bind", desc := "(LSlideNight$Pairs;)V" } : Jvm.MethodName)),
  (Jvm.Cond.selects "SlideNight$Choice" ({ cls := "SlideNight$Choice", name := "bind", desc := "(LSlideNight$Pairs;)V" } : Jvm.MethodName) ({ cls := "SlideNight$Choice", name := "bind", desc := "(LSlideNight$Pairs;)V" } : Jvm.MethodName)),
  (Jvm.Cond.instanceMethod ({ cls := "SlideNight$Choice", name := "clear", desc := "()V" } : Jvm.MethodName))]
def xt_7 : List Cond := [(Jvm.Cond.selects "SlideNight$Choice" ({ cls := "SlideNight$Choice", name := "clear", desc := "()V" } : Jvm.MethodName) ({ cls := "SlideNight$Choice", name := "clear", desc := "()V" } : Jvm.MethodName)),
  (Jvm.Cond.instanceMethod ({ cls := "SlideNight$Choice", name := "find", desc := "(I)V" } : Jvm.MethodName)),
  (Jvm.Cond.selects "SlideNight$Choice" ({ cls := "SlideNight$Choice", name := "find", desc := "(I)V" } : Jvm.MethodName) ({ cls := "SlideNight$Choice", name := "find", desc := "(I)V" } : Jvm.MethodName)),
  (Jvm.Cond.instanceMethod ({ cls := "SlideNight$Choice", name := "hasRoom", desc := "()Z" } : Jvm.MethodName)),
  (Jvm.Cond.selects "SlideNight$Choice" ({ cls := "SlideNight$Choice", name := "hasRoom", desc := "()Z" } : Jvm.MethodName) ({ cls := "SlideNight$Choice", name := "hasRoom", desc := "()Z" } : Jvm.MethodName)),
  (Jvm.Cond.instanceMethod ({ cls := "SlideNight$Choice", name := "<init>", desc := "()V" } : Jvm.MethodName)),
  (Jvm.Cond.instanceMethod ({ cls := "SlideNight$Evening", name := "begin", desc := "(LSlideNight$State;)V" } : Jvm.MethodName)),
  (Jvm.Cond.selects "SlideNight$Evening" ({ cls := "SlideNight$Evening", name := "begin", desc := "(LSlideNight$State;)V" } : Jvm.MethodName) ({ cls := "SlideNight$Evening", name := "begin", desc := "(LSlideNight$State;)V" } : Jvm.MethodName)),
  (Jvm.Cond.instanceMethod ({ cls := "SlideNight$Evening", name := "goThrough", desc := "(LSlideNight$State;LSlideNight$Law;LSlideNight$TrayText;)V" } : Jvm.MethodName)),
  (Jvm.Cond.selects "SlideNight$Evening" ({ cls := "SlideNight$Evening", name := "goThrough", desc := "(LSlideNight$State;LSlideNight$Law;LSlideNight$TrayText;)V" } : Jvm.MethodName) ({ cls := "SlideNight$Evening", name := "goThrough", desc := "(LSlideNight$State;LSlideNight$Law;LSlideNight$TrayText;)V" } : Jvm.MethodName)),
  (Jvm.Cond.instanceMethod ({ cls := "SlideNight$Evening", name := "<init>", desc := "()V" } : Jvm.MethodName)),
  (Jvm.Cond.instanceMethod ({ cls := "SlideNight$Evening", name := "leaveIn", desc := "(LSlideNight$State;)V" } : Jvm.MethodName)),
  (Jvm.Cond.selects "SlideNight$Evening" ({ cls := "SlideNight$Evening", name := "leaveIn", desc := "(LSlideNight$State;)V" } : Jvm.MethodName) ({ cls := "SlideNight$Evening", name := "leaveIn", desc := "(LSlideNight$State;)V" } : Jvm.MethodName)),
  (Jvm.Cond.instanceMethod ({ cls := "SlideNight$Evening", name := "wrongOf", desc := "(LSlideNight$State;)I" } : Jvm.MethodName)),
  (Jvm.Cond.selects "SlideNight$Evening" ({ cls := "SlideNight$Evening", name := "wrongOf", desc := "(LSlideNight$State;)I" } : Jvm.MethodName) ({ cls := "SlideNight$Evening", name := "wrongOf", desc := "(LSlideNight$State;)I" } : Jvm.MethodName)),
  (Jvm.Cond.instanceMethod ({ cls := "SlideNight$Law", name := "<init>", desc := "()V" } : Jvm.MethodName)),
  (Jvm.Cond.instanceMethod ({ cls := "SlideNight$LawCode", name := "<init>", desc := "()V" } : Jvm.MethodName)),
  (Jvm.Cond.instanceMethod ({ cls := "SlideNight$LawReader", name := "<init>", desc := "(LSlideNight$LawCode;)V" } : Jvm.MethodName)),
  (Jvm.Cond.instanceMethod ({ cls := "SlideNight$Orders", name := "<init>", desc := "()V" } : Jvm.MethodName)),
  (Jvm.Cond.instanceMethod ({ cls := "SlideNight$Pairs", name := "copyFrom", desc := "(LSlideNight$Pairs;)V" } : Jvm.MethodName)),
  (Jvm.Cond.selects "SlideNight$Pairs" ({ cls := "SlideNight$Pairs", name := "copyFrom", desc := "(LSlideNight$Pairs;)V" } : Jvm.MethodName) ({ cls := "SlideNight$Pairs", name := "copyFrom", desc := "(LSlideNight$Pairs;)V" } : Jvm.MethodName)),
  (Jvm.Cond.instanceMethod ({ cls := "SlideNight$Pairs", name := "<init>", desc := "(I)V" } : Jvm.MethodName)),
  (Jvm.Cond.instanceMethod ({ cls := "SlideNight$Slide", name := "copyFrom", desc := "(LSlideNight$Slide;)V" } : Jvm.MethodName)),
  (Jvm.Cond.selects "SlideNight$Slide" ({ cls := "SlideNight$Slide", name := "copyFrom", desc := "(LSlideNight$Slide;)V" } : Jvm.MethodName) ({ cls := "SlideNight$Slide", name := "copyFrom", desc := "(LSlideNight$Slide;)V" } : Jvm.MethodName)),
  (Jvm.Cond.instanceMethod ({ cls := "SlideNight$Slide", name := "<init>", desc := "(I)V" } : Jvm.MethodName)),
  (Jvm.Cond.instanceMethod ({ cls := "SlideNight$State", name := "copyFrom", desc := "(LSlideNight$State;)V" } : Jvm.MethodName)),
  (Jvm.Cond.selects "SlideNight$State" ({ cls := "SlideNight$State", name := "copyFrom", desc := "(LSlideNight$State;)V" } : Jvm.MethodName) ({ cls := "SlideNight$State", name := "copyFrom", desc := "(LSlideNight$State;)V" } : Jvm.MethodName)),
  (Jvm.Cond.instanceMethod ({ cls := "SlideNight$State", name := "hasLooker", desc := "(I)Z" } : Jvm.MethodName)),
  (Jvm.Cond.selects "SlideNight$State" ({ cls := "SlideNight$State", name := "hasLooker", desc := "(I)Z" } : Jvm.MethodName) ({ cls := "SlideNight$State", name := "hasLooker", desc := "(I)Z" } : Jvm.MethodName)),
  (Jvm.Cond.instanceMethod ({ cls := "SlideNight$State", name := "<init>", desc := "()V" } : Jvm.MethodName)),
  (Jvm.Cond.instanceMethod ({ cls := "SlideNight$State", name := "sureCount", desc := "()I" } : Jvm.MethodName)),
  (Jvm.Cond.selects "SlideNight$State" ({ cls := "SlideNight$State", name := "sureCount", desc := "()I" } : Jvm.MethodName) ({ cls := "SlideNight$State", name := "sureCount", desc := "()I" } : Jvm.MethodName))]
def xt_8 : List Cond := [(Jvm.Cond.instanceMethod ({ cls := "SlideNight$State", name := "toldCount", desc := "()I" } : Jvm.MethodName)),
  (Jvm.Cond.selects "SlideNight$State" ({ cls := "SlideNight$State", name := "toldCount", desc := "()I" } : Jvm.MethodName) ({ cls := "SlideNight$State", name := "toldCount", desc := "()I" } : Jvm.MethodName)),
  (Jvm.Cond.instanceMethod ({ cls := "SlideNight$State", name := "toldSlide", desc := "(I)LSlideNight$Slide;" } : Jvm.MethodName)),
  (Jvm.Cond.selects "SlideNight$State" ({ cls := "SlideNight$State", name := "toldSlide", desc := "(I)LSlideNight$Slide;" } : Jvm.MethodName) ({ cls := "SlideNight$State", name := "toldSlide", desc := "(I)LSlideNight$Slide;" } : Jvm.MethodName)),
  (Jvm.Cond.instanceMethod ({ cls := "SlideNight$State", name := "wrongCount", desc := "()I" } : Jvm.MethodName)),
  (Jvm.Cond.selects "SlideNight$State" ({ cls := "SlideNight$State", name := "wrongCount", desc := "()I" } : Jvm.MethodName) ({ cls := "SlideNight$State", name := "wrongCount", desc := "()I" } : Jvm.MethodName)),
  (Jvm.Cond.instanceMethod ({ cls := "SlideNight$TrayText", name := "<init>", desc := "()V" } : Jvm.MethodName)),
  (Jvm.Cond.instanceMethod ({ cls := "SlideNight$TrayText", name := "slideAt", desc := "(I)I" } : Jvm.MethodName)),
  (Jvm.Cond.selects "SlideNight$TrayText" ({ cls := "SlideNight$TrayText", name := "slideAt", desc := "(I)I" } : Jvm.MethodName) ({ cls := "SlideNight$TrayText", name := "slideAt", desc := "(I)I" } : Jvm.MethodName)),
  (Jvm.Cond.instanceMethod ({ cls := "SlideNight$TurnRow", name := "<init>", desc := "()V" } : Jvm.MethodName)),
  (Jvm.Cond.instanceMethod ({ cls := "SlideNight", name := "addBytes", desc := "(I)V" } : Jvm.MethodName)),
  (Jvm.Cond.selects "SlideNight" ({ cls := "SlideNight", name := "addBytes", desc := "(I)V" } : Jvm.MethodName) ({ cls := "SlideNight", name := "addBytes", desc := "(I)V" } : Jvm.MethodName)),
  (Jvm.Cond.instanceMethod ({ cls := "SlideNight", name := "check", desc := "(II)I" } : Jvm.MethodName)),
  (Jvm.Cond.selects "SlideNight" ({ cls := "SlideNight", name := "check", desc := "(II)I" } : Jvm.MethodName) ({ cls := "SlideNight", name := "check", desc := "(II)I" } : Jvm.MethodName)),
  (Jvm.Cond.instanceMethod ({ cls := "SlideNight", name := "clue", desc := "(II)I" } : Jvm.MethodName)),
  (Jvm.Cond.selects "SlideNight" ({ cls := "SlideNight", name := "clue", desc := "(II)I" } : Jvm.MethodName) ({ cls := "SlideNight", name := "clue", desc := "(II)I" } : Jvm.MethodName)),
  (Jvm.Cond.static ({ cls := "SlideNight", name := "commonDivisor", desc := "(JJ)J" } : Jvm.MethodName)),
  (Jvm.Cond.static ({ cls := "SlideNight", name := "cornerBy", desc := "(II)I" } : Jvm.MethodName)),
  (Jvm.Cond.instanceMethod ({ cls := "SlideNight", name := "cornersOf", desc := "(I)I" } : Jvm.MethodName)),
  (Jvm.Cond.selects "SlideNight" ({ cls := "SlideNight", name := "cornersOf", desc := "(I)I" } : Jvm.MethodName) ({ cls := "SlideNight", name := "cornersOf", desc := "(I)I" } : Jvm.MethodName)),
  (Jvm.Cond.instanceMethod ({ cls := "SlideNight", name := "count", desc := "(I)I" } : Jvm.MethodName)),
  (Jvm.Cond.selects "SlideNight" ({ cls := "SlideNight", name := "count", desc := "(I)I" } : Jvm.MethodName) ({ cls := "SlideNight", name := "count", desc := "(I)I" } : Jvm.MethodName)),
  (Jvm.Cond.instanceMethod ({ cls := "SlideNight", name := "day", desc := "(II)Z" } : Jvm.MethodName)),
  (Jvm.Cond.selects "SlideNight" ({ cls := "SlideNight", name := "day", desc := "(II)Z" } : Jvm.MethodName) ({ cls := "SlideNight", name := "day", desc := "(II)Z" } : Jvm.MethodName)),
  (Jvm.Cond.instanceMethod ({ cls := "SlideNight", name := "dots", desc := "(II)I" } : Jvm.MethodName)),
  (Jvm.Cond.selects "SlideNight" ({ cls := "SlideNight", name := "dots", desc := "(II)I" } : Jvm.MethodName) ({ cls := "SlideNight", name := "dots", desc := "(II)I" } : Jvm.MethodName)),
  (Jvm.Cond.instanceMethod ({ cls := "SlideNight", name := "evening", desc := "()I" } : Jvm.MethodName)),
  (Jvm.Cond.selects "SlideNight" ({ cls := "SlideNight", name := "evening", desc := "()I" } : Jvm.MethodName) ({ cls := "SlideNight", name := "evening", desc := "()I" } : Jvm.MethodName)),
  (Jvm.Cond.instanceMethod ({ cls := "SlideNight", name := "feed", desc := "(IIIII)I" } : Jvm.MethodName)),
  (Jvm.Cond.selects "SlideNight" ({ cls := "SlideNight", name := "feed", desc := "(IIIII)I" } : Jvm.MethodName) ({ cls := "SlideNight", name := "feed", desc := "(IIIII)I" } : Jvm.MethodName)),
  (Jvm.Cond.instanceMethod ({ cls := "SlideNight", name := "gone", desc := "(I)Z" } : Jvm.MethodName)),
  (Jvm.Cond.selects "SlideNight" ({ cls := "SlideNight", name := "gone", desc := "(I)Z" } : Jvm.MethodName) ({ cls := "SlideNight", name := "gone", desc := "(I)Z" } : Jvm.MethodName))]
def xt_9 : List Cond := [(Jvm.Cond.instanceMethod ({ cls := "SlideNight", name := "hand", desc := "(I)J" } : Jvm.MethodName)),
  (Jvm.Cond.selects "SlideNight" ({ cls := "SlideNight", name := "hand", desc := "(I)J" } : Jvm.MethodName) ({ cls := "SlideNight", name := "hand", desc := "(I)J" } : Jvm.MethodName)),
  (Jvm.Cond.instanceMethod ({ cls := "SlideNight", name := "inTray", desc := "(I)I" } : Jvm.MethodName)),
  (Jvm.Cond.selects "SlideNight" ({ cls := "SlideNight", name := "inTray", desc := "(I)I" } : Jvm.MethodName) ({ cls := "SlideNight", name := "inTray", desc := "(I)I" } : Jvm.MethodName)),
  (Jvm.Cond.instanceMethod ({ cls := "SlideNight", name := "<init>", desc := "()V" } : Jvm.MethodName)),
  (Jvm.Cond.static ({ cls := "SlideNight", name := "isIn", desc := "(III)Z" } : Jvm.MethodName)),
  (Jvm.Cond.static ({ cls := "SlideNight", name := "isWay", desc := "(I)Z" } : Jvm.MethodName)),
  (Jvm.Cond.instanceMethod ({ cls := "SlideNight", name := "keep", desc := "()I" } : Jvm.MethodName)),
  (Jvm.Cond.selects "SlideNight" ({ cls := "SlideNight", name := "keep", desc := "()I" } : Jvm.MethodName) ({ cls := "SlideNight", name := "keep", desc := "()I" } : Jvm.MethodName)),
  (Jvm.Cond.instanceMethod ({ cls := "SlideNight", name := "lamp", desc := "(III)J" } : Jvm.MethodName)),
  (Jvm.Cond.selects "SlideNight" ({ cls := "SlideNight", name := "lamp", desc := "(III)J" } : Jvm.MethodName) ({ cls := "SlideNight", name := "lamp", desc := "(III)J" } : Jvm.MethodName)),
  (Jvm.Cond.instanceMethod ({ cls := "SlideNight", name := "lamps", desc := "(I)Z" } : Jvm.MethodName)),
  (Jvm.Cond.selects "SlideNight" ({ cls := "SlideNight", name := "lamps", desc := "(I)Z" } : Jvm.MethodName) ({ cls := "SlideNight", name := "lamps", desc := "(I)Z" } : Jvm.MethodName)),
  (Jvm.Cond.instanceMethod ({ cls := "SlideNight", name := "law", desc := "(I)I" } : Jvm.MethodName)),
  (Jvm.Cond.selects "SlideNight" ({ cls := "SlideNight", name := "law", desc := "(I)I" } : Jvm.MethodName) ({ cls := "SlideNight", name := "law", desc := "(I)I" } : Jvm.MethodName)),
  (Jvm.Cond.instanceMethod ({ cls := "SlideNight", name := "leave", desc := "(II)J" } : Jvm.MethodName)),
  (Jvm.Cond.selects "SlideNight" ({ cls := "SlideNight", name := "leave", desc := "(II)J" } : Jvm.MethodName) ({ cls := "SlideNight", name := "leave", desc := "(II)J" } : Jvm.MethodName)),
  (Jvm.Cond.instanceMethod ({ cls := "SlideNight", name := "leftOut", desc := "(II)I" } : Jvm.MethodName)),
  (Jvm.Cond.selects "SlideNight" ({ cls := "SlideNight", name := "leftOut", desc := "(II)I" } : Jvm.MethodName) ({ cls := "SlideNight", name := "leftOut", desc := "(II)I" } : Jvm.MethodName)),
  (Jvm.Cond.instanceMethod ({ cls := "SlideNight", name := "lightBox", desc := "(II)J" } : Jvm.MethodName)),
  (Jvm.Cond.selects "SlideNight" ({ cls := "SlideNight", name := "lightBox", desc := "(II)J" } : Jvm.MethodName) ({ cls := "SlideNight", name := "lightBox", desc := "(II)J" } : Jvm.MethodName)),
  (Jvm.Cond.instanceMethod ({ cls := "SlideNight", name := "link", desc := "(II)I" } : Jvm.MethodName)),
  (Jvm.Cond.selects "SlideNight" ({ cls := "SlideNight", name := "link", desc := "(II)I" } : Jvm.MethodName) ({ cls := "SlideNight", name := "link", desc := "(II)I" } : Jvm.MethodName)),
  (Jvm.Cond.instanceMethod ({ cls := "SlideNight", name := "looker", desc := "(III)Z" } : Jvm.MethodName)),
  (Jvm.Cond.selects "SlideNight" ({ cls := "SlideNight", name := "looker", desc := "(III)Z" } : Jvm.MethodName) ({ cls := "SlideNight", name := "looker", desc := "(III)Z" } : Jvm.MethodName)),
  (Jvm.Cond.instanceMethod ({ cls := "SlideNight", name := "odds", desc := "(IIII)I" } : Jvm.MethodName)),
  (Jvm.Cond.selects "SlideNight" ({ cls := "SlideNight", name := "odds", desc := "(IIII)I" } : Jvm.MethodName) ({ cls := "SlideNight", name := "odds", desc := "(IIII)I" } : Jvm.MethodName)),
  (Jvm.Cond.static ({ cls := "SlideNight", name := "partOf", desc := "(JJZ)J" } : Jvm.MethodName)),
  (Jvm.Cond.instanceMethod ({ cls := "SlideNight", name := "put", desc := "(II)Z" } : Jvm.MethodName)),
  (Jvm.Cond.selects "SlideNight" ({ cls := "SlideNight", name := "put", desc := "(II)Z" } : Jvm.MethodName) ({ cls := "SlideNight", name := "put", desc := "(II)Z" } : Jvm.MethodName)),
  (Jvm.Cond.instanceMethod ({ cls := "SlideNight", name := "putIn", desc := "()I" } : Jvm.MethodName)),
  (Jvm.Cond.selects "SlideNight" ({ cls := "SlideNight", name := "putIn", desc := "()I" } : Jvm.MethodName) ({ cls := "SlideNight", name := "putIn", desc := "()I" } : Jvm.MethodName))]
def xt_10 : List Cond := [(Jvm.Cond.instanceMethod ({ cls := "SlideNight", name := "says", desc := "(IIII)J" } : Jvm.MethodName)),
  (Jvm.Cond.selects "SlideNight" ({ cls := "SlideNight", name := "says", desc := "(IIII)J" } : Jvm.MethodName) ({ cls := "SlideNight", name := "says", desc := "(IIII)J" } : Jvm.MethodName)),
  (Jvm.Cond.instanceMethod ({ cls := "SlideNight", name := "seed", desc := "(I)Z" } : Jvm.MethodName)),
  (Jvm.Cond.selects "SlideNight" ({ cls := "SlideNight", name := "seed", desc := "(I)Z" } : Jvm.MethodName) ({ cls := "SlideNight", name := "seed", desc := "(I)Z" } : Jvm.MethodName)),
  (Jvm.Cond.instanceMethod ({ cls := "SlideNight", name := "shadow", desc := "(III)I" } : Jvm.MethodName)),
  (Jvm.Cond.selects "SlideNight" ({ cls := "SlideNight", name := "shadow", desc := "(III)I" } : Jvm.MethodName) ({ cls := "SlideNight", name := "shadow", desc := "(III)I" } : Jvm.MethodName)),
  (Jvm.Cond.instanceMethod ({ cls := "SlideNight", name := "shown", desc := "(III)I" } : Jvm.MethodName)),
  (Jvm.Cond.selects "SlideNight" ({ cls := "SlideNight", name := "shown", desc := "(III)I" } : Jvm.MethodName) ({ cls := "SlideNight", name := "shown", desc := "(III)I" } : Jvm.MethodName)),
  (Jvm.Cond.instanceMethod ({ cls := "SlideNight", name := "slide", desc := "(IIII)Z" } : Jvm.MethodName)),
  (Jvm.Cond.selects "SlideNight" ({ cls := "SlideNight", name := "slide", desc := "(IIII)Z" } : Jvm.MethodName) ({ cls := "SlideNight", name := "slide", desc := "(IIII)Z" } : Jvm.MethodName)),
  (Jvm.Cond.instanceMethod ({ cls := "SlideNight", name := "slideIs", desc := "(II)I" } : Jvm.MethodName)),
  (Jvm.Cond.selects "SlideNight" ({ cls := "SlideNight", name := "slideIs", desc := "(II)I" } : Jvm.MethodName) ({ cls := "SlideNight", name := "slideIs", desc := "(II)I" } : Jvm.MethodName)),
  (Jvm.Cond.instanceMethod ({ cls := "SlideNight", name := "spilt", desc := "(II)J" } : Jvm.MethodName)),
  (Jvm.Cond.selects "SlideNight" ({ cls := "SlideNight", name := "spilt", desc := "(II)J" } : Jvm.MethodName) ({ cls := "SlideNight", name := "spilt", desc := "(II)J" } : Jvm.MethodName)),
  (Jvm.Cond.instanceMethod ({ cls := "SlideNight", name := "sure", desc := "(II)Z" } : Jvm.MethodName)),
  (Jvm.Cond.selects "SlideNight" ({ cls := "SlideNight", name := "sure", desc := "(II)Z" } : Jvm.MethodName) ({ cls := "SlideNight", name := "sure", desc := "(II)Z" } : Jvm.MethodName)),
  (Jvm.Cond.instanceMethod ({ cls := "SlideNight", name := "tapeHas", desc := "(III)Z" } : Jvm.MethodName)),
  (Jvm.Cond.selects "SlideNight" ({ cls := "SlideNight", name := "tapeHas", desc := "(III)Z" } : Jvm.MethodName) ({ cls := "SlideNight", name := "tapeHas", desc := "(III)Z" } : Jvm.MethodName)),
  (Jvm.Cond.instanceMethod ({ cls := "SlideNight", name := "tenthsOfLookers", desc := "()J" } : Jvm.MethodName)),
  (Jvm.Cond.selects "SlideNight" ({ cls := "SlideNight", name := "tenthsOfLookers", desc := "()J" } : Jvm.MethodName) ({ cls := "SlideNight", name := "tenthsOfLookers", desc := "()J" } : Jvm.MethodName)),
  (Jvm.Cond.static ({ cls := "SlideNight", name := "timeBy", desc := "(II)I" } : Jvm.MethodName)),
  (Jvm.Cond.instanceMethod ({ cls := "SlideNight", name := "toTurn", desc := "(II)J" } : Jvm.MethodName)),
  (Jvm.Cond.selects "SlideNight" ({ cls := "SlideNight", name := "toTurn", desc := "(II)J" } : Jvm.MethodName) ({ cls := "SlideNight", name := "toTurn", desc := "(II)J" } : Jvm.MethodName)),
  (Jvm.Cond.instanceMethod ({ cls := "SlideNight", name := "tray", desc := "(I)I" } : Jvm.MethodName)),
  (Jvm.Cond.selects "SlideNight" ({ cls := "SlideNight", name := "tray", desc := "(I)I" } : Jvm.MethodName) ({ cls := "SlideNight", name := "tray", desc := "(I)I" } : Jvm.MethodName)),
  (Jvm.Cond.instanceMethod ({ cls := "SlideNight", name := "tried", desc := "(I)I" } : Jvm.MethodName)),
  (Jvm.Cond.selects "SlideNight" ({ cls := "SlideNight", name := "tried", desc := "(I)I" } : Jvm.MethodName) ({ cls := "SlideNight", name := "tried", desc := "(I)I" } : Jvm.MethodName)),
  (Jvm.Cond.static ({ cls := "SlideNight", name := "turnBetween", desc := "(II)I" } : Jvm.MethodName)),
  (Jvm.Cond.instanceMethod ({ cls := "SlideNight", name := "undo", desc := "()Z" } : Jvm.MethodName)),
  (Jvm.Cond.selects "SlideNight" ({ cls := "SlideNight", name := "undo", desc := "()Z" } : Jvm.MethodName) ({ cls := "SlideNight", name := "undo", desc := "()Z" } : Jvm.MethodName)),
  (Jvm.Cond.static ({ cls := "SlideNight", name := "wayBack", desc := "(I)I" } : Jvm.MethodName)),
  (Jvm.Cond.static ({ cls := "SlideNight", name := "wayThen", desc := "(II)I" } : Jvm.MethodName))]
def xt_11 : List Cond := [(Jvm.Cond.instanceMethod ({ cls := "SlideNight", name := "ways", desc := "(III)I" } : Jvm.MethodName)),
  (Jvm.Cond.selects "SlideNight" ({ cls := "SlideNight", name := "ways", desc := "(III)I" } : Jvm.MethodName) ({ cls := "SlideNight", name := "ways", desc := "(III)I" } : Jvm.MethodName)),
  (Jvm.Cond.static ({ cls := "SlideNight", name := "waysWithDot", desc := "(II)I" } : Jvm.MethodName)),
  (Jvm.Cond.instanceMethod ({ cls := "SlideNightModel", name := "areLinked", desc := "(I)Z" } : Jvm.MethodName)),
  (Jvm.Cond.selects "SlideNightModel" ({ cls := "SlideNightModel", name := "areLinked", desc := "(I)Z" } : Jvm.MethodName) ({ cls := "SlideNightModel", name := "areLinked", desc := "(I)Z" } : Jvm.MethodName)),
  (Jvm.Cond.static ({ cls := "SlideNightModel", name := "back", desc := "(I)I" } : Jvm.MethodName)),
  (Jvm.Cond.static ({ cls := "SlideNightModel", name := "bits", desc := "(I)I" } : Jvm.MethodName)),
  (Jvm.Cond.static ({ cls := "SlideNightModel", name := "both", desc := "(II)I" } : Jvm.MethodName)),
  (Jvm.Cond.instanceMethod ({ cls := "SlideNightModel", name := "check", desc := "(II)I" } : Jvm.MethodName)),
  (Jvm.Cond.selects "SlideNightModel" ({ cls := "SlideNightModel", name := "check", desc := "(II)I" } : Jvm.MethodName) ({ cls := "SlideNightModel", name := "check", desc := "(II)I" } : Jvm.MethodName)),
  (Jvm.Cond.instanceMethod ({ cls := "SlideNightModel", name := "clue", desc := "(II)I" } : Jvm.MethodName)),
  (Jvm.Cond.selects "SlideNightModel" ({ cls := "SlideNightModel", name := "clue", desc := "(II)I" } : Jvm.MethodName) ({ cls := "SlideNightModel", name := "clue", desc := "(II)I" } : Jvm.MethodName)),
  (Jvm.Cond.static ({ cls := "SlideNightModel", name := "copies", desc := "([I[II)V" } : Jvm.MethodName)),
  (Jvm.Cond.static ({ cls := "SlideNightModel", name := "cornerBy", desc := "(II)I" } : Jvm.MethodName)),
  (Jvm.Cond.instanceMethod ({ cls := "SlideNightModel", name := "cornersOf", desc := "(I)I" } : Jvm.MethodName)),
  (Jvm.Cond.selects "SlideNightModel" ({ cls := "SlideNightModel", name := "cornersOf", desc := "(I)I" } : Jvm.MethodName) ({ cls := "SlideNightModel", name := "cornersOf", desc := "(I)I" } : Jvm.MethodName)),
  (Jvm.Cond.instanceMethod ({ cls := "SlideNightModel", name := "count", desc := "(I)I" } : Jvm.MethodName)),
  (Jvm.Cond.selects "SlideNightModel" ({ cls := "SlideNightModel", name := "count", desc := "(I)I" } : Jvm.MethodName) ({ cls := "SlideNightModel", name := "count", desc := "(I)I" } : Jvm.MethodName)),
  (Jvm.Cond.instanceMethod ({ cls := "SlideNightModel", name := "day", desc := "(II)Z" } : Jvm.MethodName)),
  (Jvm.Cond.selects "SlideNightModel" ({ cls := "SlideNightModel", name := "day", desc := "(II)Z" } : Jvm.MethodName) ({ cls := "SlideNightModel", name := "day", desc := "(II)Z" } : Jvm.MethodName)),
  (Jvm.Cond.instanceMethod ({ cls := "SlideNightModel", name := "dots", desc := "(II)I" } : Jvm.MethodName)),
  (Jvm.Cond.selects "SlideNightModel" ({ cls := "SlideNightModel", name := "dots", desc := "(II)I" } : Jvm.MethodName) ({ cls := "SlideNightModel", name := "dots", desc := "(II)I" } : Jvm.MethodName)),
  (Jvm.Cond.instanceMethod ({ cls := "SlideNightModel", name := "evening", desc := "()I" } : Jvm.MethodName)),
  (Jvm.Cond.selects "SlideNightModel" ({ cls := "SlideNightModel", name := "evening", desc := "()I" } : Jvm.MethodName) ({ cls := "SlideNightModel", name := "evening", desc := "()I" } : Jvm.MethodName)),
  (Jvm.Cond.instanceMethod ({ cls := "SlideNightModel", name := "feed", desc := "(IIIII)I" } : Jvm.MethodName)),
  (Jvm.Cond.selects "SlideNightModel" ({ cls := "SlideNightModel", name := "feed", desc := "(IIIII)I" } : Jvm.MethodName) ({ cls := "SlideNightModel", name := "feed", desc := "(IIIII)I" } : Jvm.MethodName)),
  (Jvm.Cond.static ({ cls := "SlideNightModel", name := "gcd", desc := "(JJ)J" } : Jvm.MethodName)),
  (Jvm.Cond.instanceMethod ({ cls := "SlideNightModel", name := "goesThrough", desc := "()V" } : Jvm.MethodName)),
  (Jvm.Cond.selects "SlideNightModel" ({ cls := "SlideNightModel", name := "goesThrough", desc := "()V" } : Jvm.MethodName) ({ cls := "SlideNightModel", name := "goesThrough", desc := "()V" } : Jvm.MethodName)),
  (Jvm.Cond.instanceMethod ({ cls := "SlideNightModel", name := "gone", desc := "(I)Z" } : Jvm.MethodName)),
  (Jvm.Cond.selects "SlideNightModel" ({ cls := "SlideNightModel", name := "gone", desc := "(I)Z" } : Jvm.MethodName) ({ cls := "SlideNightModel", name := "gone", desc := "(I)Z" } : Jvm.MethodName)),
  (Jvm.Cond.instanceMethod ({ cls := "SlideNightModel", name := "hand", desc := "(I)J" } : Jvm.MethodName))]
def xt_12 : List Cond := [(Jvm.Cond.selects "SlideNightModel" ({ cls := "SlideNightModel", name := "hand", desc := "(I)J" } : Jvm.MethodName) ({ cls := "SlideNightModel", name := "hand", desc := "(I)J" } : Jvm.MethodName)),
  (Jvm.Cond.static ({ cls := "SlideNightModel", name := "has", desc := "(II)Z" } : Jvm.MethodName)),
  (Jvm.Cond.static ({ cls := "SlideNightModel", name := "in", desc := "(III)Z" } : Jvm.MethodName)),
  (Jvm.Cond.instanceMethod ({ cls := "SlideNightModel", name := "inTray", desc := "(I)I" } : Jvm.MethodName)),
  (Jvm.Cond.selects "SlideNightModel" ({ cls := "SlideNightModel", name := "inTray", desc := "(I)I" } : Jvm.MethodName) ({ cls := "SlideNightModel", name := "inTray", desc := "(I)I" } : Jvm.MethodName)),
  (Jvm.Cond.instanceMethod ({ cls := "SlideNightModel", name := "<init>", desc := "()V" } : Jvm.MethodName)),
  (Jvm.Cond.instanceMethod ({ cls := "SlideNightModel", name := "isLooker", desc := "(I)Z" } : Jvm.MethodName)),
  (Jvm.Cond.selects "SlideNightModel" ({ cls := "SlideNightModel", name := "isLooker", desc := "(I)Z" } : Jvm.MethodName) ({ cls := "SlideNightModel", name := "isLooker", desc := "(I)Z" } : Jvm.MethodName)),
  (Jvm.Cond.instanceMethod ({ cls := "SlideNightModel", name := "isTold", desc := "(I)Z" } : Jvm.MethodName)),
  (Jvm.Cond.selects "SlideNightModel" ({ cls := "SlideNightModel", name := "isTold", desc := "(I)Z" } : Jvm.MethodName) ({ cls := "SlideNightModel", name := "isTold", desc := "(I)Z" } : Jvm.MethodName)),
  (Jvm.Cond.static ({ cls := "SlideNightModel", name := "isWay", desc := "(I)Z" } : Jvm.MethodName)),
  (Jvm.Cond.instanceMethod ({ cls := "SlideNightModel", name := "keep", desc := "()I" } : Jvm.MethodName)),
  (Jvm.Cond.selects "SlideNightModel" ({ cls := "SlideNightModel", name := "keep", desc := "()I" } : Jvm.MethodName) ({ cls := "SlideNightModel", name := "keep", desc := "()I" } : Jvm.MethodName)),
  (Jvm.Cond.instanceMethod ({ cls := "SlideNightModel", name := "lamp", desc := "(III)J" } : Jvm.MethodName)),
  (Jvm.Cond.selects "SlideNightModel" ({ cls := "SlideNightModel", name := "lamp", desc := "(III)J" } : Jvm.MethodName) ({ cls := "SlideNightModel", name := "lamp", desc := "(III)J" } : Jvm.MethodName)),
  (Jvm.Cond.instanceMethod ({ cls := "SlideNightModel", name := "lamps", desc := "(I)Z" } : Jvm.MethodName)),
  (Jvm.Cond.selects "SlideNightModel" ({ cls := "SlideNightModel", name := "lamps", desc := "(I)Z" } : Jvm.MethodName) ({ cls := "SlideNightModel", name := "lamps", desc := "(I)Z" } : Jvm.MethodName)),
  (Jvm.Cond.instanceMethod ({ cls := "SlideNightModel", name := "law", desc := "(I)I" } : Jvm.MethodName)),
  (Jvm.Cond.selects "SlideNightModel" ({ cls := "SlideNightModel", name := "law", desc := "(I)I" } : Jvm.MethodName) ({ cls := "SlideNightModel", name := "law", desc := "(I)I" } : Jvm.MethodName)),
  (Jvm.Cond.instanceMethod ({ cls := "SlideNightModel", name := "leave", desc := "(II)J" } : Jvm.MethodName)),
  (Jvm.Cond.selects "SlideNightModel" ({ cls := "SlideNightModel", name := "leave", desc := "(II)J" } : Jvm.MethodName) ({ cls := "SlideNightModel", name := "leave", desc := "(II)J" } : Jvm.MethodName)),
  (Jvm.Cond.instanceMethod ({ cls := "SlideNightModel", name := "leftOut", desc := "(II)I" } : Jvm.MethodName)),
  (Jvm.Cond.selects "SlideNightModel" ({ cls := "SlideNightModel", name := "leftOut", desc := "(II)I" } : Jvm.MethodName) ({ cls := "SlideNightModel", name := "leftOut", desc := "(II)I" } : Jvm.MethodName)),
  (Jvm.Cond.instanceMethod ({ cls := "SlideNightModel", name := "lightBox", desc := "(II)J" } : Jvm.MethodName)),
  (Jvm.Cond.selects "SlideNightModel" ({ cls := "SlideNightModel", name := "lightBox", desc := "(II)J" } : Jvm.MethodName) ({ cls := "SlideNightModel", name := "lightBox", desc := "(II)J" } : Jvm.MethodName)),
  (Jvm.Cond.instanceMethod ({ cls := "SlideNightModel", name := "link", desc := "(II)I" } : Jvm.MethodName)),
  (Jvm.Cond.selects "SlideNightModel" ({ cls := "SlideNightModel", name := "link", desc := "(II)I" } : Jvm.MethodName) ({ cls := "SlideNightModel", name := "link", desc := "(II)I" } : Jvm.MethodName)),
  (Jvm.Cond.instanceMethod ({ cls := "SlideNightModel", name := "looker", desc := "(III)Z" } : Jvm.MethodName)),
  (Jvm.Cond.selects "SlideNightModel" ({ cls := "SlideNightModel", name := "looker", desc := "(III)Z" } : Jvm.MethodName) ({ cls := "SlideNightModel", name := "looker", desc := "(III)Z" } : Jvm.MethodName)),
  (Jvm.Cond.instanceMethod ({ cls := "SlideNightModel", name := "noticedParts", desc := "()V" } : Jvm.MethodName)),
  (Jvm.Cond.selects "SlideNightModel" ({ cls := "SlideNightModel", name := "noticedParts", desc := "()V" } : Jvm.MethodName) ({ cls := "SlideNightModel", name := "noticedParts", desc := "()V" } : Jvm.MethodName)),
  (Jvm.Cond.instanceMethod ({ cls := "SlideNightModel", name := "odds", desc := "(IIII)I" } : Jvm.MethodName))]
def xt_13 : List Cond := [(Jvm.Cond.selects "SlideNightModel" ({ cls := "SlideNightModel", name := "odds", desc := "(IIII)I" } : Jvm.MethodName) ({ cls := "SlideNightModel", name := "odds", desc := "(IIII)I" } : Jvm.MethodName)),
  (Jvm.Cond.instanceMethod ({ cls := "SlideNightModel", name := "put", desc := "(II)Z" } : Jvm.MethodName)),
  (Jvm.Cond.selects "SlideNightModel" ({ cls := "SlideNightModel", name := "put", desc := "(II)Z" } : Jvm.MethodName) ({ cls := "SlideNightModel", name := "put", desc := "(II)Z" } : Jvm.MethodName)),
  (Jvm.Cond.instanceMethod ({ cls := "SlideNightModel", name := "putIn", desc := "()I" } : Jvm.MethodName)),
  (Jvm.Cond.selects "SlideNightModel" ({ cls := "SlideNightModel", name := "putIn", desc := "()I" } : Jvm.MethodName) ({ cls := "SlideNightModel", name := "putIn", desc := "()I" } : Jvm.MethodName)),
  (Jvm.Cond.instanceMethod ({ cls := "SlideNightModel", name := "says", desc := "(IIII)J" } : Jvm.MethodName)),
  (Jvm.Cond.selects "SlideNightModel" ({ cls := "SlideNightModel", name := "says", desc := "(IIII)J" } : Jvm.MethodName) ({ cls := "SlideNightModel", name := "says", desc := "(IIII)J" } : Jvm.MethodName)),
  (Jvm.Cond.instanceMethod ({ cls := "SlideNightModel", name := "seed", desc := "(I)Z" } : Jvm.MethodName)),
  (Jvm.Cond.selects "SlideNightModel" ({ cls := "SlideNightModel", name := "seed", desc := "(I)Z" } : Jvm.MethodName) ({ cls := "SlideNightModel", name := "seed", desc := "(I)Z" } : Jvm.MethodName)),
  (Jvm.Cond.instanceMethod ({ cls := "SlideNightModel", name := "shadow", desc := "(III)I" } : Jvm.MethodName)),
  (Jvm.Cond.selects "SlideNightModel" ({ cls := "SlideNightModel", name := "shadow", desc := "(III)I" } : Jvm.MethodName) ({ cls := "SlideNightModel", name := "shadow", desc := "(III)I" } : Jvm.MethodName)),
  (Jvm.Cond.instanceMethod ({ cls := "SlideNightModel", name := "shown", desc := "(III)I" } : Jvm.MethodName)),
  (Jvm.Cond.selects "SlideNightModel" ({ cls := "SlideNightModel", name := "shown", desc := "(III)I" } : Jvm.MethodName) ({ cls := "SlideNightModel", name := "shown", desc := "(III)I" } : Jvm.MethodName)),
  (Jvm.Cond.instanceMethod ({ cls := "SlideNightModel", name := "slide", desc := "(IIII)Z" } : Jvm.MethodName)),
  (Jvm.Cond.selects "SlideNightModel" ({ cls := "SlideNightModel", name := "slide", desc := "(IIII)Z" } : Jvm.MethodName) ({ cls := "SlideNightModel", name := "slide", desc := "(IIII)Z" } : Jvm.MethodName)),
  (Jvm.Cond.instanceMethod ({ cls := "SlideNightModel", name := "slideIs", desc := "(II)I" } : Jvm.MethodName)),
  (Jvm.Cond.selects "SlideNightModel" ({ cls := "SlideNightModel", name := "slideIs", desc := "(II)I" } : Jvm.MethodName) ({ cls := "SlideNightModel", name := "slideIs", desc := "(II)I" } : Jvm.MethodName)),
  (Jvm.Cond.instanceMethod ({ cls := "SlideNightModel", name := "spilt", desc := "(II)J" } : Jvm.MethodName)),
  (Jvm.Cond.selects "SlideNightModel" ({ cls := "SlideNightModel", name := "spilt", desc := "(II)J" } : Jvm.MethodName) ({ cls := "SlideNightModel", name := "spilt", desc := "(II)J" } : Jvm.MethodName)),
  (Jvm.Cond.static ({ cls := "SlideNightModel", name := "sunBy", desc := "(II)I" } : Jvm.MethodName)),
  (Jvm.Cond.instanceMethod ({ cls := "SlideNightModel", name := "sure", desc := "(II)Z" } : Jvm.MethodName)),
  (Jvm.Cond.selects "SlideNightModel" ({ cls := "SlideNightModel", name := "sure", desc := "(II)Z" } : Jvm.MethodName) ({ cls := "SlideNightModel", name := "sure", desc := "(II)Z" } : Jvm.MethodName)),
  (Jvm.Cond.instanceMethod ({ cls := "SlideNightModel", name := "sureMany", desc := "()I" } : Jvm.MethodName)),
  (Jvm.Cond.selects "SlideNightModel" ({ cls := "SlideNightModel", name := "sureMany", desc := "()I" } : Jvm.MethodName) ({ cls := "SlideNightModel", name := "sureMany", desc := "()I" } : Jvm.MethodName)),
  (Jvm.Cond.static ({ cls := "SlideNightModel", name := "through", desc := "(JJI)J" } : Jvm.MethodName)),
  (Jvm.Cond.instanceMethod ({ cls := "SlideNightModel", name := "toTurn", desc := "(II)J" } : Jvm.MethodName)),
  (Jvm.Cond.selects "SlideNightModel" ({ cls := "SlideNightModel", name := "toTurn", desc := "(II)J" } : Jvm.MethodName) ({ cls := "SlideNightModel", name := "toTurn", desc := "(II)J" } : Jvm.MethodName)),
  (Jvm.Cond.instanceMethod ({ cls := "SlideNightModel", name := "tray", desc := "(I)I" } : Jvm.MethodName)),
  (Jvm.Cond.selects "SlideNightModel" ({ cls := "SlideNightModel", name := "tray", desc := "(I)I" } : Jvm.MethodName) ({ cls := "SlideNightModel", name := "tray", desc := "(I)I" } : Jvm.MethodName)),
  (Jvm.Cond.instanceMethod ({ cls := "SlideNightModel", name := "tried", desc := "(I)I" } : Jvm.MethodName)),
  (Jvm.Cond.selects "SlideNightModel" ({ cls := "SlideNightModel", name := "tried", desc := "(I)I" } : Jvm.MethodName) ({ cls := "SlideNightModel", name := "tried", desc := "(I)I" } : Jvm.MethodName)),
  (Jvm.Cond.instanceMethod ({ cls := "SlideNightModel", name := "triedBy", desc := "(I)I" } : Jvm.MethodName))]
def xt_14 : List Cond := [(Jvm.Cond.selects "SlideNightModel" ({ cls := "SlideNightModel", name := "triedBy", desc := "(I)I" } : Jvm.MethodName) ({ cls := "SlideNightModel", name := "triedBy", desc := "(I)I" } : Jvm.MethodName)),
  (Jvm.Cond.instanceMethod ({ cls := "SlideNightModel", name := "types", desc := "(I)V" } : Jvm.MethodName)),
  (Jvm.Cond.selects "SlideNightModel" ({ cls := "SlideNightModel", name := "types", desc := "(I)V" } : Jvm.MethodName) ({ cls := "SlideNightModel", name := "types", desc := "(I)V" } : Jvm.MethodName)),
  (Jvm.Cond.instanceMethod ({ cls := "SlideNightModel", name := "undo", desc := "()Z" } : Jvm.MethodName)),
  (Jvm.Cond.selects "SlideNightModel" ({ cls := "SlideNightModel", name := "undo", desc := "()Z" } : Jvm.MethodName) ({ cls := "SlideNightModel", name := "undo", desc := "()Z" } : Jvm.MethodName)),
  (Jvm.Cond.instanceMethod ({ cls := "SlideNightModel", name := "ways", desc := "(III)I" } : Jvm.MethodName)),
  (Jvm.Cond.selects "SlideNightModel" ({ cls := "SlideNightModel", name := "ways", desc := "(III)I" } : Jvm.MethodName) ({ cls := "SlideNightModel", name := "ways", desc := "(III)I" } : Jvm.MethodName)),
  (Jvm.Cond.instanceMethod ({ cls := "SlideNightModel", name := "wrongMany", desc := "()I" } : Jvm.MethodName)),
  (Jvm.Cond.selects "SlideNightModel" ({ cls := "SlideNightModel", name := "wrongMany", desc := "()I" } : Jvm.MethodName) ({ cls := "SlideNightModel", name := "wrongMany", desc := "()I" } : Jvm.MethodName)),
  (Jvm.Cond.fieldLink "SlideNight$Choice" (33 : Nat) "SlideNight$Pairs" "size" "I"),
  (Jvm.Cond.fieldLink "SlideNight$Choice" (25 : Nat) "SlideNight$Choice" "size" "I"),
  (Jvm.Cond.fieldLink "SlideNight$Choice" (46 : Nat) "SlideNight$Choice" "bestBits" "I"),
  (Jvm.Cond.fieldLink "SlideNight$Choice" (49 : Nat) "SlideNight$Choice" "bestSeconds" "I"),
  (Jvm.Cond.fieldLink "SlideNight$Choice" (52 : Nat) "SlideNight$Choice" "bestGain" "J"),
  (Jvm.Cond.methodLink "SlideNight$Choice" (3 : Nat) ({ cls := "java/lang/Object", name := "<init>", desc := "()V" } : Jvm.MethodName)),
  (Jvm.Cond.fieldLink "SlideNight$Choice" (9 : Nat) "SlideNight$Choice" "numbers" "[I"),
  (Jvm.Cond.fieldLink "SlideNight$Choice" (15 : Nat) "SlideNight$Choice" "seconds" "[I"),
  (Jvm.Cond.fieldLink "SlideNight$Choice" (18 : Nat) "SlideNight$Choice" "gains" "[J"),
  (Jvm.Cond.fieldLink "SlideNight$Choice" (22 : Nat) "SlideNight$Choice" "needs" "[I"),
  (Jvm.Cond.fieldLink "SlideNight$Evening" (45 : Nat) "SlideNight$Evening" "seconds" "I"),
  (Jvm.Cond.fieldLink "SlideNight$Evening" (48 : Nat) "SlideNight$Evening" "shownCount" "I"),
  (Jvm.Cond.fieldLink "SlideNight$Evening" (51 : Nat) "SlideNight$Evening" "noticed" "I"),
  (Jvm.Cond.fieldLink "SlideNight$Evening" (54 : Nat) "SlideNight$Evening" "turns" "I"),
  (Jvm.Cond.fieldLink "SlideNight$Evening" (57 : Nat) "SlideNight$Evening" "jams" "I"),
  (Jvm.Cond.fieldLink "SlideNight$Evening" (60 : Nat) "SlideNight$Evening" "pops" "I"),
  (Jvm.Cond.fieldLink "SlideNight$Evening" (63 : Nat) "SlideNight$Evening" "awake" "I"),
  (Jvm.Cond.fieldLink "SlideNight$Evening" (66 : Nat) "SlideNight$State" "x" "I"),
  (Jvm.Cond.fieldLink "SlideNight$Evening" (69 : Nat) "SlideNight$Evening" "x" "I"),
  (Jvm.Cond.fieldLink "SlideNight$Evening" (70 : Nat) "SlideNight$State" "lampsLeft" "I"),
  (Jvm.Cond.fieldLink "SlideNight$Evening" (28 : Nat) "SlideNight$Evening" "lampsLeft" "I"),
  (Jvm.Cond.fieldLink "SlideNight$Evening" (9 : Nat) "SlideNight$Evening" "waysIn" "[I"),
  (Jvm.Cond.fieldLink "SlideNight$Evening" (71 : Nat) "SlideNight$State" "slides" "[LSlideNight$Slide;")]
def xt_15 : List Cond := [(Jvm.Cond.fieldLink "SlideNight$Evening" (75 : Nat) "SlideNight$Slide" "way" "I"),
  (Jvm.Cond.fieldLink "SlideNight$Evening" (15 : Nat) "SlideNight$Evening" "patienceLeft" "[I"),
  (Jvm.Cond.fieldLink "SlideNight$Evening" (80 : Nat) "SlideNight$State" "patience" "[I"),
  (Jvm.Cond.methodLink "SlideNight$Evening" (83 : Nat) ({ cls := "SlideNight$State", name := "hasLooker", desc := "(I)Z" } : Jvm.MethodName)),
  (Jvm.Cond.methodLink "SlideNight$Evening" (18 : Nat) ({ cls := "SlideNight$Evening", name := "begin", desc := "(LSlideNight$State;)V" } : Jvm.MethodName)),
  (Jvm.Cond.fieldLink "SlideNight$Evening" (22 : Nat) "SlideNight$TrayText" "count" "I"),
  (Jvm.Cond.methodLink "SlideNight$Evening" (3 : Nat) ({ cls := "java/lang/Object", name := "<init>", desc := "()V" } : Jvm.MethodName)),
  (Jvm.Cond.fieldLink "SlideNight$Evening" (136 : Nat) "SlideNight$Slide" "told" "Z"),
  (Jvm.Cond.methodLink "SlideNight$Law" (3 : Nat) ({ cls := "java/lang/Object", name := "<init>", desc := "()V" } : Jvm.MethodName)),
  (Jvm.Cond.classLink "SlideNight$Law" (9 : Nat) "SlideNight$LawCode"),
  (Jvm.Cond.methodLink "SlideNight$Law" (11 : Nat) ({ cls := "SlideNight$LawCode", name := "<init>", desc := "()V" } : Jvm.MethodName)),
  (Jvm.Cond.fieldLink "SlideNight$Law" (12 : Nat) "SlideNight$Law" "code" "LSlideNight$LawCode;"),
  (Jvm.Cond.fieldLink "SlideNight$Law" (18 : Nat) "SlideNight$Law" "spare" "LSlideNight$LawCode;"),
  (Jvm.Cond.fieldLink "SlideNight$Law" (21 : Nat) "SlideNight$Law" "facts" "[I"),
  (Jvm.Cond.methodLink "SlideNight$LawCode" (3 : Nat) ({ cls := "java/lang/Object", name := "<init>", desc := "()V" } : Jvm.MethodName)),
  (Jvm.Cond.fieldLink "SlideNight$LawCode" (9 : Nat) "SlideNight$LawCode" "operations" "[I"),
  (Jvm.Cond.fieldLink "SlideNight$LawCode" (15 : Nat) "SlideNight$LawCode" "operands" "[I"),
  (Jvm.Cond.fieldLink "SlideNight$LawCode" (18 : Nat) "SlideNight$LawCode" "letters" "[I"),
  (Jvm.Cond.fieldLink "SlideNight$LawCode" (21 : Nat) "SlideNight$LawCode" "starts" "[I"),
  (Jvm.Cond.fieldLink "SlideNight$LawCode" (24 : Nat) "SlideNight$LawCode" "conditions" "[I"),
  (Jvm.Cond.fieldLink "SlideNight$LawCode" (27 : Nat) "SlideNight$LawCode" "ends" "[I"),
  (Jvm.Cond.fieldLink "SlideNight$LawCode" (30 : Nat) "SlideNight$LawCode" "stack" "[I"),
  (Jvm.Cond.methodLink "SlideNight$LawReader" (3 : Nat) ({ cls := "java/lang/Object", name := "<init>", desc := "()V" } : Jvm.MethodName)),
  (Jvm.Cond.fieldLink "SlideNight$LawReader" (9 : Nat) "SlideNight$LawReader" "text" "[I"),
  (Jvm.Cond.fieldLink "SlideNight$LawReader" (15 : Nat) "SlideNight$LawReader" "code" "LSlideNight$LawCode;"),
  (Jvm.Cond.methodLink "SlideNight$Orders" (3 : Nat) ({ cls := "java/lang/Object", name := "<init>", desc := "()V" } : Jvm.MethodName)),
  (Jvm.Cond.fieldLink "SlideNight$Orders" (9 : Nat) "SlideNight$Orders" "numbers" "[I"),
  (Jvm.Cond.fieldLink "SlideNight$Orders" (15 : Nat) "SlideNight$Orders" "places" "[I"),
  (Jvm.Cond.fieldLink "SlideNight$Orders" (18 : Nat) "SlideNight$Orders" "ahead" "[I"),
  (Jvm.Cond.fieldLink "SlideNight$Orders" (21 : Nat) "SlideNight$Orders" "waysFirst" "[I"),
  (Jvm.Cond.fieldLink "SlideNight$Orders" (24 : Nat) "SlideNight$Orders" "waysLast" "[I"),
  (Jvm.Cond.fieldLink "SlideNight$Orders" (27 : Nat) "SlideNight$Orders" "lowAhead" "[I")]
def xt_16 : List Cond := [(Jvm.Cond.fieldLink "SlideNight$Pairs" (24 : Nat) "SlideNight$Pairs" "size" "I"),
  (Jvm.Cond.fieldLink "SlideNight$Pairs" (15 : Nat) "SlideNight$Pairs" "first" "[I"),
  (Jvm.Cond.methodLink "SlideNight$Pairs" (28 : Nat) ({ cls := "java/lang/Math", name := "min", desc := "(II)I" } : Jvm.MethodName)),
  (Jvm.Cond.methodLink "SlideNight$Pairs" (31 : Nat) ({ cls := "java/lang/System", name := "arraycopy", desc := "(Ljava/lang/Object;ILjava/lang/Object;II)V" } : Jvm.MethodName)),
  (Jvm.Cond.fieldLink "SlideNight$Pairs" (21 : Nat) "SlideNight$Pairs" "second" "[I"),
  (Jvm.Cond.methodLink "SlideNight$Pairs" (3 : Nat) ({ cls := "java/lang/Object", name := "<init>", desc := "()V" } : Jvm.MethodName)),
  (Jvm.Cond.methodLink "SlideNight$Pairs" (9 : Nat) ({ cls := "java/lang/Math", name := "max", desc := "(II)I" } : Jvm.MethodName)),
  (Jvm.Cond.fieldLink "SlideNight$Slide" (15 : Nat) "SlideNight$Slide" "picture" "[I"),
  (Jvm.Cond.methodLink "SlideNight$Slide" (22 : Nat) ({ cls := "java/lang/System", name := "arraycopy", desc := "(Ljava/lang/Object;ILjava/lang/Object;II)V" } : Jvm.MethodName)),
  (Jvm.Cond.fieldLink "SlideNight$Slide" (28 : Nat) "SlideNight$Slide" "told" "Z"),
  (Jvm.Cond.fieldLink "SlideNight$Slide" (32 : Nat) "SlideNight$Slide" "kind" "I"),
  (Jvm.Cond.fieldLink "SlideNight$Slide" (35 : Nat) "SlideNight$Slide" "maker" "I"),
  (Jvm.Cond.fieldLink "SlideNight$Slide" (38 : Nat) "SlideNight$Slide" "worth" "I"),
  (Jvm.Cond.fieldLink "SlideNight$Slide" (41 : Nat) "SlideNight$Slide" "taken" "I"),
  (Jvm.Cond.fieldLink "SlideNight$Slide" (44 : Nat) "SlideNight$Slide" "way" "I"),
  (Jvm.Cond.fieldLink "SlideNight$Slide" (47 : Nat) "SlideNight$Slide" "alike" "I"),
  (Jvm.Cond.fieldLink "SlideNight$Slide" (19 : Nat) "SlideNight$Slide" "corner" "I"),
  (Jvm.Cond.methodLink "SlideNight$Slide" (3 : Nat) ({ cls := "java/lang/Object", name := "<init>", desc := "()V" } : Jvm.MethodName)),
  (Jvm.Cond.fieldLink "SlideNight$Slide" (9 : Nat) "SlideNight$Slide" "number" "I"),
  (Jvm.Cond.fieldLink "SlideNight$State" (11 : Nat) "SlideNight$State" "slides" "[LSlideNight$Slide;"),
  (Jvm.Cond.methodLink "SlideNight$State" (65 : Nat) ({ cls := "SlideNight$Slide", name := "copyFrom", desc := "(LSlideNight$Slide;)V" } : Jvm.MethodName)),
  (Jvm.Cond.fieldLink "SlideNight$State" (52 : Nat) "SlideNight$State" "lookersTold" "I"),
  (Jvm.Cond.fieldLink "SlideNight$State" (20 : Nat) "SlideNight$State" "eyes" "[I"),
  (Jvm.Cond.methodLink "SlideNight$State" (69 : Nat) ({ cls := "java/lang/System", name := "arraycopy", desc := "(Ljava/lang/Object;ILjava/lang/Object;II)V" } : Jvm.MethodName)),
  (Jvm.Cond.fieldLink "SlideNight$State" (24 : Nat) "SlideNight$State" "patience" "[I"),
  (Jvm.Cond.fieldLink "SlideNight$State" (27 : Nat) "SlideNight$State" "lampsLeft" "I"),
  (Jvm.Cond.fieldLink "SlideNight$State" (34 : Nat) "SlideNight$State" "clues" "LSlideNight$Pairs;"),
  (Jvm.Cond.methodLink "SlideNight$State" (75 : Nat) ({ cls := "SlideNight$Pairs", name := "copyFrom", desc := "(LSlideNight$Pairs;)V" } : Jvm.MethodName)),
  (Jvm.Cond.fieldLink "SlideNight$State" (38 : Nat) "SlideNight$State" "links" "LSlideNight$Pairs;"),
  (Jvm.Cond.fieldLink "SlideNight$State" (41 : Nat) "SlideNight$State" "x" "I"),
  (Jvm.Cond.methodLink "SlideNight$State" (3 : Nat) ({ cls := "java/lang/Object", name := "<init>", desc := "()V" } : Jvm.MethodName)),
  (Jvm.Cond.classLink "SlideNight$State" (9 : Nat) "SlideNight$Slide")]
def xt_17 : List Cond := [(Jvm.Cond.methodLink "SlideNight$State" (17 : Nat) ({ cls := "SlideNight$Slide", name := "<init>", desc := "(I)V" } : Jvm.MethodName)),
  (Jvm.Cond.classLink "SlideNight$State" (31 : Nat) "SlideNight$Pairs"),
  (Jvm.Cond.methodLink "SlideNight$State" (33 : Nat) ({ cls := "SlideNight$Pairs", name := "<init>", desc := "(I)V" } : Jvm.MethodName)),
  (Jvm.Cond.fieldLink "SlideNight$State" (62 : Nat) "SlideNight$Slide" "corner" "I"),
  (Jvm.Cond.fieldLink "SlideNight$State" (48 : Nat) "SlideNight$Slide" "told" "Z"),
  (Jvm.Cond.methodLink "SlideNight$TrayText" (3 : Nat) ({ cls := "java/lang/Object", name := "<init>", desc := "()V" } : Jvm.MethodName)),
  (Jvm.Cond.fieldLink "SlideNight$TrayText" (9 : Nat) "SlideNight$TrayText" "slots" "[I"),
  (Jvm.Cond.fieldLink "SlideNight$TrayText" (15 : Nat) "SlideNight$TrayText" "text" "[I"),
  (Jvm.Cond.fieldLink "SlideNight$TrayText" (18 : Nat) "SlideNight$TrayText" "count" "I"),
  (Jvm.Cond.methodLink "SlideNight$TurnRow" (3 : Nat) ({ cls := "java/lang/Object", name := "<init>", desc := "()V" } : Jvm.MethodName)),
  (Jvm.Cond.fieldLink "SlideNight$TurnRow" (9 : Nat) "SlideNight$TurnRow" "often" "[I"),
  (Jvm.Cond.fieldLink "SlideNight$TurnRow" (15 : Nat) "SlideNight$TurnRow" "turnSeconds" "[I"),
  (Jvm.Cond.fieldLink "SlideNight$TurnRow" (18 : Nat) "SlideNight$TurnRow" "rightBy" "[I"),
  (Jvm.Cond.fieldLink "SlideNight$TurnRow" (21 : Nat) "SlideNight$TurnRow" "open" "[I"),
  (Jvm.Cond.fieldLink "SlideNight$TurnRow" (24 : Nat) "SlideNight$TurnRow" "fewest" "[I"),
  (Jvm.Cond.fieldLink "SlideNight$TurnRow" (27 : Nat) "SlideNight$TurnRow" "row" "[I"),
  (Jvm.Cond.fieldLink "SlideNight" (81 : Nat) "SlideNight" "tapeLength" "I"),
  (Jvm.Cond.fieldLink "SlideNight" (9 : Nat) "SlideNight" "tape" "[I"),
  (Jvm.Cond.fieldLink "SlideNight" (16 : Nat) "SlideNight" "now" "LSlideNight$State;"),
  (Jvm.Cond.methodLink "SlideNight" (107 : Nat) ({ cls := "SlideNight$State", name := "toldSlide", desc := "(I)LSlideNight$Slide;" } : Jvm.MethodName)),
  (Jvm.Cond.methodLink "SlideNight" (89 : Nat) ({ cls := "SlideNight", name := "isIn", desc := "(III)Z" } : Jvm.MethodName)),
  (Jvm.Cond.methodLink "SlideNight" (288 : Nat) ({ cls := "SlideNight$State", name := "hasLooker", desc := "(I)Z" } : Jvm.MethodName)),
  (Jvm.Cond.methodLink "SlideNight" (404 : Nat) ({ cls := "SlideNight$State", name := "toldCount", desc := "()I" } : Jvm.MethodName)),
  (Jvm.Cond.fieldLink "SlideNight" (140 : Nat) "SlideNight$State" "lookersTold" "I"),
  (Jvm.Cond.fieldLink "SlideNight" (149 : Nat) "SlideNight$State" "lampsLeft" "I"),
  (Jvm.Cond.fieldLink "SlideNight" (26 : Nat) "SlideNight" "inUse" "LSlideNight$TrayText;"),
  (Jvm.Cond.fieldLink "SlideNight" (407 : Nat) "SlideNight$TrayText" "count" "I"),
  (Jvm.Cond.fieldLink "SlideNight" (36 : Nat) "SlideNight" "rules" "LSlideNight$Law;"),
  (Jvm.Cond.fieldLink "SlideNight" (410 : Nat) "SlideNight$Law" "code" "LSlideNight$LawCode;"),
  (Jvm.Cond.fieldLink "SlideNight" (413 : Nat) "SlideNight$LawCode" "clauses" "I"),
  (Jvm.Cond.fieldLink "SlideNight" (388 : Nat) "SlideNight$State" "x" "I"),
  (Jvm.Cond.fieldLink "SlideNight" (128 : Nat) "SlideNight$State" "clues" "LSlideNight$Pairs;")]
def xt_18 : List Cond := [(Jvm.Cond.fieldLink "SlideNight" (418 : Nat) "SlideNight$Pairs" "size" "I"),
  (Jvm.Cond.methodLink "SlideNight" (421 : Nat) ({ cls := "SlideNight$State", name := "sureCount", desc := "()I" } : Jvm.MethodName)),
  (Jvm.Cond.fieldLink "SlideNight" (137 : Nat) "SlideNight$State" "links" "LSlideNight$Pairs;"),
  (Jvm.Cond.methodLink "SlideNight" (385 : Nat) ({ cls := "SlideNight$State", name := "wrongCount", desc := "()I" } : Jvm.MethodName)),
  (Jvm.Cond.methodLink "SlideNight" (301 : Nat) ({ cls := "SlideNight", name := "cornersOf", desc := "(I)I" } : Jvm.MethodName)),
  (Jvm.Cond.methodLink "SlideNight" (304 : Nat) ({ cls := "SlideNight", name := "waysWithDot", desc := "(II)I" } : Jvm.MethodName)),
  (Jvm.Cond.fieldLink "SlideNight" (56 : Nat) "SlideNight" "night" "LSlideNight$Evening;"),
  (Jvm.Cond.methodLink "SlideNight" (208 : Nat) ({ cls := "SlideNight$Evening", name := "goThrough", desc := "(LSlideNight$State;LSlideNight$Law;LSlideNight$TrayText;)V" } : Jvm.MethodName)),
  (Jvm.Cond.methodLink "SlideNight" (212 : Nat) ({ cls := "SlideNight$Evening", name := "leaveIn", desc := "(LSlideNight$State;)V" } : Jvm.MethodName)),
  (Jvm.Cond.fieldLink "SlideNight" (216 : Nat) "SlideNight$Evening" "seconds" "I"),
  (Jvm.Cond.methodLink "SlideNight" (85 : Nat) ({ cls := "SlideNight", name := "addBytes", desc := "(I)V" } : Jvm.MethodName)),
  (Jvm.Cond.constantLong "SlideNight" (253 : Nat) (-1 : Int64)),
  (Jvm.Cond.methodLink "SlideNight" (249 : Nat) ({ cls := "SlideNight", name := "partOf", desc := "(JJZ)J" } : Jvm.MethodName)),
  (Jvm.Cond.methodLink "SlideNight" (205 : Nat) ({ cls := "SlideNight$TrayText", name := "slideAt", desc := "(I)I" } : Jvm.MethodName)),
  (Jvm.Cond.methodLink "SlideNight" (1 : Nat) ({ cls := "java/lang/Object", name := "<init>", desc := "()V" } : Jvm.MethodName)),
  (Jvm.Cond.classLink "SlideNight" (13 : Nat) "SlideNight$State"),
  (Jvm.Cond.methodLink "SlideNight" (15 : Nat) ({ cls := "SlideNight$State", name := "<init>", desc := "()V" } : Jvm.MethodName)),
  (Jvm.Cond.fieldLink "SlideNight" (20 : Nat) "SlideNight" "kept" "LSlideNight$State;"),
  (Jvm.Cond.classLink "SlideNight" (23 : Nat) "SlideNight$TrayText"),
  (Jvm.Cond.methodLink "SlideNight" (25 : Nat) ({ cls := "SlideNight$TrayText", name := "<init>", desc := "()V" } : Jvm.MethodName)),
  (Jvm.Cond.fieldLink "SlideNight" (30 : Nat) "SlideNight" "spareTray" "LSlideNight$TrayText;"),
  (Jvm.Cond.classLink "SlideNight" (33 : Nat) "SlideNight$Law"),
  (Jvm.Cond.methodLink "SlideNight" (35 : Nat) ({ cls := "SlideNight$Law", name := "<init>", desc := "()V" } : Jvm.MethodName)),
  (Jvm.Cond.classLink "SlideNight" (40 : Nat) "SlideNight$LawReader"),
  (Jvm.Cond.fieldLink "SlideNight" (42 : Nat) "SlideNight$Law" "spare" "LSlideNight$LawCode;"),
  (Jvm.Cond.methodLink "SlideNight" (46 : Nat) ({ cls := "SlideNight$LawReader", name := "<init>", desc := "(LSlideNight$LawCode;)V" } : Jvm.MethodName)),
  (Jvm.Cond.fieldLink "SlideNight" (49 : Nat) "SlideNight" "lawReader" "LSlideNight$LawReader;"),
  (Jvm.Cond.classLink "SlideNight" (53 : Nat) "SlideNight$Evening"),
  (Jvm.Cond.methodLink "SlideNight" (55 : Nat) ({ cls := "SlideNight$Evening", name := "<init>", desc := "()V" } : Jvm.MethodName)),
  (Jvm.Cond.classLink "SlideNight" (60 : Nat) "SlideNight$TurnRow"),
  (Jvm.Cond.methodLink "SlideNight" (62 : Nat) ({ cls := "SlideNight$TurnRow", name := "<init>", desc := "()V" } : Jvm.MethodName)),
  (Jvm.Cond.fieldLink "SlideNight" (63 : Nat) "SlideNight" "turnRow" "LSlideNight$TurnRow;")]
def xt_19 : List Cond := [(Jvm.Cond.classLink "SlideNight" (67 : Nat) "SlideNight$Choice"),
  (Jvm.Cond.methodLink "SlideNight" (69 : Nat) ({ cls := "SlideNight$Choice", name := "<init>", desc := "()V" } : Jvm.MethodName)),
  (Jvm.Cond.fieldLink "SlideNight" (70 : Nat) "SlideNight" "choice" "LSlideNight$Choice;"),
  (Jvm.Cond.classLink "SlideNight" (74 : Nat) "SlideNight$Orders"),
  (Jvm.Cond.methodLink "SlideNight" (76 : Nat) ({ cls := "SlideNight$Orders", name := "<init>", desc := "()V" } : Jvm.MethodName)),
  (Jvm.Cond.fieldLink "SlideNight" (77 : Nat) "SlideNight" "orders" "LSlideNight$Orders;"),
  (Jvm.Cond.methodLink "SlideNight" (398 : Nat) ({ cls := "SlideNight$State", name := "copyFrom", desc := "(LSlideNight$State;)V" } : Jvm.MethodName)),
  (Jvm.Cond.fieldLink "SlideNight" (401 : Nat) "SlideNight" "isKept" "Z"),
  (Jvm.Cond.constantLong "SlideNight" (291 : Nat) (10 : Int64)),
  (Jvm.Cond.methodLink "SlideNight" (152 : Nat) ({ cls := "SlideNight", name := "tapeHas", desc := "(III)Z" } : Jvm.MethodName)),
  (Jvm.Cond.constantLong "SlideNight" (271 : Nat) (-1000000000 : Int64)),
  (Jvm.Cond.methodLink "SlideNight" (310 : Nat) ({ cls := "SlideNight$Choice", name := "clear", desc := "()V" } : Jvm.MethodName)),
  (Jvm.Cond.methodLink "SlideNight" (313 : Nat) ({ cls := "SlideNight$Choice", name := "hasRoom", desc := "()Z" } : Jvm.MethodName)),
  (Jvm.Cond.methodLink "SlideNight" (374 : Nat) ({ cls := "SlideNight$Choice", name := "bind", desc := "(LSlideNight$Pairs;)V" } : Jvm.MethodName)),
  (Jvm.Cond.methodLink "SlideNight" (323 : Nat) ({ cls := "SlideNight$Choice", name := "find", desc := "(I)V" } : Jvm.MethodName)),
  (Jvm.Cond.fieldLink "SlideNight" (331 : Nat) "SlideNight$Choice" "bestGain" "J"),
  (Jvm.Cond.fieldLink "SlideNight" (325 : Nat) "SlideNight$Choice" "bestBits" "I"),
  (Jvm.Cond.fieldLink "SlideNight" (328 : Nat) "SlideNight$Choice" "bestSeconds" "I"),
  (Jvm.Cond.methodLink "SlideNight" (273 : Nat) ({ cls := "SlideNight", name := "tenthsOfLookers", desc := "()J" } : Jvm.MethodName)),
  (Jvm.Cond.fieldLink "SlideNight" (143 : Nat) "SlideNight$State" "eyes" "[I"),
  (Jvm.Cond.fieldLink "SlideNight" (146 : Nat) "SlideNight$State" "patience" "[I"),
  (Jvm.Cond.methodLink "SlideNight" (424 : Nat) ({ cls := "java/lang/Math", name := "abs", desc := "(J)J" } : Jvm.MethodName)),
  (Jvm.Cond.methodLink "SlideNight" (428 : Nat) ({ cls := "SlideNight", name := "commonDivisor", desc := "(JJ)J" } : Jvm.MethodName)),
  (Jvm.Cond.constant "SlideNight" (397 : Nat) (65535 : Int32)),
  (Jvm.Cond.methodLink "SlideNight" (367 : Nat) ({ cls := "SlideNight", name := "timeBy", desc := "(II)I" } : Jvm.MethodName)),
  (Jvm.Cond.fieldLink "SlideNight" (219 : Nat) "SlideNight$Evening" "shownCount" "I"),
  (Jvm.Cond.fieldLink "SlideNight" (222 : Nat) "SlideNight$Evening" "noticed" "I"),
  (Jvm.Cond.fieldLink "SlideNight" (225 : Nat) "SlideNight$Evening" "turns" "I"),
  (Jvm.Cond.fieldLink "SlideNight" (228 : Nat) "SlideNight$Evening" "jams" "I"),
  (Jvm.Cond.fieldLink "SlideNight" (231 : Nat) "SlideNight$Evening" "pops" "I"),
  (Jvm.Cond.fieldLink "SlideNight" (234 : Nat) "SlideNight$Evening" "awake" "I"),
  (Jvm.Cond.methodLink "SlideNight" (237 : Nat) ({ cls := "SlideNight$Evening", name := "wrongOf", desc := "(LSlideNight$State;)I" } : Jvm.MethodName))]
def xt_20 : List Cond := [(Jvm.Cond.methodLink "SlideNight" (169 : Nat) ({ cls := "SlideNight", name := "wayBack", desc := "(I)I" } : Jvm.MethodName)),
  (Jvm.Cond.methodLink "SlideNight" (165 : Nat) ({ cls := "SlideNight", name := "wayThen", desc := "(II)I" } : Jvm.MethodName)),
  (Jvm.Cond.methodLink "SlideNight" (111 : Nat) ({ cls := "SlideNight", name := "isWay", desc := "(I)Z" } : Jvm.MethodName)),
  (Jvm.Cond.methodLink "SlideNight" (173 : Nat) ({ cls := "SlideNight", name := "turnBetween", desc := "(II)I" } : Jvm.MethodName)),
  (Jvm.Cond.methodLink "SlideNight" (307 : Nat) ({ cls := "SlideNight", name := "cornerBy", desc := "(II)I" } : Jvm.MethodName)),
  (Jvm.Cond.fieldLink "SlideNightModel" (215 : Nat) "SlideNightModel" "links0" "I"),
  (Jvm.Cond.methodLink "SlideNightModel" (205 : Nat) ({ cls := "SlideNightModel", name := "isTold", desc := "(I)Z" } : Jvm.MethodName)),
  (Jvm.Cond.fieldLink "SlideNightModel" (183 : Nat) "SlideNightModel" "told0" "I"),
  (Jvm.Cond.methodLink "SlideNightModel" (532 : Nat) ({ cls := "SlideNightModel", name := "bits", desc := "(I)I" } : Jvm.MethodName)),
  (Jvm.Cond.fieldLink "SlideNightModel" (191 : Nat) "SlideNightModel" "lookers0" "I"),
  (Jvm.Cond.fieldLink "SlideNightModel" (7 : Nat) "SlideNightModel" "now" "[I"),
  (Jvm.Cond.fieldLink "SlideNightModel" (289 : Nat) "SlideNightModel" "trayMany" "I"),
  (Jvm.Cond.fieldLink "SlideNightModel" (362 : Nat) "SlideNightModel" "clauses" "I"),
  (Jvm.Cond.fieldLink "SlideNightModel" (194 : Nat) "SlideNightModel" "taped" "I"),
  (Jvm.Cond.fieldLink "SlideNightModel" (212 : Nat) "SlideNightModel" "clues0" "I"),
  (Jvm.Cond.methodLink "SlideNightModel" (535 : Nat) ({ cls := "SlideNightModel", name := "sureMany", desc := "()I" } : Jvm.MethodName)),
  (Jvm.Cond.methodLink "SlideNightModel" (424 : Nat) ({ cls := "SlideNightModel", name := "wrongMany", desc := "()I" } : Jvm.MethodName)),
  (Jvm.Cond.methodLink "SlideNightModel" (201 : Nat) ({ cls := "SlideNightModel", name := "in", desc := "(III)Z" } : Jvm.MethodName)),
  (Jvm.Cond.methodLink "SlideNightModel" (382 : Nat) ({ cls := "SlideNightModel", name := "isLooker", desc := "(I)Z" } : Jvm.MethodName)),
  (Jvm.Cond.methodLink "SlideNightModel" (488 : Nat) ({ cls := "SlideNightModel", name := "cornersOf", desc := "(I)I" } : Jvm.MethodName)),
  (Jvm.Cond.methodLink "SlideNightModel" (187 : Nat) ({ cls := "SlideNightModel", name := "has", desc := "(II)Z" } : Jvm.MethodName)),
  (Jvm.Cond.methodLink "SlideNightModel" (485 : Nat) ({ cls := "SlideNightModel", name := "cornerBy", desc := "(II)I" } : Jvm.MethodName)),
  (Jvm.Cond.methodLink "SlideNightModel" (421 : Nat) ({ cls := "SlideNightModel", name := "goesThrough", desc := "()V" } : Jvm.MethodName)),
  (Jvm.Cond.fieldLink "SlideNightModel" (372 : Nat) "SlideNightModel" "shownMany" "I"),
  (Jvm.Cond.fieldLink "SlideNightModel" (415 : Nat) "SlideNightModel" "seconds" "I"),
  (Jvm.Cond.methodLink "SlideNightModel" (197 : Nat) ({ cls := "SlideNightModel", name := "types", desc := "(I)V" } : Jvm.MethodName)),
  (Jvm.Cond.fieldLink "SlideNightModel" (403 : Nat) "SlideNightModel" "noticedMany" "I"),
  (Jvm.Cond.fieldLink "SlideNightModel" (394 : Nat) "SlideNightModel" "turnMany" "I"),
  (Jvm.Cond.fieldLink "SlideNightModel" (397 : Nat) "SlideNightModel" "jamMany" "I"),
  (Jvm.Cond.fieldLink "SlideNightModel" (409 : Nat) "SlideNightModel" "popMany" "I"),
  (Jvm.Cond.constantLong "SlideNightModel" (447 : Nat) (-1 : Int64)),
  (Jvm.Cond.methodLink "SlideNightModel" (1 : Nat) ({ cls := "java/lang/Object", name := "<init>", desc := "()V" } : Jvm.MethodName))]
def xt_21 : List Cond := [(Jvm.Cond.fieldLink "SlideNightModel" (13 : Nat) "SlideNightModel" "aside" "[I"),
  (Jvm.Cond.fieldLink "SlideNightModel" (16 : Nat) "SlideNightModel" "kindOf" "[I"),
  (Jvm.Cond.fieldLink "SlideNightModel" (19 : Nat) "SlideNightModel" "makerOf" "[I"),
  (Jvm.Cond.fieldLink "SlideNightModel" (22 : Nat) "SlideNightModel" "worthOf" "[I"),
  (Jvm.Cond.fieldLink "SlideNightModel" (25 : Nat) "SlideNightModel" "dayOf" "[I"),
  (Jvm.Cond.fieldLink "SlideNightModel" (28 : Nat) "SlideNightModel" "eyesOf" "[I"),
  (Jvm.Cond.fieldLink "SlideNightModel" (31 : Nat) "SlideNightModel" "patienceOf" "[I"),
  (Jvm.Cond.fieldLink "SlideNightModel" (34 : Nat) "SlideNightModel" "sureOf" "[I"),
  (Jvm.Cond.fieldLink "SlideNightModel" (37 : Nat) "SlideNightModel" "clueA" "[I"),
  (Jvm.Cond.fieldLink "SlideNightModel" (40 : Nat) "SlideNightModel" "clueB" "[I"),
  (Jvm.Cond.fieldLink "SlideNightModel" (43 : Nat) "SlideNightModel" "linkA" "[I"),
  (Jvm.Cond.fieldLink "SlideNightModel" (46 : Nat) "SlideNightModel" "linkB" "[I"),
  (Jvm.Cond.fieldLink "SlideNightModel" (49 : Nat) "SlideNightModel" "pictures" "[B"),
  (Jvm.Cond.fieldLink "SlideNightModel" (53 : Nat) "SlideNightModel" "tape" "[B"),
  (Jvm.Cond.fieldLink "SlideNightModel" (56 : Nat) "SlideNightModel" "trayOf" "[I"),
  (Jvm.Cond.fieldLink "SlideNightModel" (59 : Nat) "SlideNightModel" "newTray" "[I"),
  (Jvm.Cond.fieldLink "SlideNightModel" (62 : Nat) "SlideNightModel" "groupFrom" "[I"),
  (Jvm.Cond.fieldLink "SlideNightModel" (65 : Nat) "SlideNightModel" "groupAt" "[I"),
  (Jvm.Cond.fieldLink "SlideNightModel" (68 : Nat) "SlideNightModel" "said" "[I"),
  (Jvm.Cond.fieldLink "SlideNightModel" (71 : Nat) "SlideNightModel" "waitsAt" "[I"),
  (Jvm.Cond.fieldLink "SlideNightModel" (74 : Nat) "SlideNightModel" "saidLetter" "[I"),
  (Jvm.Cond.fieldLink "SlideNightModel" (77 : Nat) "SlideNightModel" "saidFrom" "[I"),
  (Jvm.Cond.fieldLink "SlideNightModel" (80 : Nat) "SlideNightModel" "saidHalf" "[I"),
  (Jvm.Cond.fieldLink "SlideNightModel" (83 : Nat) "SlideNightModel" "saidTo" "[I"),
  (Jvm.Cond.fieldLink "SlideNightModel" (86 : Nat) "SlideNightModel" "codes" "[I"),
  (Jvm.Cond.fieldLink "SlideNightModel" (89 : Nat) "SlideNightModel" "clauseOf" "[I"),
  (Jvm.Cond.fieldLink "SlideNightModel" (92 : Nat) "SlideNightModel" "codeFrom" "[I"),
  (Jvm.Cond.fieldLink "SlideNightModel" (95 : Nat) "SlideNightModel" "codeHalf" "[I"),
  (Jvm.Cond.fieldLink "SlideNightModel" (98 : Nat) "SlideNightModel" "codeTo" "[I"),
  (Jvm.Cond.fieldLink "SlideNightModel" (101 : Nat) "SlideNightModel" "stack" "[I"),
  (Jvm.Cond.fieldLink "SlideNightModel" (104 : Nat) "SlideNightModel" "facts" "[I"),
  (Jvm.Cond.fieldLink "SlideNightModel" (107 : Nat) "SlideNightModel" "handOf" "[I")]
def xt_22 : List Cond := [(Jvm.Cond.fieldLink "SlideNightModel" (110 : Nat) "SlideNightModel" "turnTakes" "[I"),
  (Jvm.Cond.fieldLink "SlideNightModel" (113 : Nat) "SlideNightModel" "rowNow" "[I"),
  (Jvm.Cond.fieldLink "SlideNightModel" (116 : Nat) "SlideNightModel" "bestRow" "[I"),
  (Jvm.Cond.fieldLink "SlideNightModel" (119 : Nat) "SlideNightModel" "seenBy" "[I"),
  (Jvm.Cond.fieldLink "SlideNightModel" (122 : Nat) "SlideNightModel" "comeTo" "[I"),
  (Jvm.Cond.fieldLink "SlideNightModel" (125 : Nat) "SlideNightModel" "fewOf" "[I"),
  (Jvm.Cond.fieldLink "SlideNightModel" (128 : Nat) "SlideNightModel" "costOf" "[I"),
  (Jvm.Cond.fieldLink "SlideNightModel" (131 : Nat) "SlideNightModel" "savesOf" "[J"),
  (Jvm.Cond.fieldLink "SlideNightModel" (135 : Nat) "SlideNightModel" "spiltOf" "[I"),
  (Jvm.Cond.fieldLink "SlideNightModel" (138 : Nat) "SlideNightModel" "mustBe" "[I"),
  (Jvm.Cond.fieldLink "SlideNightModel" (141 : Nat) "SlideNightModel" "waysFrom" "[J"),
  (Jvm.Cond.fieldLink "SlideNightModel" (144 : Nat) "SlideNightModel" "keptNow" "[I"),
  (Jvm.Cond.fieldLink "SlideNightModel" (147 : Nat) "SlideNightModel" "keptKind" "[I"),
  (Jvm.Cond.fieldLink "SlideNightModel" (150 : Nat) "SlideNightModel" "keptMaker" "[I"),
  (Jvm.Cond.fieldLink "SlideNightModel" (153 : Nat) "SlideNightModel" "keptWorth" "[I"),
  (Jvm.Cond.fieldLink "SlideNightModel" (156 : Nat) "SlideNightModel" "keptDay" "[I"),
  (Jvm.Cond.fieldLink "SlideNightModel" (159 : Nat) "SlideNightModel" "keptEyes" "[I"),
  (Jvm.Cond.fieldLink "SlideNightModel" (162 : Nat) "SlideNightModel" "keptPatience" "[I"),
  (Jvm.Cond.fieldLink "SlideNightModel" (165 : Nat) "SlideNightModel" "keptSure" "[I"),
  (Jvm.Cond.fieldLink "SlideNightModel" (168 : Nat) "SlideNightModel" "keptClueA" "[I"),
  (Jvm.Cond.fieldLink "SlideNightModel" (171 : Nat) "SlideNightModel" "keptClueB" "[I"),
  (Jvm.Cond.fieldLink "SlideNightModel" (174 : Nat) "SlideNightModel" "keptLinkA" "[I"),
  (Jvm.Cond.fieldLink "SlideNightModel" (177 : Nat) "SlideNightModel" "keptLinkB" "[I"),
  (Jvm.Cond.fieldLink "SlideNightModel" (180 : Nat) "SlideNightModel" "keptPictures" "[B"),
  (Jvm.Cond.fieldLink "SlideNightModel" (516 : Nat) "SlideNightModel" "isKept" "Z"),
  (Jvm.Cond.fieldLink "SlideNightModel" (520 : Nat) "SlideNightModel" "keptTold" "I"),
  (Jvm.Cond.fieldLink "SlideNightModel" (523 : Nat) "SlideNightModel" "keptLookers" "I"),
  (Jvm.Cond.fieldLink "SlideNightModel" (526 : Nat) "SlideNightModel" "keptClues" "I"),
  (Jvm.Cond.fieldLink "SlideNightModel" (529 : Nat) "SlideNightModel" "keptLinks" "I"),
  (Jvm.Cond.methodLink "SlideNightModel" (292 : Nat) ({ cls := "SlideNightModel", name := "copies", desc := "([I[II)V" } : Jvm.MethodName)),
  (Jvm.Cond.constantLong "SlideNightModel" (468 : Nat) (10 : Int64)),
  (Jvm.Cond.methodLink "SlideNightModel" (440 : Nat) ({ cls := "SlideNightModel", name := "through", desc := "(JJI)J" } : Jvm.MethodName))]
def xt_23 : List Cond := [(Jvm.Cond.constantLong "SlideNightModel" (470 : Nat) (-1000000000 : Int64)),
  (Jvm.Cond.fieldLink "SlideNightModel" (479 : Nat) "SlideNightModel" "fewMany" "I"),
  (Jvm.Cond.methodLink "SlideNightModel" (512 : Nat) ({ cls := "SlideNightModel", name := "areLinked", desc := "(I)Z" } : Jvm.MethodName)),
  (Jvm.Cond.methodLink "SlideNightModel" (482 : Nat) ({ cls := "SlideNightModel", name := "noticedParts", desc := "()V" } : Jvm.MethodName)),
  (Jvm.Cond.fieldLink "SlideNightModel" (465 : Nat) "SlideNightModel" "parts0" "J"),
  (Jvm.Cond.constant "SlideNightModel" (515 : Nat) (65535 : Int32)),
  (Jvm.Cond.methodLink "SlideNightModel" (506 : Nat) ({ cls := "SlideNightModel", name := "sunBy", desc := "(II)I" } : Jvm.MethodName)),
  (Jvm.Cond.methodLink "SlideNightModel" (430 : Nat) ({ cls := "SlideNightModel", name := "gcd", desc := "(JJ)J" } : Jvm.MethodName)),
  (Jvm.Cond.methodLink "SlideNightModel" (427 : Nat) ({ cls := "SlideNightModel", name := "triedBy", desc := "(I)I" } : Jvm.MethodName)),
  (Jvm.Cond.methodLink "SlideNightModel" (209 : Nat) ({ cls := "SlideNightModel", name := "isWay", desc := "(I)Z" } : Jvm.MethodName)),
  (Jvm.Cond.methodLink "SlideNightModel" (218 : Nat) ({ cls := "SlideNightModel", name := "both", desc := "(II)I" } : Jvm.MethodName)),
  (Jvm.Cond.methodLink "SlideNightModel" (222 : Nat) ({ cls := "SlideNightModel", name := "back", desc := "(I)I" } : Jvm.MethodName)),
  (Jvm.Cond.classLink "SlideNightLaw" (7 : Nat) "SlideNight"),
  (Jvm.Cond.methodLink "SlideNightLaw" (9 : Nat) ({ cls := "SlideNight", name := "<init>", desc := "()V" } : Jvm.MethodName)),
  (Jvm.Cond.classLink "SlideNightLaw" (10 : Nat) "SlideNightModel"),
  (Jvm.Cond.methodLink "SlideNightLaw" (12 : Nat) ({ cls := "SlideNightModel", name := "<init>", desc := "()V" } : Jvm.MethodName)),
  (Jvm.Cond.methodLink "SlideNightLaw" (13 : Nat) ({ cls := "SlideNight", name := "feed", desc := "(IIIII)I" } : Jvm.MethodName)),
  (Jvm.Cond.methodLink "SlideNightLaw" (17 : Nat) ({ cls := "SlideNightModel", name := "feed", desc := "(IIIII)I" } : Jvm.MethodName)),
  (Jvm.Cond.methodLink "SlideNightLaw" (18 : Nat) ({ cls := "SlideNight", name := "slide", desc := "(IIII)Z" } : Jvm.MethodName)),
  (Jvm.Cond.methodLink "SlideNightLaw" (22 : Nat) ({ cls := "SlideNightModel", name := "slide", desc := "(IIII)Z" } : Jvm.MethodName)),
  (Jvm.Cond.methodLink "SlideNightLaw" (23 : Nat) ({ cls := "SlideNight", name := "put", desc := "(II)Z" } : Jvm.MethodName)),
  (Jvm.Cond.methodLink "SlideNightLaw" (27 : Nat) ({ cls := "SlideNightModel", name := "put", desc := "(II)Z" } : Jvm.MethodName)),
  (Jvm.Cond.methodLink "SlideNightLaw" (28 : Nat) ({ cls := "SlideNight", name := "day", desc := "(II)Z" } : Jvm.MethodName)),
  (Jvm.Cond.methodLink "SlideNightLaw" (31 : Nat) ({ cls := "SlideNightModel", name := "day", desc := "(II)Z" } : Jvm.MethodName)),
  (Jvm.Cond.methodLink "SlideNightLaw" (32 : Nat) ({ cls := "SlideNight", name := "gone", desc := "(I)Z" } : Jvm.MethodName)),
  (Jvm.Cond.methodLink "SlideNightLaw" (36 : Nat) ({ cls := "SlideNightModel", name := "gone", desc := "(I)Z" } : Jvm.MethodName)),
  (Jvm.Cond.methodLink "SlideNightLaw" (37 : Nat) ({ cls := "SlideNight", name := "looker", desc := "(III)Z" } : Jvm.MethodName)),
  (Jvm.Cond.methodLink "SlideNightLaw" (41 : Nat) ({ cls := "SlideNightModel", name := "looker", desc := "(III)Z" } : Jvm.MethodName)),
  (Jvm.Cond.methodLink "SlideNightLaw" (42 : Nat) ({ cls := "SlideNight", name := "lamps", desc := "(I)Z" } : Jvm.MethodName)),
  (Jvm.Cond.methodLink "SlideNightLaw" (45 : Nat) ({ cls := "SlideNightModel", name := "lamps", desc := "(I)Z" } : Jvm.MethodName)),
  (Jvm.Cond.methodLink "SlideNightLaw" (46 : Nat) ({ cls := "SlideNight", name := "tray", desc := "(I)I" } : Jvm.MethodName)),
  (Jvm.Cond.methodLink "SlideNightLaw" (50 : Nat) ({ cls := "SlideNightModel", name := "tray", desc := "(I)I" } : Jvm.MethodName))]
def xt_24 : List Cond := [(Jvm.Cond.methodLink "SlideNightLaw" (51 : Nat) ({ cls := "SlideNight", name := "law", desc := "(I)I" } : Jvm.MethodName)),
  (Jvm.Cond.methodLink "SlideNightLaw" (54 : Nat) ({ cls := "SlideNightModel", name := "law", desc := "(I)I" } : Jvm.MethodName)),
  (Jvm.Cond.methodLink "SlideNightLaw" (55 : Nat) ({ cls := "SlideNight", name := "ways", desc := "(III)I" } : Jvm.MethodName)),
  (Jvm.Cond.methodLink "SlideNightLaw" (59 : Nat) ({ cls := "SlideNightModel", name := "ways", desc := "(III)I" } : Jvm.MethodName)),
  (Jvm.Cond.methodLink "SlideNightLaw" (60 : Nat) ({ cls := "SlideNight", name := "shown", desc := "(III)I" } : Jvm.MethodName)),
  (Jvm.Cond.methodLink "SlideNightLaw" (63 : Nat) ({ cls := "SlideNightModel", name := "shown", desc := "(III)I" } : Jvm.MethodName)),
  (Jvm.Cond.methodLink "SlideNightLaw" (64 : Nat) ({ cls := "SlideNight", name := "slideIs", desc := "(II)I" } : Jvm.MethodName)),
  (Jvm.Cond.methodLink "SlideNightLaw" (68 : Nat) ({ cls := "SlideNightModel", name := "slideIs", desc := "(II)I" } : Jvm.MethodName)),
  (Jvm.Cond.methodLink "SlideNightLaw" (69 : Nat) ({ cls := "SlideNight", name := "inTray", desc := "(I)I" } : Jvm.MethodName)),
  (Jvm.Cond.methodLink "SlideNightLaw" (72 : Nat) ({ cls := "SlideNightModel", name := "inTray", desc := "(I)I" } : Jvm.MethodName)),
  (Jvm.Cond.methodLink "SlideNightLaw" (73 : Nat) ({ cls := "SlideNight", name := "evening", desc := "()I" } : Jvm.MethodName)),
  (Jvm.Cond.methodLink "SlideNightLaw" (77 : Nat) ({ cls := "SlideNightModel", name := "evening", desc := "()I" } : Jvm.MethodName)),
  (Jvm.Cond.methodLink "SlideNightLaw" (78 : Nat) ({ cls := "SlideNight", name := "tried", desc := "(I)I" } : Jvm.MethodName)),
  (Jvm.Cond.methodLink "SlideNightLaw" (81 : Nat) ({ cls := "SlideNightModel", name := "tried", desc := "(I)I" } : Jvm.MethodName)),
  (Jvm.Cond.methodLink "SlideNightLaw" (82 : Nat) ({ cls := "SlideNight", name := "odds", desc := "(IIII)I" } : Jvm.MethodName)),
  (Jvm.Cond.methodLink "SlideNightLaw" (86 : Nat) ({ cls := "SlideNightModel", name := "odds", desc := "(IIII)I" } : Jvm.MethodName)),
  (Jvm.Cond.methodLink "SlideNightLaw" (87 : Nat) ({ cls := "SlideNight", name := "toTurn", desc := "(II)J" } : Jvm.MethodName)),
  (Jvm.Cond.methodLink "SlideNightLaw" (91 : Nat) ({ cls := "SlideNightModel", name := "toTurn", desc := "(II)J" } : Jvm.MethodName)),
  (Jvm.Cond.methodLink "SlideNightLaw" (92 : Nat) ({ cls := "SlideNight", name := "leave", desc := "(II)J" } : Jvm.MethodName)),
  (Jvm.Cond.methodLink "SlideNightLaw" (95 : Nat) ({ cls := "SlideNightModel", name := "leave", desc := "(II)J" } : Jvm.MethodName)),
  (Jvm.Cond.methodLink "SlideNightLaw" (96 : Nat) ({ cls := "SlideNight", name := "sure", desc := "(II)Z" } : Jvm.MethodName)),
  (Jvm.Cond.methodLink "SlideNightLaw" (99 : Nat) ({ cls := "SlideNightModel", name := "sure", desc := "(II)Z" } : Jvm.MethodName)),
  (Jvm.Cond.methodLink "SlideNightLaw" (100 : Nat) ({ cls := "SlideNight", name := "dots", desc := "(II)I" } : Jvm.MethodName)),
  (Jvm.Cond.methodLink "SlideNightLaw" (103 : Nat) ({ cls := "SlideNightModel", name := "dots", desc := "(II)I" } : Jvm.MethodName)),
  (Jvm.Cond.methodLink "SlideNightLaw" (104 : Nat) ({ cls := "SlideNight", name := "lightBox", desc := "(II)J" } : Jvm.MethodName)),
  (Jvm.Cond.methodLink "SlideNightLaw" (107 : Nat) ({ cls := "SlideNightModel", name := "lightBox", desc := "(II)J" } : Jvm.MethodName)),
  (Jvm.Cond.methodLink "SlideNightLaw" (108 : Nat) ({ cls := "SlideNight", name := "clue", desc := "(II)I" } : Jvm.MethodName)),
  (Jvm.Cond.methodLink "SlideNightLaw" (111 : Nat) ({ cls := "SlideNightModel", name := "clue", desc := "(II)I" } : Jvm.MethodName)),
  (Jvm.Cond.methodLink "SlideNightLaw" (112 : Nat) ({ cls := "SlideNight", name := "spilt", desc := "(II)J" } : Jvm.MethodName)),
  (Jvm.Cond.methodLink "SlideNightLaw" (115 : Nat) ({ cls := "SlideNightModel", name := "spilt", desc := "(II)J" } : Jvm.MethodName)),
  (Jvm.Cond.methodLink "SlideNightLaw" (116 : Nat) ({ cls := "SlideNight", name := "says", desc := "(IIII)J" } : Jvm.MethodName)),
  (Jvm.Cond.methodLink "SlideNightLaw" (120 : Nat) ({ cls := "SlideNightModel", name := "says", desc := "(IIII)J" } : Jvm.MethodName))]
def xt_25 : List Cond := [(Jvm.Cond.methodLink "SlideNightLaw" (121 : Nat) ({ cls := "SlideNight", name := "shadow", desc := "(III)I" } : Jvm.MethodName)),
  (Jvm.Cond.methodLink "SlideNightLaw" (124 : Nat) ({ cls := "SlideNightModel", name := "shadow", desc := "(III)I" } : Jvm.MethodName)),
  (Jvm.Cond.methodLink "SlideNightLaw" (125 : Nat) ({ cls := "SlideNight", name := "link", desc := "(II)I" } : Jvm.MethodName)),
  (Jvm.Cond.methodLink "SlideNightLaw" (128 : Nat) ({ cls := "SlideNightModel", name := "link", desc := "(II)I" } : Jvm.MethodName)),
  (Jvm.Cond.methodLink "SlideNightLaw" (129 : Nat) ({ cls := "SlideNight", name := "leftOut", desc := "(II)I" } : Jvm.MethodName)),
  (Jvm.Cond.methodLink "SlideNightLaw" (132 : Nat) ({ cls := "SlideNightModel", name := "leftOut", desc := "(II)I" } : Jvm.MethodName)),
  (Jvm.Cond.methodLink "SlideNightLaw" (133 : Nat) ({ cls := "SlideNight", name := "lamp", desc := "(III)J" } : Jvm.MethodName)),
  (Jvm.Cond.methodLink "SlideNightLaw" (137 : Nat) ({ cls := "SlideNightModel", name := "lamp", desc := "(III)J" } : Jvm.MethodName)),
  (Jvm.Cond.methodLink "SlideNightLaw" (138 : Nat) ({ cls := "SlideNight", name := "hand", desc := "(I)J" } : Jvm.MethodName)),
  (Jvm.Cond.methodLink "SlideNightLaw" (142 : Nat) ({ cls := "SlideNightModel", name := "hand", desc := "(I)J" } : Jvm.MethodName)),
  (Jvm.Cond.methodLink "SlideNightLaw" (143 : Nat) ({ cls := "SlideNight", name := "putIn", desc := "()I" } : Jvm.MethodName)),
  (Jvm.Cond.methodLink "SlideNightLaw" (146 : Nat) ({ cls := "SlideNightModel", name := "putIn", desc := "()I" } : Jvm.MethodName)),
  (Jvm.Cond.methodLink "SlideNightLaw" (147 : Nat) ({ cls := "SlideNight", name := "seed", desc := "(I)Z" } : Jvm.MethodName)),
  (Jvm.Cond.methodLink "SlideNightLaw" (150 : Nat) ({ cls := "SlideNightModel", name := "seed", desc := "(I)Z" } : Jvm.MethodName)),
  (Jvm.Cond.methodLink "SlideNightLaw" (151 : Nat) ({ cls := "SlideNight", name := "keep", desc := "()I" } : Jvm.MethodName)),
  (Jvm.Cond.methodLink "SlideNightLaw" (154 : Nat) ({ cls := "SlideNightModel", name := "keep", desc := "()I" } : Jvm.MethodName)),
  (Jvm.Cond.methodLink "SlideNightLaw" (155 : Nat) ({ cls := "SlideNight", name := "undo", desc := "()Z" } : Jvm.MethodName)),
  (Jvm.Cond.methodLink "SlideNightLaw" (159 : Nat) ({ cls := "SlideNightModel", name := "undo", desc := "()Z" } : Jvm.MethodName)),
  (Jvm.Cond.methodLink "SlideNightLaw" (160 : Nat) ({ cls := "SlideNight", name := "check", desc := "(II)I" } : Jvm.MethodName)),
  (Jvm.Cond.methodLink "SlideNightLaw" (163 : Nat) ({ cls := "SlideNightModel", name := "check", desc := "(II)I" } : Jvm.MethodName)),
  (Jvm.Cond.methodLink "SlideNightLaw" (164 : Nat) ({ cls := "SlideNight", name := "count", desc := "(I)I" } : Jvm.MethodName)),
  (Jvm.Cond.methodLink "SlideNightLaw" (167 : Nat) ({ cls := "SlideNightModel", name := "count", desc := "(I)I" } : Jvm.MethodName))]
def xt_26 : List Cond := [(Jvm.Cond.code ({ cls := "java/lang/Object", name := "<init>", desc := "()V" } : Jvm.MethodName) object_method_1_code (1 : Nat) (Option.none : Option Jvm.ClassFile.FieldType)),
  (Jvm.Cond.code ({ cls := "java/lang/Math", name := "max", desc := "(II)I" } : Jvm.MethodName) prog_17_method_65_code (2 : Nat) (Option.some Jvm.ClassFile.FieldType.int)),
  (Jvm.Cond.code ({ cls := "java/lang/Math", name := "min", desc := "(II)I" } : Jvm.MethodName) prog_17_method_69_code (2 : Nat) (Option.some Jvm.ClassFile.FieldType.int)),
  (Jvm.Cond.code ({ cls := "java/lang/Math", name := "abs", desc := "(J)J" } : Jvm.MethodName) prog_17_method_61_code (2 : Nat) (Option.some Jvm.ClassFile.FieldType.long)),
  (Jvm.Cond.code ({ cls := "SlideNight$Choice", name := "bind", desc := "(LSlideNight$Pairs;)V" } : Jvm.MethodName) prog_2_method_5_code (5 : Nat) (Option.none : Option Jvm.ClassFile.FieldType)),
  (Jvm.Cond.code ({ cls := "SlideNight$Choice", name := "clear", desc := "()V" } : Jvm.MethodName) prog_2_method_2_code (1 : Nat) (Option.none : Option Jvm.ClassFile.FieldType)),
  (Jvm.Cond.code ({ cls := "SlideNight$Choice", name := "find", desc := "(I)V" } : Jvm.MethodName) prog_2_method_7_code (7 : Nat) (Option.none : Option Jvm.ClassFile.FieldType)),
  (Jvm.Cond.code ({ cls := "SlideNight$Choice", name := "hasRoom", desc := "()Z" } : Jvm.MethodName) prog_2_method_3_code (1 : Nat) (Option.some Jvm.ClassFile.FieldType.boolean)),
  (Jvm.Cond.code ({ cls := "SlideNight$Choice", name := "<init>", desc := "()V" } : Jvm.MethodName) prog_2_method_1_code (1 : Nat) (Option.none : Option Jvm.ClassFile.FieldType)),
  (Jvm.Cond.code ({ cls := "SlideNight$Evening", name := "begin", desc := "(LSlideNight$State;)V" } : Jvm.MethodName) prog_3_method_3_code (3 : Nat) (Option.none : Option Jvm.ClassFile.FieldType)),
  (Jvm.Cond.code ({ cls := "SlideNight$Evening", name := "goThrough", desc := "(LSlideNight$State;LSlideNight$Law;LSlideNight$TrayText;)V" } : Jvm.MethodName) prog_3_method_2_code (6 : Nat) (Option.none : Option Jvm.ClassFile.FieldType)),
  (Jvm.Cond.code ({ cls := "SlideNight$Evening", name := "<init>", desc := "()V" } : Jvm.MethodName) prog_3_method_1_code (1 : Nat) (Option.none : Option Jvm.ClassFile.FieldType)),
  (Jvm.Cond.code ({ cls := "SlideNight$Evening", name := "leaveIn", desc := "(LSlideNight$State;)V" } : Jvm.MethodName) prog_3_method_10_code (3 : Nat) (Option.none : Option Jvm.ClassFile.FieldType)),
  (Jvm.Cond.code ({ cls := "SlideNight$Evening", name := "wrongOf", desc := "(LSlideNight$State;)I" } : Jvm.MethodName) prog_3_method_9_code (4 : Nat) (Option.some Jvm.ClassFile.FieldType.int)),
  (Jvm.Cond.code ({ cls := "SlideNight$Law", name := "<init>", desc := "()V" } : Jvm.MethodName) prog_4_method_1_code (1 : Nat) (Option.none : Option Jvm.ClassFile.FieldType)),
  (Jvm.Cond.code ({ cls := "SlideNight$LawCode", name := "<init>", desc := "()V" } : Jvm.MethodName) prog_5_method_1_code (1 : Nat) (Option.none : Option Jvm.ClassFile.FieldType)),
  (Jvm.Cond.code ({ cls := "SlideNight$LawReader", name := "<init>", desc := "(LSlideNight$LawCode;)V" } : Jvm.MethodName) prog_6_method_1_code (2 : Nat) (Option.none : Option Jvm.ClassFile.FieldType)),
  (Jvm.Cond.code ({ cls := "SlideNight$Orders", name := "<init>", desc := "()V" } : Jvm.MethodName) prog_7_method_1_code (1 : Nat) (Option.none : Option Jvm.ClassFile.FieldType)),
  (Jvm.Cond.code ({ cls := "SlideNight$Pairs", name := "copyFrom", desc := "(LSlideNight$Pairs;)V" } : Jvm.MethodName) prog_8_method_4_code (2 : Nat) (Option.none : Option Jvm.ClassFile.FieldType)),
  (Jvm.Cond.code ({ cls := "SlideNight$Pairs", name := "<init>", desc := "(I)V" } : Jvm.MethodName) prog_8_method_1_code (3 : Nat) (Option.none : Option Jvm.ClassFile.FieldType)),
  (Jvm.Cond.code ({ cls := "SlideNight$Slide", name := "copyFrom", desc := "(LSlideNight$Slide;)V" } : Jvm.MethodName) prog_9_method_6_code (2 : Nat) (Option.none : Option Jvm.ClassFile.FieldType)),
  (Jvm.Cond.code ({ cls := "SlideNight$Slide", name := "<init>", desc := "(I)V" } : Jvm.MethodName) prog_9_method_1_code (2 : Nat) (Option.none : Option Jvm.ClassFile.FieldType)),
  (Jvm.Cond.code ({ cls := "SlideNight$State", name := "copyFrom", desc := "(LSlideNight$State;)V" } : Jvm.MethodName) prog_10_method_7_code (3 : Nat) (Option.none : Option Jvm.ClassFile.FieldType)),
  (Jvm.Cond.code ({ cls := "SlideNight$State", name := "hasLooker", desc := "(I)Z" } : Jvm.MethodName) prog_10_method_3_code (2 : Nat) (Option.some Jvm.ClassFile.FieldType.boolean)),
  (Jvm.Cond.code ({ cls := "SlideNight$State", name := "<init>", desc := "()V" } : Jvm.MethodName) prog_10_method_1_code (2 : Nat) (Option.none : Option Jvm.ClassFile.FieldType)),
  (Jvm.Cond.code ({ cls := "SlideNight$State", name := "sureCount", desc := "()I" } : Jvm.MethodName) prog_10_method_6_code (3 : Nat) (Option.some Jvm.ClassFile.FieldType.int)),
  (Jvm.Cond.code ({ cls := "SlideNight$State", name := "toldCount", desc := "()I" } : Jvm.MethodName) prog_10_method_4_code (3 : Nat) (Option.some Jvm.ClassFile.FieldType.int)),
  (Jvm.Cond.code ({ cls := "SlideNight$State", name := "toldSlide", desc := "(I)LSlideNight$Slide;" } : Jvm.MethodName) prog_10_method_2_code (2 : Nat) (Option.some (Jvm.ClassFile.FieldType.object "SlideNight$Slide"))),
  (Jvm.Cond.code ({ cls := "SlideNight$State", name := "wrongCount", desc := "()I" } : Jvm.MethodName) prog_10_method_5_code (3 : Nat) (Option.some Jvm.ClassFile.FieldType.int)),
  (Jvm.Cond.code ({ cls := "SlideNight$TrayText", name := "<init>", desc := "()V" } : Jvm.MethodName) prog_11_method_1_code (1 : Nat) (Option.none : Option Jvm.ClassFile.FieldType)),
  (Jvm.Cond.code ({ cls := "SlideNight$TrayText", name := "slideAt", desc := "(I)I" } : Jvm.MethodName) prog_11_method_2_code (2 : Nat) (Option.some Jvm.ClassFile.FieldType.int)),
  (Jvm.Cond.code ({ cls := "SlideNight$TurnRow", name := "<init>", desc := "()V" } : Jvm.MethodName) prog_12_method_1_code (1 : Nat) (Option.none : Option Jvm.ClassFile.FieldType))]
def xt_27 : List Cond := [(Jvm.Cond.code ({ cls := "SlideNight", name := "addBytes", desc := "(I)V" } : Jvm.MethodName) prog_1_method_3_code (3 : Nat) (Option.none : Option Jvm.ClassFile.FieldType)),
  (Jvm.Cond.code ({ cls := "SlideNight", name := "check", desc := "(II)I" } : Jvm.MethodName) prog_1_method_54_code (5 : Nat) (Option.some Jvm.ClassFile.FieldType.int)),
  (Jvm.Cond.code ({ cls := "SlideNight", name := "clue", desc := "(II)I" } : Jvm.MethodName) prog_1_method_38_code (3 : Nat) (Option.some Jvm.ClassFile.FieldType.int)),
  (Jvm.Cond.code ({ cls := "SlideNight", name := "commonDivisor", desc := "(JJ)J" } : Jvm.MethodName) prog_1_method_57_code (11 : Nat) (Option.some Jvm.ClassFile.FieldType.long)),
  (Jvm.Cond.code ({ cls := "SlideNight", name := "cornerBy", desc := "(II)I" } : Jvm.MethodName) prog_1_method_18_code (3 : Nat) (Option.some Jvm.ClassFile.FieldType.int)),
  (Jvm.Cond.code ({ cls := "SlideNight", name := "cornersOf", desc := "(I)I" } : Jvm.MethodName) prog_1_method_35_code (5 : Nat) (Option.some Jvm.ClassFile.FieldType.int)),
  (Jvm.Cond.code ({ cls := "SlideNight", name := "count", desc := "(I)I" } : Jvm.MethodName) prog_1_method_55_code (3 : Nat) (Option.some Jvm.ClassFile.FieldType.int)),
  (Jvm.Cond.code ({ cls := "SlideNight", name := "day", desc := "(II)Z" } : Jvm.MethodName) prog_1_method_8_code (4 : Nat) (Option.some Jvm.ClassFile.FieldType.boolean)),
  (Jvm.Cond.code ({ cls := "SlideNight", name := "dots", desc := "(II)I" } : Jvm.MethodName) prog_1_method_34_code (4 : Nat) (Option.some Jvm.ClassFile.FieldType.int)),
  (Jvm.Cond.code ({ cls := "SlideNight", name := "evening", desc := "()I" } : Jvm.MethodName) prog_1_method_24_code (1 : Nat) (Option.some Jvm.ClassFile.FieldType.int)),
  (Jvm.Cond.code ({ cls := "SlideNight", name := "feed", desc := "(IIIII)I" } : Jvm.MethodName) prog_1_method_2_code (6 : Nat) (Option.some Jvm.ClassFile.FieldType.int)),
  (Jvm.Cond.code ({ cls := "SlideNight", name := "gone", desc := "(I)Z" } : Jvm.MethodName) prog_1_method_9_code (3 : Nat) (Option.some Jvm.ClassFile.FieldType.boolean)),
  (Jvm.Cond.code ({ cls := "SlideNight", name := "hand", desc := "(I)J" } : Jvm.MethodName) prog_1_method_46_code (11 : Nat) (Option.some Jvm.ClassFile.FieldType.long)),
  (Jvm.Cond.code ({ cls := "SlideNight", name := "inTray", desc := "(I)I" } : Jvm.MethodName) prog_1_method_23_code (2 : Nat) (Option.some Jvm.ClassFile.FieldType.int)),
  (Jvm.Cond.code ({ cls := "SlideNight", name := "<init>", desc := "()V" } : Jvm.MethodName) prog_1_method_1_code (1 : Nat) (Option.none : Option Jvm.ClassFile.FieldType)),
  (Jvm.Cond.code ({ cls := "SlideNight", name := "isIn", desc := "(III)Z" } : Jvm.MethodName) prog_1_method_19_code (3 : Nat) (Option.some Jvm.ClassFile.FieldType.boolean)),
  (Jvm.Cond.code ({ cls := "SlideNight", name := "isWay", desc := "(I)Z" } : Jvm.MethodName) prog_1_method_20_code (1 : Nat) (Option.some Jvm.ClassFile.FieldType.boolean)),
  (Jvm.Cond.code ({ cls := "SlideNight", name := "keep", desc := "()I" } : Jvm.MethodName) prog_1_method_52_code (1 : Nat) (Option.some Jvm.ClassFile.FieldType.int)),
  (Jvm.Cond.code ({ cls := "SlideNight", name := "lamp", desc := "(III)J" } : Jvm.MethodName) prog_1_method_45_code (9 : Nat) (Option.some Jvm.ClassFile.FieldType.long)),
  (Jvm.Cond.code ({ cls := "SlideNight", name := "lamps", desc := "(I)Z" } : Jvm.MethodName) prog_1_method_11_code (2 : Nat) (Option.some Jvm.ClassFile.FieldType.boolean)),
  (Jvm.Cond.code ({ cls := "SlideNight", name := "law", desc := "(I)I" } : Jvm.MethodName) prog_1_method_13_code (3 : Nat) (Option.some Jvm.ClassFile.FieldType.int)),
  (Jvm.Cond.code ({ cls := "SlideNight", name := "leave", desc := "(II)J" } : Jvm.MethodName) prog_1_method_29_code (8 : Nat) (Option.some Jvm.ClassFile.FieldType.long)),
  (Jvm.Cond.code ({ cls := "SlideNight", name := "leftOut", desc := "(II)I" } : Jvm.MethodName) prog_1_method_44_code (5 : Nat) (Option.some Jvm.ClassFile.FieldType.int)),
  (Jvm.Cond.code ({ cls := "SlideNight", name := "lightBox", desc := "(II)J" } : Jvm.MethodName) prog_1_method_37_code (5 : Nat) (Option.some Jvm.ClassFile.FieldType.long)),
  (Jvm.Cond.code ({ cls := "SlideNight", name := "link", desc := "(II)I" } : Jvm.MethodName) prog_1_method_43_code (3 : Nat) (Option.some Jvm.ClassFile.FieldType.int)),
  (Jvm.Cond.code ({ cls := "SlideNight", name := "looker", desc := "(III)Z" } : Jvm.MethodName) prog_1_method_10_code (4 : Nat) (Option.some Jvm.ClassFile.FieldType.boolean)),
  (Jvm.Cond.code ({ cls := "SlideNight", name := "odds", desc := "(IIII)I" } : Jvm.MethodName) prog_1_method_26_code (10 : Nat) (Option.some Jvm.ClassFile.FieldType.int)),
  (Jvm.Cond.code ({ cls := "SlideNight", name := "partOf", desc := "(JJZ)J" } : Jvm.MethodName) prog_1_method_56_code (7 : Nat) (Option.some Jvm.ClassFile.FieldType.long)),
  (Jvm.Cond.code ({ cls := "SlideNight", name := "put", desc := "(II)Z" } : Jvm.MethodName) prog_1_method_7_code (4 : Nat) (Option.some Jvm.ClassFile.FieldType.boolean)),
  (Jvm.Cond.code ({ cls := "SlideNight", name := "putIn", desc := "()I" } : Jvm.MethodName) prog_1_method_47_code (3 : Nat) (Option.some Jvm.ClassFile.FieldType.int)),
  (Jvm.Cond.code ({ cls := "SlideNight", name := "says", desc := "(IIII)J" } : Jvm.MethodName) prog_1_method_40_code (7 : Nat) (Option.some Jvm.ClassFile.FieldType.long)),
  (Jvm.Cond.code ({ cls := "SlideNight", name := "seed", desc := "(I)Z" } : Jvm.MethodName) prog_1_method_50_code (2 : Nat) (Option.some Jvm.ClassFile.FieldType.boolean))]
def xt_28 : List Cond := [(Jvm.Cond.code ({ cls := "SlideNight", name := "shadow", desc := "(III)I" } : Jvm.MethodName) prog_1_method_41_code (6 : Nat) (Option.some Jvm.ClassFile.FieldType.int)),
  (Jvm.Cond.code ({ cls := "SlideNight", name := "shown", desc := "(III)I" } : Jvm.MethodName) prog_1_method_21_code (5 : Nat) (Option.some Jvm.ClassFile.FieldType.int)),
  (Jvm.Cond.code ({ cls := "SlideNight", name := "slide", desc := "(IIII)Z" } : Jvm.MethodName) prog_1_method_5_code (5 : Nat) (Option.some Jvm.ClassFile.FieldType.boolean)),
  (Jvm.Cond.code ({ cls := "SlideNight", name := "slideIs", desc := "(II)I" } : Jvm.MethodName) prog_1_method_22_code (4 : Nat) (Option.some Jvm.ClassFile.FieldType.int)),
  (Jvm.Cond.code ({ cls := "SlideNight", name := "spilt", desc := "(II)J" } : Jvm.MethodName) prog_1_method_39_code (5 : Nat) (Option.some Jvm.ClassFile.FieldType.long)),
  (Jvm.Cond.code ({ cls := "SlideNight", name := "sure", desc := "(II)Z" } : Jvm.MethodName) prog_1_method_33_code (4 : Nat) (Option.some Jvm.ClassFile.FieldType.boolean)),
  (Jvm.Cond.code ({ cls := "SlideNight", name := "tapeHas", desc := "(III)Z" } : Jvm.MethodName) prog_1_method_4_code (4 : Nat) (Option.some Jvm.ClassFile.FieldType.boolean)),
  (Jvm.Cond.code ({ cls := "SlideNight", name := "tenthsOfLookers", desc := "()J" } : Jvm.MethodName) prog_1_method_30_code (4 : Nat) (Option.some Jvm.ClassFile.FieldType.long)),
  (Jvm.Cond.code ({ cls := "SlideNight", name := "timeBy", desc := "(II)I" } : Jvm.MethodName) prog_1_method_42_code (4 : Nat) (Option.some Jvm.ClassFile.FieldType.int)),
  (Jvm.Cond.code ({ cls := "SlideNight", name := "toTurn", desc := "(II)J" } : Jvm.MethodName) prog_1_method_28_code (5 : Nat) (Option.some Jvm.ClassFile.FieldType.long)),
  (Jvm.Cond.code ({ cls := "SlideNight", name := "tray", desc := "(I)I" } : Jvm.MethodName) prog_1_method_12_code (4 : Nat) (Option.some Jvm.ClassFile.FieldType.int)),
  (Jvm.Cond.code ({ cls := "SlideNight", name := "tried", desc := "(I)I" } : Jvm.MethodName) prog_1_method_25_code (2 : Nat) (Option.some Jvm.ClassFile.FieldType.int)),
  (Jvm.Cond.code ({ cls := "SlideNight", name := "turnBetween", desc := "(II)I" } : Jvm.MethodName) prog_1_method_17_code (2 : Nat) (Option.some Jvm.ClassFile.FieldType.int)),
  (Jvm.Cond.code ({ cls := "SlideNight", name := "undo", desc := "()Z" } : Jvm.MethodName) prog_1_method_53_code (1 : Nat) (Option.some Jvm.ClassFile.FieldType.boolean)),
  (Jvm.Cond.code ({ cls := "SlideNight", name := "wayBack", desc := "(I)I" } : Jvm.MethodName) prog_1_method_16_code (1 : Nat) (Option.some Jvm.ClassFile.FieldType.int)),
  (Jvm.Cond.code ({ cls := "SlideNight", name := "wayThen", desc := "(II)I" } : Jvm.MethodName) prog_1_method_15_code (3 : Nat) (Option.some Jvm.ClassFile.FieldType.int)),
  (Jvm.Cond.code ({ cls := "SlideNight", name := "ways", desc := "(III)I" } : Jvm.MethodName) prog_1_method_14_code (4 : Nat) (Option.some Jvm.ClassFile.FieldType.int)),
  (Jvm.Cond.code ({ cls := "SlideNight", name := "waysWithDot", desc := "(II)I" } : Jvm.MethodName) prog_1_method_36_code (5 : Nat) (Option.some Jvm.ClassFile.FieldType.int)),
  (Jvm.Cond.code ({ cls := "SlideNightModel", name := "areLinked", desc := "(I)Z" } : Jvm.MethodName) prog_14_method_100_code (5 : Nat) (Option.some Jvm.ClassFile.FieldType.boolean)),
  (Jvm.Cond.code ({ cls := "SlideNightModel", name := "back", desc := "(I)I" } : Jvm.MethodName) prog_14_method_19_code (1 : Nat) (Option.some Jvm.ClassFile.FieldType.int)),
  (Jvm.Cond.code ({ cls := "SlideNightModel", name := "bits", desc := "(I)I" } : Jvm.MethodName) prog_14_method_5_code (3 : Nat) (Option.some Jvm.ClassFile.FieldType.int)),
  (Jvm.Cond.code ({ cls := "SlideNightModel", name := "both", desc := "(II)I" } : Jvm.MethodName) prog_14_method_18_code (2 : Nat) (Option.some Jvm.ClassFile.FieldType.int)),
  (Jvm.Cond.code ({ cls := "SlideNightModel", name := "check", desc := "(II)I" } : Jvm.MethodName) prog_14_method_108_code (4 : Nat) (Option.some Jvm.ClassFile.FieldType.int)),
  (Jvm.Cond.code ({ cls := "SlideNightModel", name := "clue", desc := "(II)I" } : Jvm.MethodName) prog_14_method_90_code (3 : Nat) (Option.some Jvm.ClassFile.FieldType.int)),
  (Jvm.Cond.code ({ cls := "SlideNightModel", name := "copies", desc := "([I[II)V" } : Jvm.MethodName) prog_14_method_6_code (4 : Nat) (Option.none : Option Jvm.ClassFile.FieldType)),
  (Jvm.Cond.code ({ cls := "SlideNightModel", name := "cornerBy", desc := "(II)I" } : Jvm.MethodName) prog_14_method_86_code (2 : Nat) (Option.some Jvm.ClassFile.FieldType.int)),
  (Jvm.Cond.code ({ cls := "SlideNightModel", name := "cornersOf", desc := "(I)I" } : Jvm.MethodName) prog_14_method_88_code (5 : Nat) (Option.some Jvm.ClassFile.FieldType.int)),
  (Jvm.Cond.code ({ cls := "SlideNightModel", name := "count", desc := "(I)I" } : Jvm.MethodName) prog_14_method_110_code (2 : Nat) (Option.some Jvm.ClassFile.FieldType.int)),
  (Jvm.Cond.code ({ cls := "SlideNightModel", name := "day", desc := "(II)Z" } : Jvm.MethodName) prog_14_method_14_code (3 : Nat) (Option.some Jvm.ClassFile.FieldType.boolean)),
  (Jvm.Cond.code ({ cls := "SlideNightModel", name := "dots", desc := "(II)I" } : Jvm.MethodName) prog_14_method_89_code (7 : Nat) (Option.some Jvm.ClassFile.FieldType.int)),
  (Jvm.Cond.code ({ cls := "SlideNightModel", name := "evening", desc := "()I" } : Jvm.MethodName) prog_14_method_69_code (1 : Nat) (Option.some Jvm.ClassFile.FieldType.int)),
  (Jvm.Cond.code ({ cls := "SlideNightModel", name := "feed", desc := "(IIIII)I" } : Jvm.MethodName) prog_14_method_11_code (6 : Nat) (Option.some Jvm.ClassFile.FieldType.int))]
def xt_29 : List Cond := [(Jvm.Cond.code ({ cls := "SlideNightModel", name := "gcd", desc := "(JJ)J" } : Jvm.MethodName) prog_14_method_73_code (10 : Nat) (Option.some Jvm.ClassFile.FieldType.long)),
  (Jvm.Cond.code ({ cls := "SlideNightModel", name := "goesThrough", desc := "()V" } : Jvm.MethodName) prog_14_method_68_code (2 : Nat) (Option.none : Option Jvm.ClassFile.FieldType)),
  (Jvm.Cond.code ({ cls := "SlideNightModel", name := "gone", desc := "(I)Z" } : Jvm.MethodName) prog_14_method_15_code (4 : Nat) (Option.some Jvm.ClassFile.FieldType.boolean)),
  (Jvm.Cond.code ({ cls := "SlideNightModel", name := "hand", desc := "(I)J" } : Jvm.MethodName) prog_14_method_103_code (14 : Nat) (Option.some Jvm.ClassFile.FieldType.long)),
  (Jvm.Cond.code ({ cls := "SlideNightModel", name := "has", desc := "(II)Z" } : Jvm.MethodName) prog_14_method_4_code (2 : Nat) (Option.some Jvm.ClassFile.FieldType.boolean)),
  (Jvm.Cond.code ({ cls := "SlideNightModel", name := "in", desc := "(III)Z" } : Jvm.MethodName) prog_14_method_2_code (3 : Nat) (Option.some Jvm.ClassFile.FieldType.boolean)),
  (Jvm.Cond.code ({ cls := "SlideNightModel", name := "inTray", desc := "(I)I" } : Jvm.MethodName) prog_14_method_35_code (2 : Nat) (Option.some Jvm.ClassFile.FieldType.int)),
  (Jvm.Cond.code ({ cls := "SlideNightModel", name := "<init>", desc := "()V" } : Jvm.MethodName) prog_14_method_1_code (2 : Nat) (Option.none : Option Jvm.ClassFile.FieldType)),
  (Jvm.Cond.code ({ cls := "SlideNightModel", name := "isLooker", desc := "(I)Z" } : Jvm.MethodName) prog_14_method_9_code (2 : Nat) (Option.some Jvm.ClassFile.FieldType.boolean)),
  (Jvm.Cond.code ({ cls := "SlideNightModel", name := "isTold", desc := "(I)Z" } : Jvm.MethodName) prog_14_method_8_code (2 : Nat) (Option.some Jvm.ClassFile.FieldType.boolean)),
  (Jvm.Cond.code ({ cls := "SlideNightModel", name := "isWay", desc := "(I)Z" } : Jvm.MethodName) prog_14_method_7_code (1 : Nat) (Option.some Jvm.ClassFile.FieldType.boolean)),
  (Jvm.Cond.code ({ cls := "SlideNightModel", name := "keep", desc := "()I" } : Jvm.MethodName) prog_14_method_106_code (2 : Nat) (Option.some Jvm.ClassFile.FieldType.int)),
  (Jvm.Cond.code ({ cls := "SlideNightModel", name := "lamp", desc := "(III)J" } : Jvm.MethodName) prog_14_method_102_code (9 : Nat) (Option.some Jvm.ClassFile.FieldType.long)),
  (Jvm.Cond.code ({ cls := "SlideNightModel", name := "lamps", desc := "(I)Z" } : Jvm.MethodName) prog_14_method_17_code (2 : Nat) (Option.some Jvm.ClassFile.FieldType.boolean)),
  (Jvm.Cond.code ({ cls := "SlideNightModel", name := "law", desc := "(I)I" } : Jvm.MethodName) prog_14_method_57_code (4 : Nat) (Option.some Jvm.ClassFile.FieldType.int)),
  (Jvm.Cond.code ({ cls := "SlideNightModel", name := "leave", desc := "(II)J" } : Jvm.MethodName) prog_14_method_83_code (5 : Nat) (Option.some Jvm.ClassFile.FieldType.long)),
  (Jvm.Cond.code ({ cls := "SlideNightModel", name := "leftOut", desc := "(II)I" } : Jvm.MethodName) prog_14_method_101_code (11 : Nat) (Option.some Jvm.ClassFile.FieldType.int)),
  (Jvm.Cond.code ({ cls := "SlideNightModel", name := "lightBox", desc := "(II)J" } : Jvm.MethodName) prog_14_method_84_code (12 : Nat) (Option.some Jvm.ClassFile.FieldType.long)),
  (Jvm.Cond.code ({ cls := "SlideNightModel", name := "link", desc := "(II)I" } : Jvm.MethodName) prog_14_method_98_code (3 : Nat) (Option.some Jvm.ClassFile.FieldType.int)),
  (Jvm.Cond.code ({ cls := "SlideNightModel", name := "looker", desc := "(III)Z" } : Jvm.MethodName) prog_14_method_16_code (4 : Nat) (Option.some Jvm.ClassFile.FieldType.boolean)),
  (Jvm.Cond.code ({ cls := "SlideNightModel", name := "noticedParts", desc := "()V" } : Jvm.MethodName) prog_14_method_85_code (2 : Nat) (Option.none : Option Jvm.ClassFile.FieldType)),
  (Jvm.Cond.code ({ cls := "SlideNightModel", name := "odds", desc := "(IIII)I" } : Jvm.MethodName) prog_14_method_76_code (7 : Nat) (Option.some Jvm.ClassFile.FieldType.int)),
  (Jvm.Cond.code ({ cls := "SlideNightModel", name := "put", desc := "(II)Z" } : Jvm.MethodName) prog_14_method_13_code (3 : Nat) (Option.some Jvm.ClassFile.FieldType.boolean)),
  (Jvm.Cond.code ({ cls := "SlideNightModel", name := "putIn", desc := "()I" } : Jvm.MethodName) prog_14_method_104_code (5 : Nat) (Option.some Jvm.ClassFile.FieldType.int)),
  (Jvm.Cond.code ({ cls := "SlideNightModel", name := "says", desc := "(IIII)J" } : Jvm.MethodName) prog_14_method_95_code (17 : Nat) (Option.some Jvm.ClassFile.FieldType.long)),
  (Jvm.Cond.code ({ cls := "SlideNightModel", name := "seed", desc := "(I)Z" } : Jvm.MethodName) prog_14_method_105_code (2 : Nat) (Option.some Jvm.ClassFile.FieldType.boolean)),
  (Jvm.Cond.code ({ cls := "SlideNightModel", name := "shadow", desc := "(III)I" } : Jvm.MethodName) prog_14_method_97_code (6 : Nat) (Option.some Jvm.ClassFile.FieldType.int)),
  (Jvm.Cond.code ({ cls := "SlideNightModel", name := "shown", desc := "(III)I" } : Jvm.MethodName) prog_14_method_25_code (4 : Nat) (Option.some Jvm.ClassFile.FieldType.int)),
  (Jvm.Cond.code ({ cls := "SlideNightModel", name := "slide", desc := "(IIII)Z" } : Jvm.MethodName) prog_14_method_12_code (6 : Nat) (Option.some Jvm.ClassFile.FieldType.boolean)),
  (Jvm.Cond.code ({ cls := "SlideNightModel", name := "slideIs", desc := "(II)I" } : Jvm.MethodName) prog_14_method_28_code (3 : Nat) (Option.some Jvm.ClassFile.FieldType.int)),
  (Jvm.Cond.code ({ cls := "SlideNightModel", name := "spilt", desc := "(II)J" } : Jvm.MethodName) prog_14_method_94_code (8 : Nat) (Option.some Jvm.ClassFile.FieldType.long)),
  (Jvm.Cond.code ({ cls := "SlideNightModel", name := "sunBy", desc := "(II)I" } : Jvm.MethodName) prog_14_method_96_code (4 : Nat) (Option.some Jvm.ClassFile.FieldType.int))]
def xt_30 : List Cond := [(Jvm.Cond.code ({ cls := "SlideNightModel", name := "sure", desc := "(II)Z" } : Jvm.MethodName) prog_14_method_87_code (3 : Nat) (Option.some Jvm.ClassFile.FieldType.boolean)),
  (Jvm.Cond.code ({ cls := "SlideNightModel", name := "sureMany", desc := "()I" } : Jvm.MethodName) prog_14_method_109_code (3 : Nat) (Option.some Jvm.ClassFile.FieldType.int)),
  (Jvm.Cond.code ({ cls := "SlideNightModel", name := "through", desc := "(JJI)J" } : Jvm.MethodName) prog_14_method_74_code (7 : Nat) (Option.some Jvm.ClassFile.FieldType.long)),
  (Jvm.Cond.code ({ cls := "SlideNightModel", name := "toTurn", desc := "(II)J" } : Jvm.MethodName) prog_14_method_80_code (4 : Nat) (Option.some Jvm.ClassFile.FieldType.long)),
  (Jvm.Cond.code ({ cls := "SlideNightModel", name := "tray", desc := "(I)I" } : Jvm.MethodName) prog_14_method_34_code (3 : Nat) (Option.some Jvm.ClassFile.FieldType.int)),
  (Jvm.Cond.code ({ cls := "SlideNightModel", name := "tried", desc := "(I)I" } : Jvm.MethodName) prog_14_method_71_code (3 : Nat) (Option.some Jvm.ClassFile.FieldType.int)),
  (Jvm.Cond.code ({ cls := "SlideNightModel", name := "triedBy", desc := "(I)I" } : Jvm.MethodName) prog_14_method_70_code (4 : Nat) (Option.some Jvm.ClassFile.FieldType.int)),
  (Jvm.Cond.code ({ cls := "SlideNightModel", name := "types", desc := "(I)V" } : Jvm.MethodName) prog_14_method_10_code (3 : Nat) (Option.none : Option Jvm.ClassFile.FieldType)),
  (Jvm.Cond.code ({ cls := "SlideNightModel", name := "undo", desc := "()Z" } : Jvm.MethodName) prog_14_method_107_code (2 : Nat) (Option.some Jvm.ClassFile.FieldType.boolean)),
  (Jvm.Cond.code ({ cls := "SlideNightModel", name := "ways", desc := "(III)I" } : Jvm.MethodName) prog_14_method_20_code (4 : Nat) (Option.some Jvm.ClassFile.FieldType.int)),
  (Jvm.Cond.code ({ cls := "SlideNightModel", name := "wrongMany", desc := "()I" } : Jvm.MethodName) prog_14_method_24_code (3 : Nat) (Option.some Jvm.ClassFile.FieldType.int))]
def xt_C : List (List Cond) := [xt_0, xt_1, xt_2, xt_3, xt_4, xt_5, xt_6, xt_7, xt_8, xt_9, xt_10, xt_11, xt_12, xt_13, xt_14, xt_15, xt_16, xt_17, xt_18, xt_19, xt_20, xt_21, xt_22, xt_23, xt_24, xt_25, xt_26, xt_27, xt_28, xt_29, xt_30]
def xe_T : List Cond := xt_C.flatten
def xt (z : Nat) : Option Cond := match xt_C[z / 32]? with | some l => l[z % 32]? | none => none
def xe_N : List Cond := [(Jvm.Cond.methodLinkNest "SlideNight$State" (44 : Nat) ({ cls := "SlideNight", name := "isIn", desc := "(III)Z" } : Jvm.MethodName) "SlideNight")]
theorem xt_q0 : xt_0 = ([475, 477, 479, 481, 483, 485, 487, 489, 406, 408, 410, 412, 414, 416, 418, 420, 422, 424, 426, 353, 355, 357, 327, 329, 331, 333, 335, 337, 339, 341, 343, 345] : List Nat).filterMap (fun i => lw_tbl[i]?) := by decide +kernel
theorem xt_q1 : xt_1 = ([371, 373, 375, 377, 379, 512, 514, 516, 518, 520, 522, 524, 526, 528, 530, 230, 232, 234, 189, 191, 193, 195, 197, 199, 201, 203, 205, 207, 259, 261, 263, 265] : List Nat).filterMap (fun i => lw_tbl[i]?) := by decide +kernel
theorem xt_q2 : xt_2 = ([267, 269, 271, 273, 290, 292, 294, 296, 298, 300, 443, 445, 447, 449, 451, 453, 455, 546, 548, 550, 552, 554, 556, 558, 560, 562, 564, 566, 568, 570, 1424, 1426] : List Nat).filterMap (fun i => lw_tbl[i]?) := by decide +kernel
theorem xt_q3 : xt_3 = ([1428, 1430, 1432, 1434, 1436, 1438, 1440, 1442, 1444, 1446, 1448, 1450, 1452, 1454, 1456, 1458, 1460, 1462, 1464, 1466, 1468, 1470, 1472, 1474, 1476, 1478, 1480, 1482, 1484, 1486, 1488, 1490] : List Nat).filterMap (fun i => lw_tbl[i]?) := by decide +kernel
theorem xt_q4 : xt_4 = ([1492, 1494, 1496, 1498, 1500, 1502, 1504, 1506, 1508, 1510, 1512, 1514, 1516, 1518, 1520, 1522, 1524, 1526, 1528, 1530, 1532, 1534, 1536, 1538, 1540, 1542, 1544, 1546, 1548, 1550, 1552, 1554] : List Nat).filterMap (fun i => lw_tbl[i]?) := by decide +kernel
theorem xt_q5 : xt_5 = ([1556, 1558, 1560, 1562, 1564, 1566, 1568, 1570, 1572, 1574, 1576, 1578, 1580, 1582, 1584, 1586, 1588, 1590, 1592, 1594, 1596, 1598, 1600, 1602, 127, 125, 122, 123, 124, 128, 119, 118] : List Nat).filterMap (fun i => lw_tbl[i]?) := by decide +kernel
theorem xt_q6 : xt_6 = ([117, 121, 126, 116, 129, 120, 130, 459, 383, 304, 310, 361, 494, 212, 153, 146, 277, 430, 138, 1329, 210, 881, 492, 143, 218, 653, 1034, 597, 598, 1247, 1248, 1136] : List Nat).filterMap (fun i => lw_tbl[i]?) := by decide +kernel
theorem xt_q7 : xt_7 = ([1137, 1153, 1154, 1140, 1141, 461, 930, 27, 925, 926, 385, 1007, 1008, 1015, 1016, 306, 312, 363, 496, 1303, 1304, 214, 1298, 1299, 155, 1294, 1295, 933, 934, 148, 1325, 1326] : List Nat).filterMap (fun i => lw_tbl[i]?) := by decide +kernel
theorem xt_q8 : xt_8 = ([1309, 1310, 613, 614, 1281, 1282, 279, 681, 682, 432, 579, 0, 1317, 1318, 1161, 1162, 1037, 1126, 1123, 47, 1321, 1322, 621, 622, 1118, 1119, 921, 922, 574, 575, 625, 626] : List Nat).filterMap (fun i => lw_tbl[i]?) := by decide +kernel
theorem xt_q9 : xt_9 = ([1259, 1260, 916, 917, 140, 586, 618, 1290, 1291, 1255, 1256, 637, 638, 700, 701, 1089, 1090, 1238, 1239, 1132, 1133, 1234, 1235, 633, 634, 1019, 1020, 1031, 609, 610, 1268, 1269] : List Nat).filterMap (fun i => lw_tbl[i]?) := by decide +kernel
theorem xt_q10 : xt_10 = ([1200, 1201, 1286, 1287, 1227, 1228, 896, 897, 582, 583, 901, 902, 1169, 1170, 1114, 1115, 646, 3, 1095, 44, 1231, 1040, 1041, 641, 642, 1011, 1012, 893, 1313, 1314, 890, 887] : List Nat).filterMap (fun i => lw_tbl[i]?) := by decide +kernel
theorem xt_q11 : xt_11 = ([883, 884, 1129, 1987, 112, 1658, 2015, 1655, 2022, 2023, 1946, 1947, 1729, 1943, 1940, 108, 2026, 2027, 1635, 1636, 1935, 1936, 1806, 1807, 1606, 1607, 1888, 1811, 87, 1639, 1640, 1998] : List Nat).filterMap (fun i => lw_tbl[i]?) := by decide +kernel
theorem xt_q12 : xt_12 = ([1999, 1629, 1618, 1732, 1733, 1331, 1815, 88, 1626, 58, 1632, 2011, 2012, 1994, 1995, 1647, 1648, 1736, 1737, 1909, 1910, 1982, 1983, 1923, 1924, 1978, 1979, 1643, 1644, 1928, 107, 1873] : List Nat).filterMap (fun i => lw_tbl[i]?) := by decide +kernel
theorem xt_q13 : xt_13 = ([1874, 1621, 1622, 2002, 2003, 1967, 1968, 2006, 2007, 1971, 1972, 1661, 1662, 1614, 1615, 1669, 1670, 1950, 1951, 1975, 1931, 1932, 2031, 114, 1885, 1891, 1892, 1689, 1690, 1861, 1862, 1866] : List Nat).filterMap (fun i => lw_tbl[i]?) := by decide +kernel
theorem xt_q14 : xt_14 = ([98, 1611, 57, 2018, 2019, 1651, 1652, 1870, 99, 228, 470, 464, 466, 468, 463, 471, 472, 473, 474, 388, 390, 392, 394, 396, 398, 400, 257, 402, 249, 403, 404, 238] : List Nat).filterMap (fun i => lw_tbl[i]?) := by decide +kernel
theorem xt_q15 : xt_15 = ([180, 405, 246, 932, 928, 284, 387, 166, 308, 309, 311, 348, 350, 352, 314, 320, 321, 322, 323, 324, 325, 326, 365, 366, 370, 498, 506, 507, 508, 509, 510, 511] : List Nat).filterMap (fun i => lw_tbl[i]?) := by decide +kernel
theorem xt_q16 : xt_16 = ([226, 220, 1306, 1307, 223, 216, 217, 162, 596, 163, 167, 170, 173, 176, 179, 184, 186, 157, 158, 237, 1297, 240, 242, 1301, 245, 248, 251, 1302, 254, 256, 150, 151] : List Nat).filterMap (fun i => lw_tbl[i]?) := by decide +kernel
theorem xt_q17 : xt_17 = ([154, 211, 213, 187, 164, 281, 282, 286, 283, 434, 437, 438, 439, 440, 441, 442, 534, 533, 535, 612, 585, 1097, 1308, 241, 250, 538, 285, 541, 349, 317, 258, 253] : List Nat).filterMap (fun i => lw_tbl[i]?) := by decide +kernel
theorem xt_q18 : xt_18 = ([229, 1324, 255, 1280, 1121, 1128, 542, 924, 1006, 389, 577, 1043, 1030, 919, 142, 145, 147, 536, 276, 278, 539, 303, 305, 360, 351, 362, 540, 382, 384, 429, 431, 543] : List Nat).filterMap (fun i => lw_tbl[i]?) := by decide +kernel
theorem xt_q19 : xt_19 = ([458, 460, 544, 493, 495, 545, 1293, 537, 1098, 644, 1092, 1135, 1139, 1246, 1152, 469, 465, 467, 1093, 244, 247, 1033, 1036, 984, 1230, 391, 393, 395, 397, 399, 401, 1014] : List Nat).filterMap (fun i => lw_tbl[i]?) := by decide +kernel
theorem xt_q20 : xt_20 = ([889, 886, 617, 892, 1125, 1357, 1624, 1334, 2014, 1335, 1336, 1358, 1369, 1351, 1356, 2029, 1868, 1617, 1813, 1938, 1628, 1942, 1809, 1383, 1384, 1609, 1385, 1386, 1387, 1388, 1894, 1333] : List Nat).filterMap (fun i => lw_tbl[i]?) := by decide +kernel
theorem xt_q21 : xt_21 = ([1337, 1338, 1339, 1340, 1341, 1342, 1343, 1344, 1345, 1346, 1347, 1348, 1349, 1350, 1361, 1362, 1363, 1364, 1370, 1371, 1372, 1373, 1374, 1375, 1376, 1377, 1378, 1379, 1380, 1381, 1382, 1389] : List Nat).filterMap (fun i => lw_tbl[i]?) := by decide +kernel
theorem xt_q22 : xt_22 = ([1390, 1391, 1392, 1393, 1394, 1399, 1400, 1401, 1402, 1403, 1404, 1411, 1412, 1413, 1414, 1415, 1416, 1417, 1418, 1419, 1420, 1421, 1422, 1423, 1406, 1407, 1408, 1409, 1410, 1728, 1917, 1884] : List Nat).filterMap (fun i => lw_tbl[i]?) := by decide +kernel
theorem xt_q23 : xt_23 = ([1912, 1398, 1985, 1926, 1397, 2009, 1974, 1887, 1864, 1631, 1654, 1657, 137, 139, 1328, 1330, 573, 1605, 581, 1613, 608, 1620, 620, 1634, 624, 1638, 632, 1642, 636, 1646, 640, 1688] : List Nat).filterMap (fun i => lw_tbl[i]?) := by decide +kernel
theorem xt_q24 : xt_24 = ([699, 1735, 882, 1650, 895, 1660, 900, 1668, 915, 1731, 920, 1805, 1010, 1860, 1018, 1872, 1039, 1890, 1088, 1908, 1113, 1930, 1117, 1934, 1131, 1922, 1160, 1945, 1168, 1949, 1199, 1966] : List Nat).filterMap (fun i => lw_tbl[i]?) := by decide +kernel
theorem xt_q25 : xt_25 = ([1226, 1970, 1233, 1977, 1237, 1981, 1254, 1993, 1258, 1997, 1267, 2001, 1285, 2005, 1289, 2010, 1312, 2017, 1316, 2021, 1320, 2025] : List Nat).filterMap (fun i => lw_tbl[i]?) := by decide +kernel
set_option maxRecDepth 100000 in
theorem xt_q26 : xt_26 = ([144, 219, 654, 1035, 1249, 1138, 1155, 1142, 462, 931, 927, 386, 1009, 1017, 307, 313, 364, 497, 1305, 215, 1300, 156, 1296, 935, 149, 1327, 1311, 615, 1283, 280, 683, 433] : List Nat).filterMap (fun i => lw_tbl[i]?) := by rfl
set_option maxRecDepth 100000 in
theorem xt_q27 : xt_27 = ([580, 1319, 1163, 1038, 1127, 1124, 1323, 623, 1120, 923, 576, 627, 1261, 918, 141, 587, 619, 1292, 1257, 639, 702, 1091, 1240, 1134, 1236, 635, 1021, 1032, 611, 1270, 1202, 1288] : List Nat).filterMap (fun i => lw_tbl[i]?) := by rfl
set_option maxRecDepth 100000 in
theorem xt_q28 : xt_28 = ([1229, 898, 584, 903, 1171, 1116, 647, 1096, 1232, 1042, 643, 1013, 894, 1315, 891, 888, 885, 1130, 1988, 1659, 2016, 1656, 2024, 1948, 1730, 1944, 1941, 2028, 1637, 1937, 1808, 1608] : List Nat).filterMap (fun i => lw_tbl[i]?) := by rfl
set_option maxRecDepth 100000 in
theorem xt_q29 : xt_29 = ([1889, 1812, 1641, 2000, 1630, 1619, 1734, 1332, 1816, 1627, 1633, 2013, 1996, 1649, 1738, 1911, 1984, 1925, 1980, 1645, 1929, 1875, 1623, 2004, 1969, 2008, 1973, 1663, 1616, 1671, 1952, 1976] : List Nat).filterMap (fun i => lw_tbl[i]?) := by rfl
set_option maxRecDepth 100000 in
theorem xt_q30 : xt_30 = ([1933, 2032, 1886, 1893, 1691, 1863, 1867, 1612, 2020, 1653, 1871] : List Nat).filterMap (fun i => lw_tbl[i]?) := by rfl
theorem xt_in {ws : List Cond} {ps : List Nat} (h : ws = ps.filterMap (fun i => lw_tbl[i]?)) : ∀ w ∈ ws, w ∈ lw_tbl := by
  intro w hw
  rw [h] at hw
  obtain ⟨i, -, hi⟩ := List.mem_filterMap.mp hw
  exact List.mem_of_getElem? hi
theorem xe_T_in : ∀ w ∈ xe_T, w ∈ lw_tbl := by
  intro w hw
  obtain ⟨l, hl, hw⟩ := List.mem_flatten.mp hw
  have : ∀ l ∈ xt_C, ∀ w ∈ l, w ∈ lw_tbl := by
    exact List.forall_mem_cons.mpr ⟨xt_in xt_q0, List.forall_mem_cons.mpr ⟨xt_in xt_q1, List.forall_mem_cons.mpr ⟨xt_in xt_q2, List.forall_mem_cons.mpr ⟨xt_in xt_q3, List.forall_mem_cons.mpr ⟨xt_in xt_q4, List.forall_mem_cons.mpr ⟨xt_in xt_q5, List.forall_mem_cons.mpr ⟨xt_in xt_q6, List.forall_mem_cons.mpr ⟨xt_in xt_q7, List.forall_mem_cons.mpr ⟨xt_in xt_q8, List.forall_mem_cons.mpr ⟨xt_in xt_q9, List.forall_mem_cons.mpr ⟨xt_in xt_q10, List.forall_mem_cons.mpr ⟨xt_in xt_q11, List.forall_mem_cons.mpr ⟨xt_in xt_q12, List.forall_mem_cons.mpr ⟨xt_in xt_q13, List.forall_mem_cons.mpr ⟨xt_in xt_q14, List.forall_mem_cons.mpr ⟨xt_in xt_q15, List.forall_mem_cons.mpr ⟨xt_in xt_q16, List.forall_mem_cons.mpr ⟨xt_in xt_q17, List.forall_mem_cons.mpr ⟨xt_in xt_q18, List.forall_mem_cons.mpr ⟨xt_in xt_q19, List.forall_mem_cons.mpr ⟨xt_in xt_q20, List.forall_mem_cons.mpr ⟨xt_in xt_q21, List.forall_mem_cons.mpr ⟨xt_in xt_q22, List.forall_mem_cons.mpr ⟨xt_in xt_q23, List.forall_mem_cons.mpr ⟨xt_in xt_q24, List.forall_mem_cons.mpr ⟨xt_in xt_q25, List.forall_mem_cons.mpr ⟨xt_in xt_q26, List.forall_mem_cons.mpr ⟨xt_in xt_q27, List.forall_mem_cons.mpr ⟨xt_in xt_q28, List.forall_mem_cons.mpr ⟨xt_in xt_q29, List.forall_mem_cons.mpr ⟨xt_in xt_q30, fun _ h => absurd h List.not_mem_nil⟩⟩⟩⟩⟩⟩⟩⟩⟩⟩⟩⟩⟩⟩⟩⟩⟩⟩⟩⟩⟩⟩⟩⟩⟩⟩⟩⟩⟩⟩⟩
  exact this l hl w hw
theorem xt_g0 : xt_0.all goodWord = true := by decide +kernel
theorem xt_g1 : xt_1.all goodWord = true := by decide +kernel
theorem xt_g2 : xt_2.all goodWord = true := by decide +kernel
theorem xt_g3 : xt_3.all goodWord = true := by decide +kernel
theorem xt_g4 : xt_4.all goodWord = true := by decide +kernel
theorem xt_g5 : xt_5.all goodWord = true := by decide +kernel
theorem xt_g6 : xt_6.all goodWord = true := by decide +kernel
theorem xt_g7 : xt_7.all goodWord = true := by decide +kernel
theorem xt_g8 : xt_8.all goodWord = true := by decide +kernel
theorem xt_g9 : xt_9.all goodWord = true := by decide +kernel
theorem xt_g10 : xt_10.all goodWord = true := by decide +kernel
theorem xt_g11 : xt_11.all goodWord = true := by decide +kernel
theorem xt_g12 : xt_12.all goodWord = true := by decide +kernel
theorem xt_g13 : xt_13.all goodWord = true := by decide +kernel
theorem xt_g14 : xt_14.all goodWord = true := by decide +kernel
theorem xt_g15 : xt_15.all goodWord = true := by decide +kernel
theorem xt_g16 : xt_16.all goodWord = true := by decide +kernel
theorem xt_g17 : xt_17.all goodWord = true := by decide +kernel
theorem xt_g18 : xt_18.all goodWord = true := by decide +kernel
theorem xt_g19 : xt_19.all goodWord = true := by decide +kernel
theorem xt_g20 : xt_20.all goodWord = true := by decide +kernel
theorem xt_g21 : xt_21.all goodWord = true := by decide +kernel
theorem xt_g22 : xt_22.all goodWord = true := by decide +kernel
theorem xt_g23 : xt_23.all goodWord = true := by decide +kernel
theorem xt_g24 : xt_24.all goodWord = true := by decide +kernel
theorem xt_g25 : xt_25.all goodWord = true := by decide +kernel
theorem xt_g26 : xt_26.all goodWord = true := by decide +kernel
theorem xt_g27 : xt_27.all goodWord = true := by decide +kernel
theorem xt_g28 : xt_28.all goodWord = true := by decide +kernel
theorem xt_g29 : xt_29.all goodWord = true := by decide +kernel
theorem xt_g30 : xt_30.all goodWord = true := by decide +kernel
theorem xe_T_good : ∀ w ∈ xe_T, goodWord w = true := by
  intro w hw
  obtain ⟨l, hl, hw⟩ := List.mem_flatten.mp hw
  have : ∀ l ∈ xt_C, l.all goodWord = true := by
    exact List.forall_mem_cons.mpr ⟨xt_g0, List.forall_mem_cons.mpr ⟨xt_g1, List.forall_mem_cons.mpr ⟨xt_g2, List.forall_mem_cons.mpr ⟨xt_g3, List.forall_mem_cons.mpr ⟨xt_g4, List.forall_mem_cons.mpr ⟨xt_g5, List.forall_mem_cons.mpr ⟨xt_g6, List.forall_mem_cons.mpr ⟨xt_g7, List.forall_mem_cons.mpr ⟨xt_g8, List.forall_mem_cons.mpr ⟨xt_g9, List.forall_mem_cons.mpr ⟨xt_g10, List.forall_mem_cons.mpr ⟨xt_g11, List.forall_mem_cons.mpr ⟨xt_g12, List.forall_mem_cons.mpr ⟨xt_g13, List.forall_mem_cons.mpr ⟨xt_g14, List.forall_mem_cons.mpr ⟨xt_g15, List.forall_mem_cons.mpr ⟨xt_g16, List.forall_mem_cons.mpr ⟨xt_g17, List.forall_mem_cons.mpr ⟨xt_g18, List.forall_mem_cons.mpr ⟨xt_g19, List.forall_mem_cons.mpr ⟨xt_g20, List.forall_mem_cons.mpr ⟨xt_g21, List.forall_mem_cons.mpr ⟨xt_g22, List.forall_mem_cons.mpr ⟨xt_g23, List.forall_mem_cons.mpr ⟨xt_g24, List.forall_mem_cons.mpr ⟨xt_g25, List.forall_mem_cons.mpr ⟨xt_g26, List.forall_mem_cons.mpr ⟨xt_g27, List.forall_mem_cons.mpr ⟨xt_g28, List.forall_mem_cons.mpr ⟨xt_g29, List.forall_mem_cons.mpr ⟨xt_g30, fun _ h => absurd h List.not_mem_nil⟩⟩⟩⟩⟩⟩⟩⟩⟩⟩⟩⟩⟩⟩⟩⟩⟩⟩⟩⟩⟩⟩⟩⟩⟩⟩⟩⟩⟩⟩⟩
  exact List.all_eq_true.mp (this l hl) w hw
theorem xt_mem {z : Nat} {w : Cond} (h : xt z = some w) : w ∈ xe_T := by
  unfold xt at h
  split at h
  · next l hl => exact List.mem_flatten.mpr ⟨l, List.mem_of_getElem? hl, List.mem_of_getElem? h⟩
  · cases h
theorem xe_N0 : ((Jvm.Cond.methodLinkNest "SlideNight$State" (44 : Nat) ({ cls := "SlideNight", name := "isIn", desc := "(III)Z" } : Jvm.MethodName) "SlideNight") : Cond) ∈ lw_tbl := List.mem_of_getElem? (i := 616) (by decide +kernel)
theorem xe_N_in : ∀ w ∈ xe_N, w ∈ lw_tbl := List.forall_mem_cons.mpr ⟨xe_N0, fun _ h => absurd h List.not_mem_nil⟩
theorem xe_AO : ((Jvm.Cond.arrayOver (Jvm.ClassFile.FieldType.object "SlideNight$Slide")) : Cond) ∈ lw_tbl := List.mem_of_getElem? (i := 152) (by decide +kernel)
abbrev xm_T : Type := MethodName × ByteArray × Nat × Option FieldType × (Nat × Nat) × Nat × Nat × Nat
def xm_A : List xm_T := [(⟨"SlideNight$Choice", "bind", "(LSlideNight$Pairs;)V"⟩, prog_2_method_5_code, 5, none, (0, 0), 1, 0, 1),
  (⟨"SlideNight$Choice", "clear", "()V"⟩, prog_2_method_2_code, 1, none, (0, 0), 0, 0, 1),
  (⟨"SlideNight$Choice", "find", "(I)V"⟩, prog_2_method_7_code, 7, none, (0, 0), 1, 0, 1),
  (⟨"SlideNight$Choice", "hasRoom", "()Z"⟩, prog_2_method_3_code, 1, some Jvm.ClassFile.FieldType.boolean, (0, 0), 0, 0, 1),
  (⟨"SlideNight$Choice", "<init>", "()V"⟩, prog_2_method_1_code, 1, none, (4, 48), 0, 0, 2),
  (⟨"SlideNight$Evening", "begin", "(LSlideNight$State;)V"⟩, prog_3_method_3_code, 3, none, (0, 0), 1, 1, 1),
  (⟨"SlideNight$Evening", "goThrough", "(LSlideNight$State;LSlideNight$Law;LSlideNight$TrayText;)V"⟩, prog_3_method_2_code, 6, none, (0, 0), 3, 1, 1),
  (⟨"SlideNight$Evening", "<init>", "()V"⟩, prog_3_method_1_code, 1, none, (2, 40), 0, 1, 2),
  (⟨"SlideNight$Evening", "leaveIn", "(LSlideNight$State;)V"⟩, prog_3_method_10_code, 3, none, (0, 0), 1, 1, 1),
  (⟨"SlideNight$Evening", "wrongOf", "(LSlideNight$State;)I"⟩, prog_3_method_9_code, 4, some Jvm.ClassFile.FieldType.int, (0, 0), 1, 1, 1),
  (⟨"SlideNight$Law", "<init>", "()V"⟩, prog_4_method_1_code, 1, none, (17, 1199), 0, 2, 2),
  (⟨"SlideNight$LawCode", "<init>", "()V"⟩, prog_5_method_1_code, 1, none, (7, 584), 0, 3, 2),
  (⟨"SlideNight$LawReader", "<init>", "(LSlideNight$LawCode;)V"⟩, prog_6_method_1_code, 2, none, (1, 0), 1, 4, 2),
  (⟨"SlideNight$Orders", "<init>", "()V"⟩, prog_7_method_1_code, 1, none, (6, 8392), 0, 5, 2),
  (⟨"SlideNight$Pairs", "copyFrom", "(LSlideNight$Pairs;)V"⟩, prog_8_method_4_code, 2, none, (0, 0), 1, 6, 1),
  (⟨"SlideNight$Pairs", "<init>", "(I)V"⟩, prog_8_method_1_code, 3, none, (2, 48), 1, 6, 2),
  (⟨"SlideNight$Slide", "copyFrom", "(LSlideNight$Slide;)V"⟩, prog_9_method_6_code, 2, none, (0, 0), 1, 7, 1),
  (⟨"SlideNight$Slide", "<init>", "(I)V"⟩, prog_9_method_1_code, 2, none, (1, 25), 1, 7, 2),
  (⟨"SlideNight$State", "copyFrom", "(LSlideNight$State;)V"⟩, prog_10_method_7_code, 3, none, (0, 0), 1, 8, 1),
  (⟨"SlideNight$State", "hasLooker", "(I)Z"⟩, prog_10_method_3_code, 2, some Jvm.ClassFile.FieldType.boolean, (0, 0), 1, 8, 1),
  (⟨"SlideNight$State", "<init>", "()V"⟩, prog_10_method_1_code, 2, none, (73, 1270), 0, 8, 2),
  (⟨"SlideNight$State", "sureCount", "()I"⟩, prog_10_method_6_code, 3, some Jvm.ClassFile.FieldType.int, (0, 0), 0, 8, 1),
  (⟨"SlideNight$State", "toldCount", "()I"⟩, prog_10_method_4_code, 3, some Jvm.ClassFile.FieldType.int, (0, 0), 0, 8, 1),
  (⟨"SlideNight$State", "toldSlide", "(I)LSlideNight$Slide;"⟩, prog_10_method_2_code, 2, some (Jvm.ClassFile.FieldType.object "SlideNight$Slide"), (0, 0), 1, 8, 1),
  (⟨"SlideNight$State", "wrongCount", "()I"⟩, prog_10_method_5_code, 3, some Jvm.ClassFile.FieldType.int, (0, 0), 0, 8, 1),
  (⟨"SlideNight$TrayText", "<init>", "()V"⟩, prog_11_method_1_code, 1, none, (1, 60), 0, 9, 2),
  (⟨"SlideNight$TrayText", "slideAt", "(I)I"⟩, prog_11_method_2_code, 2, some Jvm.ClassFile.FieldType.int, (0, 0), 1, 9, 1),
  (⟨"SlideNight$TurnRow", "<init>", "()V"⟩, prog_12_method_1_code, 1, none, (6, 2335), 0, 10, 2),
  (⟨"SlideNight", "addBytes", "(I)V"⟩, prog_1_method_3_code, 3, none, (0, 0), 1, 11, 1),
  (⟨"SlideNight", "check", "(II)I"⟩, prog_1_method_54_code, 5, some Jvm.ClassFile.FieldType.int, (0, 0), 2, 11, 1),
  (⟨"SlideNight", "clue", "(II)I"⟩, prog_1_method_38_code, 3, some Jvm.ClassFile.FieldType.int, (0, 0), 2, 11, 1),
  (⟨"SlideNight", "commonDivisor", "(JJ)J"⟩, prog_1_method_57_code, 11, some Jvm.ClassFile.FieldType.long, (0, 0), 2, 11, 0),
  (⟨"SlideNight", "cornerBy", "(II)I"⟩, prog_1_method_18_code, 3, some Jvm.ClassFile.FieldType.int, (0, 0), 2, 11, 0),
  (⟨"SlideNight", "cornersOf", "(I)I"⟩, prog_1_method_35_code, 5, some Jvm.ClassFile.FieldType.int, (0, 0), 1, 11, 1),
  (⟨"SlideNight", "count", "(I)I"⟩, prog_1_method_55_code, 3, some Jvm.ClassFile.FieldType.int, (0, 0), 1, 11, 1),
  (⟨"SlideNight", "day", "(II)Z"⟩, prog_1_method_8_code, 4, some Jvm.ClassFile.FieldType.boolean, (0, 0), 2, 11, 1),
  (⟨"SlideNight", "dots", "(II)I"⟩, prog_1_method_34_code, 4, some Jvm.ClassFile.FieldType.int, (0, 0), 2, 11, 1),
  (⟨"SlideNight", "evening", "()I"⟩, prog_1_method_24_code, 1, some Jvm.ClassFile.FieldType.int, (0, 0), 0, 11, 1),
  (⟨"SlideNight", "feed", "(IIIII)I"⟩, prog_1_method_2_code, 6, some Jvm.ClassFile.FieldType.int, (0, 0), 5, 11, 1),
  (⟨"SlideNight", "gone", "(I)Z"⟩, prog_1_method_9_code, 3, some Jvm.ClassFile.FieldType.boolean, (0, 0), 1, 11, 1),
  (⟨"SlideNight", "hand", "(I)J"⟩, prog_1_method_46_code, 11, some Jvm.ClassFile.FieldType.long, (0, 0), 1, 11, 1),
  (⟨"SlideNight", "inTray", "(I)I"⟩, prog_1_method_23_code, 2, some Jvm.ClassFile.FieldType.int, (0, 0), 1, 11, 1),
  (⟨"SlideNight", "<init>", "()V"⟩, prog_1_method_1_code, 1, none, (195, 15006), 0, 11, 2),
  (⟨"SlideNight", "isIn", "(III)Z"⟩, prog_1_method_19_code, 3, some Jvm.ClassFile.FieldType.boolean, (0, 0), 3, 11, 0),
  (⟨"SlideNight", "isWay", "(I)Z"⟩, prog_1_method_20_code, 1, some Jvm.ClassFile.FieldType.boolean, (0, 0), 1, 11, 0),
  (⟨"SlideNight", "keep", "()I"⟩, prog_1_method_52_code, 1, some Jvm.ClassFile.FieldType.int, (0, 0), 0, 11, 1),
  (⟨"SlideNight", "lamp", "(III)J"⟩, prog_1_method_45_code, 9, some Jvm.ClassFile.FieldType.long, (0, 0), 3, 11, 1),
  (⟨"SlideNight", "lamps", "(I)Z"⟩, prog_1_method_11_code, 2, some Jvm.ClassFile.FieldType.boolean, (0, 0), 1, 11, 1),
  (⟨"SlideNight", "law", "(I)I"⟩, prog_1_method_13_code, 3, some Jvm.ClassFile.FieldType.int, (0, 0), 1, 11, 1),
  (⟨"SlideNight", "leave", "(II)J"⟩, prog_1_method_29_code, 8, some Jvm.ClassFile.FieldType.long, (0, 0), 2, 11, 1),
  (⟨"SlideNight", "leftOut", "(II)I"⟩, prog_1_method_44_code, 5, some Jvm.ClassFile.FieldType.int, (0, 0), 2, 11, 1),
  (⟨"SlideNight", "lightBox", "(II)J"⟩, prog_1_method_37_code, 5, some Jvm.ClassFile.FieldType.long, (0, 0), 2, 11, 1),
  (⟨"SlideNight", "link", "(II)I"⟩, prog_1_method_43_code, 3, some Jvm.ClassFile.FieldType.int, (0, 0), 2, 11, 1),
  (⟨"SlideNight", "looker", "(III)Z"⟩, prog_1_method_10_code, 4, some Jvm.ClassFile.FieldType.boolean, (0, 0), 3, 11, 1),
  (⟨"SlideNight", "odds", "(IIII)I"⟩, prog_1_method_26_code, 10, some Jvm.ClassFile.FieldType.int, (0, 0), 4, 11, 1),
  (⟨"SlideNight", "partOf", "(JJZ)J"⟩, prog_1_method_56_code, 7, some Jvm.ClassFile.FieldType.long, (0, 0), 3, 11, 0),
  (⟨"SlideNight", "put", "(II)Z"⟩, prog_1_method_7_code, 4, some Jvm.ClassFile.FieldType.boolean, (0, 0), 2, 11, 1),
  (⟨"SlideNight", "putIn", "()I"⟩, prog_1_method_47_code, 3, some Jvm.ClassFile.FieldType.int, (0, 0), 0, 11, 1),
  (⟨"SlideNight", "says", "(IIII)J"⟩, prog_1_method_40_code, 7, some Jvm.ClassFile.FieldType.long, (0, 0), 4, 11, 1),
  (⟨"SlideNight", "seed", "(I)Z"⟩, prog_1_method_50_code, 2, some Jvm.ClassFile.FieldType.boolean, (0, 0), 1, 11, 1),
  (⟨"SlideNight", "shadow", "(III)I"⟩, prog_1_method_41_code, 6, some Jvm.ClassFile.FieldType.int, (0, 0), 3, 11, 1),
  (⟨"SlideNight", "shown", "(III)I"⟩, prog_1_method_21_code, 5, some Jvm.ClassFile.FieldType.int, (0, 0), 3, 11, 1),
  (⟨"SlideNight", "slide", "(IIII)Z"⟩, prog_1_method_5_code, 5, some Jvm.ClassFile.FieldType.boolean, (0, 0), 4, 11, 1),
  (⟨"SlideNight", "slideIs", "(II)I"⟩, prog_1_method_22_code, 4, some Jvm.ClassFile.FieldType.int, (0, 0), 2, 11, 1),
  (⟨"SlideNight", "spilt", "(II)J"⟩, prog_1_method_39_code, 5, some Jvm.ClassFile.FieldType.long, (0, 0), 2, 11, 1),
  (⟨"SlideNight", "sure", "(II)Z"⟩, prog_1_method_33_code, 4, some Jvm.ClassFile.FieldType.boolean, (0, 0), 2, 11, 1),
  (⟨"SlideNight", "tapeHas", "(III)Z"⟩, prog_1_method_4_code, 4, some Jvm.ClassFile.FieldType.boolean, (0, 0), 3, 11, 1),
  (⟨"SlideNight", "tenthsOfLookers", "()J"⟩, prog_1_method_30_code, 4, some Jvm.ClassFile.FieldType.long, (0, 0), 0, 11, 1),
  (⟨"SlideNight", "timeBy", "(II)I"⟩, prog_1_method_42_code, 4, some Jvm.ClassFile.FieldType.int, (0, 0), 2, 11, 0),
  (⟨"SlideNight", "toTurn", "(II)J"⟩, prog_1_method_28_code, 5, some Jvm.ClassFile.FieldType.long, (0, 0), 2, 11, 1),
  (⟨"SlideNight", "tray", "(I)I"⟩, prog_1_method_12_code, 4, some Jvm.ClassFile.FieldType.int, (0, 0), 1, 11, 1),
  (⟨"SlideNight", "tried", "(I)I"⟩, prog_1_method_25_code, 2, some Jvm.ClassFile.FieldType.int, (0, 0), 1, 11, 1),
  (⟨"SlideNight", "turnBetween", "(II)I"⟩, prog_1_method_17_code, 2, some Jvm.ClassFile.FieldType.int, (0, 0), 2, 11, 0),
  (⟨"SlideNight", "undo", "()Z"⟩, prog_1_method_53_code, 1, some Jvm.ClassFile.FieldType.boolean, (0, 0), 0, 11, 1),
  (⟨"SlideNight", "wayBack", "(I)I"⟩, prog_1_method_16_code, 1, some Jvm.ClassFile.FieldType.int, (0, 0), 1, 11, 0),
  (⟨"SlideNight", "wayThen", "(II)I"⟩, prog_1_method_15_code, 3, some Jvm.ClassFile.FieldType.int, (0, 0), 2, 11, 0),
  (⟨"SlideNight", "ways", "(III)I"⟩, prog_1_method_14_code, 4, some Jvm.ClassFile.FieldType.int, (0, 0), 3, 11, 1),
  (⟨"SlideNight", "waysWithDot", "(II)I"⟩, prog_1_method_36_code, 5, some Jvm.ClassFile.FieldType.int, (0, 0), 2, 11, 0),
  (⟨"SlideNightModel", "areLinked", "(I)Z"⟩, prog_14_method_100_code, 5, some Jvm.ClassFile.FieldType.boolean, (0, 0), 1, 12, 1),
  (⟨"SlideNightModel", "back", "(I)I"⟩, prog_14_method_19_code, 1, some Jvm.ClassFile.FieldType.int, (0, 0), 1, 12, 0),
  (⟨"SlideNightModel", "bits", "(I)I"⟩, prog_14_method_5_code, 3, some Jvm.ClassFile.FieldType.int, (0, 0), 1, 12, 0),
  (⟨"SlideNightModel", "both", "(II)I"⟩, prog_14_method_18_code, 2, some Jvm.ClassFile.FieldType.int, (0, 0), 2, 12, 0),
  (⟨"SlideNightModel", "check", "(II)I"⟩, prog_14_method_108_code, 4, some Jvm.ClassFile.FieldType.int, (0, 0), 2, 12, 1),
  (⟨"SlideNightModel", "clue", "(II)I"⟩, prog_14_method_90_code, 3, some Jvm.ClassFile.FieldType.int, (0, 0), 2, 12, 1),
  (⟨"SlideNightModel", "copies", "([I[II)V"⟩, prog_14_method_6_code, 4, none, (0, 0), 3, 12, 0),
  (⟨"SlideNightModel", "cornerBy", "(II)I"⟩, prog_14_method_86_code, 2, some Jvm.ClassFile.FieldType.int, (0, 0), 2, 12, 0),
  (⟨"SlideNightModel", "cornersOf", "(I)I"⟩, prog_14_method_88_code, 5, some Jvm.ClassFile.FieldType.int, (0, 0), 1, 12, 1),
  (⟨"SlideNightModel", "count", "(I)I"⟩, prog_14_method_110_code, 2, some Jvm.ClassFile.FieldType.int, (0, 0), 1, 12, 1),
  (⟨"SlideNightModel", "day", "(II)Z"⟩, prog_14_method_14_code, 3, some Jvm.ClassFile.FieldType.boolean, (0, 0), 2, 12, 1),
  (⟨"SlideNightModel", "dots", "(II)I"⟩, prog_14_method_89_code, 7, some Jvm.ClassFile.FieldType.int, (0, 0), 2, 12, 1),
  (⟨"SlideNightModel", "evening", "()I"⟩, prog_14_method_69_code, 1, some Jvm.ClassFile.FieldType.int, (0, 0), 0, 12, 1),
  (⟨"SlideNightModel", "feed", "(IIIII)I"⟩, prog_14_method_11_code, 6, some Jvm.ClassFile.FieldType.int, (0, 0), 5, 12, 1),
  (⟨"SlideNightModel", "gcd", "(JJ)J"⟩, prog_14_method_73_code, 10, some Jvm.ClassFile.FieldType.long, (0, 0), 2, 12, 0),
  (⟨"SlideNightModel", "goesThrough", "()V"⟩, prog_14_method_68_code, 2, none, (0, 0), 0, 12, 1),
  (⟨"SlideNightModel", "gone", "(I)Z"⟩, prog_14_method_15_code, 4, some Jvm.ClassFile.FieldType.boolean, (0, 0), 1, 12, 1),
  (⟨"SlideNightModel", "hand", "(I)J"⟩, prog_14_method_103_code, 14, some Jvm.ClassFile.FieldType.long, (0, 0), 1, 12, 1),
  (⟨"SlideNightModel", "has", "(II)Z"⟩, prog_14_method_4_code, 2, some Jvm.ClassFile.FieldType.boolean, (0, 0), 2, 12, 0),
  (⟨"SlideNightModel", "in", "(III)Z"⟩, prog_14_method_2_code, 3, some Jvm.ClassFile.FieldType.boolean, (0, 0), 3, 12, 0),
  (⟨"SlideNightModel", "inTray", "(I)I"⟩, prog_14_method_35_code, 2, some Jvm.ClassFile.FieldType.int, (0, 0), 1, 12, 1),
  (⟨"SlideNightModel", "<init>", "()V"⟩, prog_14_method_1_code, 2, none, (57, 7989), 0, 12, 2),
  (⟨"SlideNightModel", "isLooker", "(I)Z"⟩, prog_14_method_9_code, 2, some Jvm.ClassFile.FieldType.boolean, (0, 0), 1, 12, 1),
  (⟨"SlideNightModel", "isTold", "(I)Z"⟩, prog_14_method_8_code, 2, some Jvm.ClassFile.FieldType.boolean, (0, 0), 1, 12, 1),
  (⟨"SlideNightModel", "isWay", "(I)Z"⟩, prog_14_method_7_code, 1, some Jvm.ClassFile.FieldType.boolean, (0, 0), 1, 12, 0),
  (⟨"SlideNightModel", "keep", "()I"⟩, prog_14_method_106_code, 2, some Jvm.ClassFile.FieldType.int, (0, 0), 0, 12, 1),
  (⟨"SlideNightModel", "lamp", "(III)J"⟩, prog_14_method_102_code, 9, some Jvm.ClassFile.FieldType.long, (0, 0), 3, 12, 1),
  (⟨"SlideNightModel", "lamps", "(I)Z"⟩, prog_14_method_17_code, 2, some Jvm.ClassFile.FieldType.boolean, (0, 0), 1, 12, 1),
  (⟨"SlideNightModel", "law", "(I)I"⟩, prog_14_method_57_code, 4, some Jvm.ClassFile.FieldType.int, (0, 0), 1, 12, 1),
  (⟨"SlideNightModel", "leave", "(II)J"⟩, prog_14_method_83_code, 5, some Jvm.ClassFile.FieldType.long, (0, 0), 2, 12, 1),
  (⟨"SlideNightModel", "leftOut", "(II)I"⟩, prog_14_method_101_code, 11, some Jvm.ClassFile.FieldType.int, (0, 0), 2, 12, 1),
  (⟨"SlideNightModel", "lightBox", "(II)J"⟩, prog_14_method_84_code, 12, some Jvm.ClassFile.FieldType.long, (0, 0), 2, 12, 1),
  (⟨"SlideNightModel", "link", "(II)I"⟩, prog_14_method_98_code, 3, some Jvm.ClassFile.FieldType.int, (0, 0), 2, 12, 1),
  (⟨"SlideNightModel", "looker", "(III)Z"⟩, prog_14_method_16_code, 4, some Jvm.ClassFile.FieldType.boolean, (0, 0), 3, 12, 1),
  (⟨"SlideNightModel", "noticedParts", "()V"⟩, prog_14_method_85_code, 2, none, (0, 0), 0, 12, 1),
  (⟨"SlideNightModel", "odds", "(IIII)I"⟩, prog_14_method_76_code, 7, some Jvm.ClassFile.FieldType.int, (0, 0), 4, 12, 1),
  (⟨"SlideNightModel", "put", "(II)Z"⟩, prog_14_method_13_code, 3, some Jvm.ClassFile.FieldType.boolean, (0, 0), 2, 12, 1),
  (⟨"SlideNightModel", "putIn", "()I"⟩, prog_14_method_104_code, 5, some Jvm.ClassFile.FieldType.int, (0, 0), 0, 12, 1),
  (⟨"SlideNightModel", "says", "(IIII)J"⟩, prog_14_method_95_code, 17, some Jvm.ClassFile.FieldType.long, (0, 0), 4, 12, 1),
  (⟨"SlideNightModel", "seed", "(I)Z"⟩, prog_14_method_105_code, 2, some Jvm.ClassFile.FieldType.boolean, (0, 0), 1, 12, 1),
  (⟨"SlideNightModel", "shadow", "(III)I"⟩, prog_14_method_97_code, 6, some Jvm.ClassFile.FieldType.int, (0, 0), 3, 12, 1),
  (⟨"SlideNightModel", "shown", "(III)I"⟩, prog_14_method_25_code, 4, some Jvm.ClassFile.FieldType.int, (0, 0), 3, 12, 1),
  (⟨"SlideNightModel", "slide", "(IIII)Z"⟩, prog_14_method_12_code, 6, some Jvm.ClassFile.FieldType.boolean, (0, 0), 4, 12, 1),
  (⟨"SlideNightModel", "slideIs", "(II)I"⟩, prog_14_method_28_code, 3, some Jvm.ClassFile.FieldType.int, (0, 0), 2, 12, 1),
  (⟨"SlideNightModel", "spilt", "(II)J"⟩, prog_14_method_94_code, 8, some Jvm.ClassFile.FieldType.long, (0, 0), 2, 12, 1),
  (⟨"SlideNightModel", "sunBy", "(II)I"⟩, prog_14_method_96_code, 4, some Jvm.ClassFile.FieldType.int, (0, 0), 2, 12, 0),
  (⟨"SlideNightModel", "sure", "(II)Z"⟩, prog_14_method_87_code, 3, some Jvm.ClassFile.FieldType.boolean, (0, 0), 2, 12, 1),
  (⟨"SlideNightModel", "sureMany", "()I"⟩, prog_14_method_109_code, 3, some Jvm.ClassFile.FieldType.int, (0, 0), 0, 12, 1),
  (⟨"SlideNightModel", "through", "(JJI)J"⟩, prog_14_method_74_code, 7, some Jvm.ClassFile.FieldType.long, (0, 0), 3, 12, 0),
  (⟨"SlideNightModel", "toTurn", "(II)J"⟩, prog_14_method_80_code, 4, some Jvm.ClassFile.FieldType.long, (0, 0), 2, 12, 1),
  (⟨"SlideNightModel", "tray", "(I)I"⟩, prog_14_method_34_code, 3, some Jvm.ClassFile.FieldType.int, (0, 0), 1, 12, 1),
  (⟨"SlideNightModel", "tried", "(I)I"⟩, prog_14_method_71_code, 3, some Jvm.ClassFile.FieldType.int, (0, 0), 1, 12, 1),
  (⟨"SlideNightModel", "triedBy", "(I)I"⟩, prog_14_method_70_code, 4, some Jvm.ClassFile.FieldType.int, (0, 0), 1, 12, 1),
  (⟨"SlideNightModel", "types", "(I)V"⟩, prog_14_method_10_code, 3, none, (0, 0), 1, 12, 1),
  (⟨"SlideNightModel", "undo", "()Z"⟩, prog_14_method_107_code, 2, some Jvm.ClassFile.FieldType.boolean, (0, 0), 0, 12, 1),
  (⟨"SlideNightModel", "ways", "(III)I"⟩, prog_14_method_20_code, 4, some Jvm.ClassFile.FieldType.int, (0, 0), 3, 12, 1),
  (⟨"SlideNightModel", "wrongMany", "()I"⟩, prog_14_method_24_code, 3, some Jvm.ClassFile.FieldType.int, (0, 0), 0, 12, 1),
  (⟨"SlideNightLaw", "law", "([I)Z"⟩, code, 4, some .boolean, (0, 0), 1, 13, 3)]
def xm_0 : xm_T := (⟨"", "", ""⟩, ⟨#[]⟩, 0, none, (0, 0), 0, 99, 9)
def xm (μ : Nat) : xm_T := xm_A.getD μ xm_0
def xm_P : List (Nat × Nat × Nat × Nat) := [(836, 184, 221, 222), (837, 184, 223, 224), (838, 184, 225, 226), (839, 184, 227, 228), (840, 184, 229, 0), (841, 185, 230, 231), (842, 185, 232, 233), (843, 185, 234, 0), (844, 185, 235, 236), (845, 185, 237, 238), (846, 186, 239, 0), (847, 187, 240, 0), (848, 188, 241, 0), (849, 189, 242, 0), (850, 190, 243, 244), (851, 190, 245, 0), (852, 191, 246, 247), (853, 191, 248, 0), (854, 192, 249, 250), (855, 192, 251, 252), (856, 192, 253, 0), (857, 192, 254, 255), (858, 192, 256, 257), (859, 192, 258, 259), (860, 192, 260, 261), (861, 193, 262, 0), (862, 193, 263, 264), (863, 194, 265, 0), (864, 195, 266, 267), (865, 195, 268, 269), (866, 195, 270, 271), (867, 195, 272, 0), (868, 195, 273, 0), (869, 195, 274, 275), (870, 195, 276, 277), (871, 195, 278, 279), (872, 195, 280, 281), (873, 195, 282, 283), (874, 195, 284, 285), (875, 195, 286, 287), (876, 195, 288, 289), (877, 195, 290, 291), (878, 195, 292, 0), (879, 195, 293, 0), (880, 195, 294, 0), (881, 195, 295, 296), (882, 195, 297, 298), (883, 195, 299, 300), (884, 195, 301, 302), (885, 195, 303, 304), (886, 195, 305, 306), (887, 195, 307, 308), (888, 195, 309, 310), (889, 195, 311, 312), (890, 195, 313, 314), (891, 195, 315, 0), (892, 195, 316, 317), (893, 195, 318, 319), (894, 195, 320, 321), (895, 195, 322, 323), (896, 195, 324, 325), (897, 195, 326, 327), (898, 195, 328, 329), (899, 195, 330, 331), (900, 195, 332, 333), (901, 195, 334, 335), (902, 195, 336, 337), (903, 195, 338, 339), (904, 195, 340, 0), (905, 195, 341, 342), (906, 195, 343, 344), (907, 195, 345, 346), (908, 195, 347, 0), (909, 195, 348, 349), (910, 195, 350, 0), (911, 195, 351, 0), (912, 195, 352, 353), (913, 195, 354, 0), (914, 196, 355, 356), (915, 196, 357, 0), (916, 196, 358, 0), (917, 196, 359, 0), (918, 196, 360, 361), (919, 196, 362, 363), (920, 196, 364, 0), (921, 196, 365, 0), (922, 196, 366, 367), (923, 196, 368, 369), (924, 196, 370, 371), (925, 196, 372, 373), (926, 196, 374, 375), (927, 196, 376, 377), (928, 196, 378, 0), (929, 196, 379, 380), (930, 196, 381, 382), (931, 196, 383, 384), (932, 196, 385, 0), (933, 196, 386, 0), (934, 196, 387, 388), (935, 196, 389, 0), (936, 196, 390, 391), (937, 196, 392, 393), (938, 196, 394, 0), (939, 196, 395, 396), (940, 196, 397, 398), (941, 196, 399, 400), (942, 196, 401, 402), (943, 196, 403, 404), (944, 196, 405, 406), (945, 196, 407, 408), (946, 196, 409, 410), (947, 196, 411, 412), (948, 196, 413, 414), (949, 196, 415, 416), (950, 196, 417, 418), (951, 196, 419, 420), (952, 196, 421, 422), (953, 196, 423, 424), (954, 196, 425, 426), (955, 196, 427, 428), (956, 196, 429, 430), (957, 196, 431, 432), (958, 196, 433, 434), (959, 196, 435, 0), (960, 196, 436, 437), (961, 196, 438, 439), (962, 196, 440, 0), (963, 196, 441, 442), (964, 196, 443, 444), (965, 196, 445, 446), (966, 196, 447, 448), (967, 196, 449, 450), (968, 196, 451, 452), (969, 196, 453, 454), (970, 196, 455, 456), (0, 0, 0, 0)]
abbrev xe_I : Type := Jvm.ClassFile.Instr × Nat × Nat × Nat × Nat
def xc_0 : List (List (Option xe_I)) := [[some (.iconst 0, 1, 0, 0, 0), some (.istore_n 2, 1, 0, 0, 0), some (.iload_n 2, 1, 0, 0, 0), some (.aload_n 1, 1, 0, 0, 0), some (.getfield 33, 3, 6, 2, 457), none, none, some (.if_icmp .ge 61, 3, 0, 0, 0)],
  [],
  [none, none, none, none, some (.return_, 1, 0, 0, 0)]]
def xc_1 : List (List (Option xe_I)) := [[some (.aload_n 0, 1, 0, 0, 0), some (.iconst 0, 1, 0, 0, 0), some (.putfield 25, 3, 0, 3, 458), none, none, some (.return_, 1, 0, 0, 0)]]
def xc_2 : List (List (Option xe_I)) := [[some (.aload_n 0, 1, 0, 0, 0), some (.iconst 0, 1, 0, 0, 0), some (.putfield 46, 3, 0, 0, 459), none, none, some (.aload_n 0, 1, 0, 0, 0), some (.iconst 0, 1, 0, 0, 0), some (.putfield 49, 3, 0, 1, 460), none, none, some (.aload_n 0, 1, 0, 0, 0), some (.lconst 0, 1, 0, 0, 0), some (.putfield 52, 3, 0, 2, 461), none, none, some (.iconst 0, 1, 0, 0, 0), some (.istore_n 2, 1, 0, 0, 0), some (.lconst 0, 1, 0, 0, 0), some (.lstore_n 3, 1, 0, 0, 0), some (.iconst 1, 1, 0, 0, 0), some (.istore 5, 2, 0, 0, 0), none, some (.iload 5, 2, 0, 0, 0), none, some (.iconst 1, 1, 0, 0, 0), some (.aload_n 0, 1, 0, 0, 0), some (.getfield 25, 3, 0, 3, 458), none, none, some (.ishl, 1, 0, 0, 0), some (.if_icmp .ge 118, 3, 0, 0, 0)],
  [],
  [],
  [],
  [none, none, none, none, none, none, none, none, none, none, none, none, none, none, none, none, none, none, none, none, some (.return_, 1, 0, 0, 0)]]
def xc_3 : List (List (Option xe_I)) := [[some (.aload_n 0, 1, 0, 0, 0), some (.getfield 25, 3, 0, 3, 458), none, none, some (.bipush 12, 2, 0, 0, 0), none, some (.if_icmp .ge 7, 3, 0, 0, 0), none, none, some (.iconst 1, 1, 0, 0, 0), some (.goto 4, 3, 0, 0, 0), none, none, none, some (.ireturn, 1, 0, 0, 0)]]
def xc_4 : List (List (Option xe_I)) := [[some (.aload_n 0, 1, 0, 0, 0), some (.invokespecial 3, 3, 1, 0, 462), none, none, some (.aload_n 0, 1, 0, 0, 0), some (.bipush 12, 2, 0, 0, 0), none, some (.newarray .int, 2, 0, 0, 0), none, some (.putfield 9, 3, 0, 4, 463), none, none, some (.aload_n 0, 1, 0, 0, 0), some (.bipush 12, 2, 0, 0, 0), none, some (.newarray .int, 2, 0, 0, 0), none, some (.putfield 15, 3, 0, 5, 464), none, none, some (.aload_n 0, 1, 0, 0, 0), some (.bipush 12, 2, 0, 0, 0), none, some (.newarray .long, 2, 0, 0, 0), none, some (.putfield 18, 3, 0, 6, 465), none, none, some (.aload_n 0, 1, 0, 0, 0), some (.bipush 12, 2, 0, 0, 0), none, some (.newarray .int, 2, 0, 0, 0)],
  [none, some (.putfield 22, 3, 0, 7, 466), none, none, some (.return_, 1, 0, 0, 0)]]
def xc_5 : List (List (Option xe_I)) := [[some (.aload_n 0, 1, 0, 0, 0), some (.iconst 0, 1, 0, 0, 0), some (.putfield 45, 3, 1, 0, 467), none, none, some (.aload_n 0, 1, 0, 0, 0), some (.iconst 0, 1, 0, 0, 0), some (.putfield 48, 3, 1, 1, 468), none, none, some (.aload_n 0, 1, 0, 0, 0), some (.iconst 0, 1, 0, 0, 0), some (.putfield 51, 3, 1, 2, 469), none, none, some (.aload_n 0, 1, 0, 0, 0), some (.iconst 0, 1, 0, 0, 0), some (.putfield 54, 3, 1, 3, 470), none, none, some (.aload_n 0, 1, 0, 0, 0), some (.iconst 0, 1, 0, 0, 0), some (.putfield 57, 3, 1, 4, 471), none, none, some (.aload_n 0, 1, 0, 0, 0), some (.iconst 0, 1, 0, 0, 0), some (.putfield 60, 3, 1, 5, 472), none, none, some (.aload_n 0, 1, 0, 0, 0), some (.iconst 0, 1, 0, 0, 0)],
  [some (.putfield 63, 3, 1, 6, 473), none, none, some (.aload_n 0, 1, 0, 0, 0), some (.aload_n 1, 1, 0, 0, 0), some (.getfield 66, 3, 8, 7, 474), none, none, some (.putfield 69, 3, 1, 7, 475), none, none, some (.aload_n 0, 1, 0, 0, 0), some (.aload_n 1, 1, 0, 0, 0), some (.getfield 70, 3, 8, 4, 476), none, none, some (.putfield 28, 3, 1, 8, 477), none, none, some (.iconst 0, 1, 0, 0, 0), some (.istore_n 2, 1, 0, 0, 0), some (.iload_n 2, 1, 0, 0, 0), some (.bipush 32, 2, 0, 0, 0), none, some (.if_icmp .ge 24, 3, 0, 0, 0), none, none, some (.aload_n 0, 1, 0, 0, 0), some (.getfield 9, 3, 1, 9, 478), none, none, some (.iload_n 2, 1, 0, 0, 0)],
  [some (.aload_n 1, 1, 0, 0, 0), some (.getfield 71, 3, 8, 0, 479), none, none, some (.iload_n 2, 1, 0, 0, 0), some (.aaload, 1, 0, 0, 0), some (.getfield 75, 3, 7, 7, 480), none, none, some (.iastore, 1, 0, 0, 0), some (.iinc 2 1, 3, 0, 0, 0), none, none, some (.goto (-24), 3, 0, 0, 0), none, none, some (.iconst 0, 1, 0, 0, 0), some (.istore_n 2, 1, 0, 0, 0), some (.iload_n 2, 1, 0, 0, 0), some (.bipush 8, 2, 0, 0, 0), none, some (.if_icmp .ge 54, 3, 0, 0, 0), none, none, some (.aload_n 0, 1, 0, 0, 0), some (.getfield 15, 3, 1, 10, 481), none, none, some (.iload_n 2, 1, 0, 0, 0), some (.aload_n 1, 1, 0, 0, 0), some (.getfield 80, 3, 8, 3, 482)],
  [none, some (.iload_n 2, 1, 0, 0, 0), some (.iaload, 1, 0, 0, 0), some (.iastore, 1, 0, 0, 0), some (.aload_n 0, 1, 0, 0, 0), some (.dup, 1, 0, 0, 0), some (.getfield 63, 3, 1, 6, 473), none, none, some (.aload_n 1, 1, 0, 0, 0), some (.iload_n 2, 1, 0, 0, 0), some (.invokevirtual 83, 3, 0, 19, 483), none, none, some (.ifCond .eq 18, 3, 0, 0, 0)],
  [some (.iconst 0, 1, 0, 0, 0), some (.ior, 1, 0, 0, 0), some (.putfield 63, 3, 1, 6, 473), none, none, some (.iinc 2 1, 3, 0, 0, 0), none, none, some (.goto (-54), 3, 0, 0, 0), none, none, some (.return_, 1, 0, 0, 0)]]
def xc_6 : List (List (Option xe_I)) := [[some (.aload_n 0, 1, 0, 0, 0), some (.aload_n 1, 1, 0, 0, 0), some (.invokevirtual 18, 3, 0, 5, 484), none, none, some (.iconst 0, 1, 0, 0, 0), some (.istore 4, 2, 0, 0, 0), none, some (.iload 4, 2, 0, 0, 0), none, some (.aload_n 3, 1, 0, 0, 0), some (.getfield 22, 3, 9, 1, 485), none, none, some (.if_icmp .ge 41, 3, 0, 0, 0)],
  [none, none, none, none, none, none, none, none, none, none, none, none, none, none, none, none, none, none, none, none, none, none, none, some (.return_, 1, 0, 0, 0)]]
def xc_7 : List (List (Option xe_I)) := [[some (.aload_n 0, 1, 0, 0, 0), some (.invokespecial 3, 3, 1, 0, 486), none, none, some (.aload_n 0, 1, 0, 0, 0), some (.bipush 32, 2, 0, 0, 0), none, some (.newarray .int, 2, 0, 0, 0), none, some (.putfield 9, 3, 1, 9, 478), none, none, some (.aload_n 0, 1, 0, 0, 0), some (.bipush 8, 2, 0, 0, 0), none, some (.newarray .int, 2, 0, 0, 0), none, some (.putfield 15, 3, 1, 10, 481), none, none, some (.return_, 1, 0, 0, 0)]]
def xc_8 : List (List (Option xe_I)) := [[some (.iconst 0, 1, 0, 0, 0), some (.istore_n 2, 1, 0, 0, 0), some (.iload_n 2, 1, 0, 0, 0), some (.bipush 32, 2, 0, 0, 0), none, some (.if_icmp .ge 24, 3, 0, 0, 0), none, none, some (.aload_n 1, 1, 0, 0, 0), some (.getfield 71, 3, 8, 0, 479), none, none, some (.iload_n 2, 1, 0, 0, 0), some (.aaload, 1, 0, 0, 0), some (.aload_n 0, 1, 0, 0, 0), some (.getfield 9, 3, 1, 9, 478), none, none, some (.iload_n 2, 1, 0, 0, 0), some (.iaload, 1, 0, 0, 0), some (.putfield 75, 3, 7, 7, 480), none, none, some (.iinc 2 1, 3, 0, 0, 0), none, none, some (.goto (-24), 3, 0, 0, 0), none, none, some (.aload_n 1, 1, 0, 0, 0), some (.aload_n 0, 1, 0, 0, 0), some (.getfield 28, 3, 1, 8, 477)],
  [none, none, some (.putfield 70, 3, 8, 4, 476), none, none, some (.aload_n 1, 1, 0, 0, 0), some (.aload_n 0, 1, 0, 0, 0), some (.getfield 69, 3, 1, 7, 475), none, none, some (.putfield 66, 3, 8, 7, 474), none, none, some (.return_, 1, 0, 0, 0)]]
def xc_9 : List (List (Option xe_I)) := [[some (.iconst 0, 1, 0, 0, 0), some (.istore_n 2, 1, 0, 0, 0), some (.iconst 0, 1, 0, 0, 0), some (.istore_n 3, 1, 0, 0, 0), some (.iload_n 3, 1, 0, 0, 0), some (.bipush 32, 2, 0, 0, 0), none, some (.if_icmp .ge 47, 3, 0, 0, 0), none, none, some (.iload_n 2, 1, 0, 0, 0), some (.aload_n 1, 1, 0, 0, 0), some (.getfield 71, 3, 8, 0, 479), none, none, some (.iload_n 3, 1, 0, 0, 0), some (.aaload, 1, 0, 0, 0), some (.getfield 136, 3, 7, 2, 487), none, none, some (.ifCond .eq 25, 3, 0, 0, 0)],
  [none, none, none, none, none, none, none, none, none, none, none, none, none, some (.iconst 0, 1, 0, 0, 0), some (.iadd, 1, 0, 0, 0), some (.istore_n 2, 1, 0, 0, 0), some (.iinc 3 1, 3, 0, 0, 0), none, none, some (.goto (-47), 3, 0, 0, 0), none, none, some (.iload_n 2, 1, 0, 0, 0), some (.ireturn, 1, 0, 0, 0)]]
def xc_10 : List (List (Option xe_I)) := [[some (.aload_n 0, 1, 0, 0, 0), some (.invokespecial 3, 3, 1, 0, 488), none, none, some (.aload_n 0, 1, 0, 0, 0), some (.new 9, 3, 3, 0, 489), none, none, some (.dup, 1, 0, 0, 0), some (.invokespecial 11, 3, 0, 11, 490), none, none, some (.putfield 12, 3, 2, 0, 491), none, none, some (.aload_n 0, 1, 0, 0, 0), some (.new 9, 3, 3, 0, 489), none, none, some (.dup, 1, 0, 0, 0), some (.invokespecial 11, 3, 0, 11, 490), none, none, some (.putfield 18, 3, 2, 1, 492), none, none, some (.aload_n 0, 1, 0, 0, 0), some (.bipush 11, 2, 0, 0, 0), none, some (.newarray .int, 2, 0, 0, 0), none, some (.putfield 21, 3, 2, 2, 493)],
  [none, none, some (.return_, 1, 0, 0, 0)]]
def xc_11 : List (List (Option xe_I)) := [[some (.aload_n 0, 1, 0, 0, 0), some (.invokespecial 3, 3, 1, 0, 494), none, none, some (.aload_n 0, 1, 0, 0, 0), some (.sipush 240, 3, 0, 0, 0), none, none, some (.newarray .int, 2, 0, 0, 0), none, some (.putfield 9, 3, 3, 3, 495), none, none, some (.aload_n 0, 1, 0, 0, 0), some (.sipush 240, 3, 0, 0, 0), none, none, some (.newarray .int, 2, 0, 0, 0), none, some (.putfield 15, 3, 3, 4, 496), none, none, some (.aload_n 0, 1, 0, 0, 0), some (.bipush 16, 2, 0, 0, 0), none, some (.newarray .int, 2, 0, 0, 0), none, some (.putfield 18, 3, 3, 5, 497), none, none, some (.aload_n 0, 1, 0, 0, 0), some (.bipush 16, 2, 0, 0, 0)],
  [none, some (.newarray .int, 2, 0, 0, 0), none, some (.putfield 21, 3, 3, 6, 498), none, none, some (.aload_n 0, 1, 0, 0, 0), some (.bipush 16, 2, 0, 0, 0), none, some (.newarray .int, 2, 0, 0, 0), none, some (.putfield 24, 3, 3, 7, 499), none, none, some (.aload_n 0, 1, 0, 0, 0), some (.bipush 16, 2, 0, 0, 0), none, some (.newarray .int, 2, 0, 0, 0), none, some (.putfield 27, 3, 3, 8, 500), none, none, some (.aload_n 0, 1, 0, 0, 0), some (.bipush 40, 2, 0, 0, 0), none, some (.newarray .int, 2, 0, 0, 0), none, some (.putfield 30, 3, 3, 9, 501), none, none, some (.return_, 1, 0, 0, 0)]]
def xc_12 : List (List (Option xe_I)) := [[some (.aload_n 0, 1, 0, 0, 0), some (.invokespecial 3, 3, 1, 0, 502), none, none, some (.aload_n 0, 1, 0, 0, 0), some (.iconst 0, 1, 0, 0, 0), some (.newarray .int, 2, 0, 0, 0), none, some (.putfield 9, 3, 4, 0, 503), none, none, some (.aload_n 0, 1, 0, 0, 0), some (.aload_n 1, 1, 0, 0, 0), some (.putfield 15, 3, 4, 4, 504), none, none, some (.return_, 1, 0, 0, 0)]]
def xc_13 : List (List (Option xe_I)) := [[some (.aload_n 0, 1, 0, 0, 0), some (.invokespecial 3, 3, 1, 0, 505), none, none, some (.aload_n 0, 1, 0, 0, 0), some (.bipush 12, 2, 0, 0, 0), none, some (.newarray .int, 2, 0, 0, 0), none, some (.putfield 9, 3, 5, 4, 506), none, none, some (.aload_n 0, 1, 0, 0, 0), some (.bipush 32, 2, 0, 0, 0), none, some (.newarray .int, 2, 0, 0, 0), none, some (.putfield 15, 3, 5, 5, 507), none, none, some (.aload_n 0, 1, 0, 0, 0), some (.bipush 12, 2, 0, 0, 0), none, some (.newarray .int, 2, 0, 0, 0), none, some (.putfield 18, 3, 5, 6, 508), none, none, some (.aload_n 0, 1, 0, 0, 0), some (.sipush 4096, 3, 0, 0, 0)],
  [some (.newarray .int, 2, 0, 0, 0), none, some (.putfield 21, 3, 5, 7, 509), none, none, some (.aload_n 0, 1, 0, 0, 0), some (.sipush 4096, 3, 0, 0, 0), none, none, some (.newarray .int, 2, 0, 0, 0), none, some (.putfield 24, 3, 5, 8, 510), none, none, some (.aload_n 0, 1, 0, 0, 0), some (.sipush 144, 3, 0, 0, 0), none, none, some (.newarray .int, 2, 0, 0, 0), none, some (.putfield 27, 3, 5, 9, 511), none, none, some (.return_, 1, 0, 0, 0)]]
def xc_14 : List (List (Option xe_I)) := [[some (.aload_n 0, 1, 0, 0, 0), some (.aload_n 1, 1, 0, 0, 0), some (.getfield 24, 3, 6, 2, 512), none, none, some (.aload_n 0, 1, 0, 0, 0), some (.getfield 15, 3, 6, 0, 513), none, none, some (.arraylength, 1, 0, 0, 0), some (.invokestatic 28, 3, 3, 0, 514), none, none, some (.putfield 24, 3, 6, 2, 512), none, none, some (.aload_n 1, 1, 0, 0, 0), some (.getfield 15, 3, 6, 0, 513), none, none, some (.iconst 0, 1, 0, 0, 0), some (.aload_n 0, 1, 0, 0, 0), some (.getfield 15, 3, 6, 0, 513), none, none, some (.iconst 0, 1, 0, 0, 0), some (.aload_n 0, 1, 0, 0, 0), some (.getfield 24, 3, 6, 2, 512), none, none, some (.invokestatic 31, 3, 5, 0, 515)],
  [none, some (.aload_n 1, 1, 0, 0, 0), some (.getfield 21, 3, 6, 1, 516), none, none, some (.iconst 0, 1, 0, 0, 0), some (.aload_n 0, 1, 0, 0, 0), some (.getfield 21, 3, 6, 1, 516), none, none, some (.iconst 0, 1, 0, 0, 0), some (.aload_n 0, 1, 0, 0, 0), some (.getfield 24, 3, 6, 2, 512), none, none, some (.invokestatic 31, 3, 5, 0, 515), none, none, some (.return_, 1, 0, 0, 0)]]
def xc_15 : List (List (Option xe_I)) := [[some (.aload_n 0, 1, 0, 0, 0), some (.invokespecial 3, 3, 1, 0, 517), none, none, some (.iload_n 1, 1, 0, 0, 0), some (.iconst 0, 1, 0, 0, 0), some (.invokestatic 9, 3, 2, 0, 518), none, none, some (.istore_n 2, 1, 0, 0, 0), some (.aload_n 0, 1, 0, 0, 0), some (.iload_n 2, 1, 0, 0, 0), some (.newarray .int, 2, 0, 0, 0), none, some (.putfield 15, 3, 6, 0, 513), none, none, some (.aload_n 0, 1, 0, 0, 0), some (.iload_n 2, 1, 0, 0, 0), some (.newarray .int, 2, 0, 0, 0), none, some (.putfield 21, 3, 6, 1, 516), none, none, some (.return_, 1, 0, 0, 0)]]
def xc_16 : List (List (Option xe_I)) := [[some (.aload_n 1, 1, 0, 0, 0), some (.getfield 15, 3, 7, 1, 519), none, none, some (.iconst 0, 1, 0, 0, 0), some (.aload_n 0, 1, 0, 0, 0), some (.getfield 15, 3, 7, 1, 519), none, none, some (.iconst 0, 1, 0, 0, 0), some (.bipush 25, 2, 0, 0, 0), none, some (.invokestatic 22, 3, 5, 0, 520), none, none, some (.aload_n 0, 1, 0, 0, 0), some (.aload_n 1, 1, 0, 0, 0), some (.getfield 28, 3, 7, 2, 521), none, none, some (.putfield 28, 3, 7, 2, 521), none, none, some (.aload_n 0, 1, 0, 0, 0), some (.aload_n 1, 1, 0, 0, 0), some (.getfield 32, 3, 7, 3, 522), none, none, some (.putfield 32, 3, 7, 3, 522), none, none, some (.aload_n 0, 1, 0, 0, 0)],
  [some (.aload_n 1, 1, 0, 0, 0), some (.getfield 35, 3, 7, 4, 523), none, none, some (.putfield 35, 3, 7, 4, 523), none, none, some (.aload_n 0, 1, 0, 0, 0), some (.aload_n 1, 1, 0, 0, 0), some (.getfield 38, 3, 7, 5, 524), none, none, some (.putfield 38, 3, 7, 5, 524), none, none, some (.aload_n 0, 1, 0, 0, 0), some (.aload_n 1, 1, 0, 0, 0), some (.getfield 41, 3, 7, 6, 525), none, none, some (.putfield 41, 3, 7, 6, 525), none, none, some (.aload_n 0, 1, 0, 0, 0), some (.aload_n 1, 1, 0, 0, 0), some (.getfield 44, 3, 7, 7, 526), none, none, some (.putfield 44, 3, 7, 7, 526), none, none, some (.aload_n 0, 1, 0, 0, 0)],
  [some (.aload_n 1, 1, 0, 0, 0), some (.getfield 47, 3, 7, 8, 527), none, none, some (.putfield 47, 3, 7, 8, 527), none, none, some (.aload_n 0, 1, 0, 0, 0), some (.aload_n 1, 1, 0, 0, 0), some (.getfield 19, 3, 7, 9, 528), none, none, some (.putfield 19, 3, 7, 9, 528), none, none, some (.return_, 1, 0, 0, 0)]]
def xc_17 : List (List (Option xe_I)) := [[some (.aload_n 0, 1, 0, 0, 0), some (.invokespecial 3, 3, 1, 0, 529), none, none, some (.aload_n 0, 1, 0, 0, 0), some (.iload_n 1, 1, 0, 0, 0), some (.putfield 9, 3, 7, 0, 530), none, none, some (.aload_n 0, 1, 0, 0, 0), some (.bipush 25, 2, 0, 0, 0), none, some (.newarray .int, 2, 0, 0, 0), none, some (.putfield 15, 3, 7, 1, 519), none, none, some (.aload_n 0, 1, 0, 0, 0), some (.iconst (-1), 1, 0, 0, 0), some (.putfield 19, 3, 7, 9, 528), none, none, some (.return_, 1, 0, 0, 0)]]
def xc_18 : List (List (Option xe_I)) := [[some (.iconst 0, 1, 0, 0, 0), some (.istore_n 2, 1, 0, 0, 0), some (.iload_n 2, 1, 0, 0, 0), some (.bipush 32, 2, 0, 0, 0), none, some (.if_icmp .ge 24, 3, 0, 0, 0), none, none, some (.aload_n 0, 1, 0, 0, 0), some (.getfield 11, 3, 8, 0, 531), none, none, some (.iload_n 2, 1, 0, 0, 0), some (.aaload, 1, 0, 0, 0), some (.aload_n 1, 1, 0, 0, 0), some (.getfield 11, 3, 8, 0, 531), none, none, some (.iload_n 2, 1, 0, 0, 0), some (.aaload, 1, 0, 0, 0), some (.invokevirtual 65, 3, 0, 16, 532), none, none, some (.iinc 2 1, 3, 0, 0, 0), none, none, some (.goto (-24), 3, 0, 0, 0), none, none, some (.aload_n 0, 1, 0, 0, 0), some (.aload_n 1, 1, 0, 0, 0), some (.getfield 52, 3, 8, 1, 533)],
  [none, none, some (.putfield 52, 3, 8, 1, 533), none, none, some (.aload_n 1, 1, 0, 0, 0), some (.getfield 20, 3, 8, 2, 534), none, none, some (.iconst 0, 1, 0, 0, 0), some (.aload_n 0, 1, 0, 0, 0), some (.getfield 20, 3, 8, 2, 534), none, none, some (.iconst 0, 1, 0, 0, 0), some (.bipush 8, 2, 0, 0, 0), none, some (.invokestatic 69, 3, 5, 0, 535), none, none, some (.aload_n 1, 1, 0, 0, 0), some (.getfield 24, 3, 8, 3, 536), none, none, some (.iconst 0, 1, 0, 0, 0), some (.aload_n 0, 1, 0, 0, 0), some (.getfield 24, 3, 8, 3, 536), none, none, some (.iconst 0, 1, 0, 0, 0), some (.bipush 8, 2, 0, 0, 0)],
  [some (.invokestatic 69, 3, 5, 0, 535), none, none, some (.aload_n 0, 1, 0, 0, 0), some (.aload_n 1, 1, 0, 0, 0), some (.getfield 27, 3, 8, 4, 537), none, none, some (.putfield 27, 3, 8, 4, 537), none, none, some (.aload_n 0, 1, 0, 0, 0), some (.getfield 34, 3, 8, 5, 538), none, none, some (.aload_n 1, 1, 0, 0, 0), some (.getfield 34, 3, 8, 5, 538), none, none, some (.invokevirtual 75, 3, 0, 14, 539), none, none, some (.aload_n 0, 1, 0, 0, 0), some (.getfield 38, 3, 8, 6, 540), none, none, some (.aload_n 1, 1, 0, 0, 0), some (.getfield 38, 3, 8, 6, 540), none, none, some (.invokevirtual 75, 3, 0, 14, 539)],
  [none, some (.aload_n 0, 1, 0, 0, 0), some (.aload_n 1, 1, 0, 0, 0), some (.getfield 41, 3, 8, 7, 541), none, none, some (.putfield 41, 3, 8, 7, 541), none, none, some (.return_, 1, 0, 0, 0)]]
def xc_19 : List (List (Option xe_I)) := [[some (.iload_n 1, 1, 0, 0, 0), some (.iconst 0, 1, 0, 0, 0), some (.bipush 7, 2, 0, 0, 0), none, some (.invokestatic 44, 3, 1, 43, 0), none, none, some (.ifCond .eq 18, 3, 0, 0, 0), none, none, some (.aload_n 0, 1, 0, 0, 0), some (.getfield 52, 3, 8, 1, 533), none, none, some (.iload_n 1, 1, 0, 0, 0), some (.ishr, 1, 0, 0, 0), some (.iconst 1, 1, 0, 0, 0), some (.iand, 1, 0, 0, 0), some (.ifCond .eq 7, 3, 0, 0, 0), none, none, none, none, none, none, some (.iconst 0, 1, 0, 0, 0), some (.ireturn, 1, 0, 0, 0)]]
def xc_20 : List (List (Option xe_I)) := [[some (.aload_n 0, 1, 0, 0, 0), some (.invokespecial 3, 3, 1, 0, 542), none, none, some (.aload_n 0, 1, 0, 0, 0), some (.bipush 32, 2, 0, 0, 0), none, some (.anewarray 9, 3, 0, 0, 543), none, none, some (.putfield 11, 3, 8, 0, 531), none, none, some (.iconst 0, 1, 0, 0, 0), some (.istore_n 1, 1, 0, 0, 0), some (.iload_n 1, 1, 0, 0, 0), some (.bipush 32, 2, 0, 0, 0), none, some (.if_icmp .ge 23, 3, 0, 0, 0), none, none, some (.aload_n 0, 1, 0, 0, 0), some (.getfield 11, 3, 8, 0, 531), none, none, some (.iload_n 1, 1, 0, 0, 0), some (.new 9, 3, 7, 0, 543), none, none, some (.dup, 1, 0, 0, 0), some (.iload_n 1, 1, 0, 0, 0), some (.invokespecial 17, 3, 0, 17, 544)],
  [none, none, some (.aastore, 1, 0, 0, 0), some (.iinc 1 1, 3, 0, 0, 0), none, none, some (.goto (-23), 3, 0, 0, 0), none, none, some (.aload_n 0, 1, 0, 0, 0), some (.bipush 8, 2, 0, 0, 0), none, some (.newarray .int, 2, 0, 0, 0), none, some (.putfield 20, 3, 8, 2, 534), none, none, some (.aload_n 0, 1, 0, 0, 0), some (.bipush 8, 2, 0, 0, 0), none, some (.newarray .int, 2, 0, 0, 0), none, some (.putfield 24, 3, 8, 3, 536), none, none, some (.aload_n 0, 1, 0, 0, 0), some (.iconst 1, 1, 0, 0, 0), some (.putfield 27, 3, 8, 4, 537), none, none, some (.aload_n 0, 1, 0, 0, 0), some (.new 31, 3, 6, 0, 545)],
  [none, none, some (.dup, 1, 0, 0, 0), some (.bipush 24, 2, 0, 0, 0), none, some (.invokespecial 33, 3, 0, 15, 546), none, none, some (.putfield 34, 3, 8, 5, 538), none, none, some (.aload_n 0, 1, 0, 0, 0), some (.new 31, 3, 6, 0, 545), none, none, some (.dup, 1, 0, 0, 0), some (.bipush 12, 2, 0, 0, 0), none, some (.invokespecial 33, 3, 0, 15, 546), none, none, some (.putfield 38, 3, 8, 6, 540), none, none, some (.aload_n 0, 1, 0, 0, 0), some (.iconst 1, 1, 0, 0, 0), some (.putfield 41, 3, 8, 7, 541), none, none, some (.return_, 1, 0, 0, 0)]]
def xc_21 : List (List (Option xe_I)) := [[some (.iconst 0, 1, 0, 0, 0), some (.istore_n 1, 1, 0, 0, 0), some (.iconst 0, 1, 0, 0, 0), some (.istore_n 2, 1, 0, 0, 0), some (.iload_n 2, 1, 0, 0, 0), some (.bipush 32, 2, 0, 0, 0), none, some (.if_icmp .ge 30, 3, 0, 0, 0), none, none, some (.iload_n 1, 1, 0, 0, 0), some (.aload_n 0, 1, 0, 0, 0), some (.getfield 11, 3, 8, 0, 531), none, none, some (.iload_n 2, 1, 0, 0, 0), some (.aaload, 1, 0, 0, 0), some (.getfield 62, 3, 7, 9, 547), none, none, some (.iconst (-1), 1, 0, 0, 0), some (.if_icmp .eq 7, 3, 0, 0, 0), none, none, none, none, none, none, some (.iconst 0, 1, 0, 0, 0), some (.iadd, 1, 0, 0, 0), some (.istore_n 1, 1, 0, 0, 0), some (.iinc 2 1, 3, 0, 0, 0)],
  [none, none, some (.goto (-30), 3, 0, 0, 0), none, none, some (.iload_n 1, 1, 0, 0, 0), some (.ireturn, 1, 0, 0, 0)]]
def xc_22 : List (List (Option xe_I)) := [[some (.iconst 0, 1, 0, 0, 0), some (.istore_n 1, 1, 0, 0, 0), some (.iconst 0, 1, 0, 0, 0), some (.istore_n 2, 1, 0, 0, 0), some (.iload_n 2, 1, 0, 0, 0), some (.bipush 32, 2, 0, 0, 0), none, some (.if_icmp .ge 29, 3, 0, 0, 0), none, none, some (.iload_n 1, 1, 0, 0, 0), some (.aload_n 0, 1, 0, 0, 0), some (.getfield 11, 3, 8, 0, 531), none, none, some (.iload_n 2, 1, 0, 0, 0), some (.aaload, 1, 0, 0, 0), some (.getfield 48, 3, 7, 2, 548), none, none, some (.ifCond .eq 7, 3, 0, 0, 0), none, none, none, none, none, none, some (.iconst 0, 1, 0, 0, 0), some (.iadd, 1, 0, 0, 0), some (.istore_n 1, 1, 0, 0, 0), some (.iinc 2 1, 3, 0, 0, 0)],
  [none, some (.goto (-29), 3, 0, 0, 0), none, none, some (.iload_n 1, 1, 0, 0, 0), some (.ireturn, 1, 0, 0, 0)]]
def xc_23 : List (List (Option xe_I)) := [[some (.iload_n 1, 1, 0, 0, 0), some (.iconst 0, 1, 0, 0, 0), some (.bipush 31, 2, 0, 0, 0), none, some (.invokestatic 44, 3, 1, 43, 0), none, none, some (.ifCond .eq 24, 3, 0, 0, 0), none, none, some (.aload_n 0, 1, 0, 0, 0), some (.getfield 11, 3, 8, 0, 531), none, none, some (.iload_n 1, 1, 0, 0, 0), some (.aaload, 1, 0, 0, 0), some (.getfield 48, 3, 7, 2, 548), none, none, some (.ifCond .eq 12, 3, 0, 0, 0), none, none, none, none, none, none, none, none, none, none, none, some (.aconst_null, 1, 0, 0, 0)],
  [some (.areturn, 1, 0, 0, 0)]]
def xc_24 : List (List (Option xe_I)) := [[some (.iconst 0, 1, 0, 0, 0), some (.istore_n 1, 1, 0, 0, 0), some (.iconst 0, 1, 0, 0, 0), some (.istore_n 2, 1, 0, 0, 0), some (.iload_n 2, 1, 0, 0, 0), some (.bipush 32, 2, 0, 0, 0), none, some (.if_icmp .ge 50, 3, 0, 0, 0), none, none, some (.iload_n 1, 1, 0, 0, 0), some (.aload_n 0, 1, 0, 0, 0), some (.getfield 11, 3, 8, 0, 531), none, none, some (.iload_n 2, 1, 0, 0, 0), some (.aaload, 1, 0, 0, 0), some (.getfield 48, 3, 7, 2, 548), none, none, some (.ifCond .eq 28, 3, 0, 0, 0)],
  [none, none, none, none, none, none, none, none, none, none, none, none, none, none, none, none, some (.iconst 0, 1, 0, 0, 0), some (.iadd, 1, 0, 0, 0), some (.istore_n 1, 1, 0, 0, 0), some (.iinc 2 1, 3, 0, 0, 0), none, none, some (.goto (-50), 3, 0, 0, 0), none, none, some (.iload_n 1, 1, 0, 0, 0), some (.ireturn, 1, 0, 0, 0)]]
def xc_25 : List (List (Option xe_I)) := [[some (.aload_n 0, 1, 0, 0, 0), some (.invokespecial 3, 3, 1, 0, 549), none, none, some (.aload_n 0, 1, 0, 0, 0), some (.bipush 60, 2, 0, 0, 0), none, some (.newarray .int, 2, 0, 0, 0), none, some (.putfield 9, 3, 9, 0, 550), none, none, some (.aload_n 0, 1, 0, 0, 0), some (.aload_n 0, 1, 0, 0, 0), some (.getfield 9, 3, 9, 0, 550), none, none, some (.putfield 15, 3, 9, 2, 551), none, none, some (.return_, 1, 0, 0, 0)]]
def xc_26 : List (List (Option xe_I)) := [[some (.iload_n 1, 1, 0, 0, 0), some (.ifCond .lt 26, 3, 0, 0, 0), none, none, some (.iload_n 1, 1, 0, 0, 0), some (.aload_n 0, 1, 0, 0, 0), some (.getfield 18, 3, 9, 1, 552), none, none, some (.if_icmp .ge 18, 3, 0, 0, 0), none, none, none, none, none, none, none, none, none, none, none, none, none, none, none, none, none, some (.iconst (-1), 1, 0, 0, 0), some (.ireturn, 1, 0, 0, 0)]]
def xc_27 : List (List (Option xe_I)) := [[some (.aload_n 0, 1, 0, 0, 0), some (.invokespecial 3, 3, 1, 0, 553), none, none, some (.aload_n 0, 1, 0, 0, 0), some (.bipush 8, 2, 0, 0, 0), none, some (.newarray .int, 2, 0, 0, 0), none, some (.putfield 9, 3, 10, 1, 554), none, none, some (.aload_n 0, 1, 0, 0, 0), some (.bipush 8, 2, 0, 0, 0), none, some (.newarray .int, 2, 0, 0, 0), none, some (.putfield 15, 3, 10, 2, 555), none, none, some (.aload_n 0, 1, 0, 0, 0), some (.bipush 8, 2, 0, 0, 0), none, some (.newarray .int, 2, 0, 0, 0), none, some (.putfield 18, 3, 10, 3, 556), none, none, some (.aload_n 0, 1, 0, 0, 0), some (.sipush 256, 3, 0, 0, 0)],
  [some (.newarray .int, 2, 0, 0, 0), none, some (.putfield 21, 3, 10, 4, 557), none, none, some (.aload_n 0, 1, 0, 0, 0), some (.sipush 2048, 3, 0, 0, 0), none, none, some (.newarray .int, 2, 0, 0, 0), none, some (.putfield 24, 3, 10, 5, 558), none, none, some (.aload_n 0, 1, 0, 0, 0), some (.bipush 7, 2, 0, 0, 0), none, some (.newarray .int, 2, 0, 0, 0), none, some (.putfield 27, 3, 10, 6, 559), none, none, some (.return_, 1, 0, 0, 0)]]
def xc_28 : List (List (Option xe_I)) := [[some (.bipush 24, 2, 0, 0, 0), none, some (.istore_n 2, 1, 0, 0, 0), some (.iload_n 2, 1, 0, 0, 0), some (.ifCond .lt 45, 3, 0, 0, 0), none, none, some (.aload_n 0, 1, 0, 0, 0), some (.getfield 81, 3, 11, 1, 560), none, none, some (.sipush 260, 3, 0, 0, 0), none, none, some (.if_icmp .ge 35, 3, 0, 0, 0), none, none, some (.aload_n 0, 1, 0, 0, 0), some (.getfield 9, 3, 11, 0, 561), none, none, some (.aload_n 0, 1, 0, 0, 0), some (.getfield 81, 3, 11, 1, 560), none, none, some (.iload_n 1, 1, 0, 0, 0), some (.iload_n 2, 1, 0, 0, 0), some (.iushr, 1, 0, 0, 0), some (.sipush 255, 3, 0, 0, 0), none, none, some (.iand, 1, 0, 0, 0)],
  [some (.iastore, 1, 0, 0, 0), some (.aload_n 0, 1, 0, 0, 0), some (.dup, 1, 0, 0, 0), some (.getfield 81, 3, 11, 1, 560), none, none, some (.iconst 1, 1, 0, 0, 0), some (.iadd, 1, 0, 0, 0), some (.putfield 81, 3, 11, 1, 560), none, none, some (.iinc 2 (-8), 3, 0, 0, 0), none, none, some (.goto (-43), 3, 0, 0, 0), none, none, some (.return_, 1, 0, 0, 0)]]
def xc_29 : List (List (Option xe_I)) := [[some (.aload_n 0, 1, 0, 0, 0), some (.getfield 16, 3, 11, 2, 562), none, none, some (.iload_n 1, 1, 0, 0, 0), some (.invokevirtual 107, 3, 0, 23, 563), none, none, some (.astore_n 3, 1, 0, 0, 0), some (.aload_n 3, 1, 0, 0, 0), some (.ifnull 14, 3, 0, 0, 0), none, none, none, none, none, none, none, none, none, none, none, none, none, some (.bipush (-2), 2, 0, 0, 0), none, some (.ireturn, 1, 0, 0, 0)]]
def xc_30 : List (List (Option xe_I)) := [[some (.aload_n 0, 1, 0, 0, 0), some (.getfield 16, 3, 11, 2, 562), none, none, some (.iload_n 1, 1, 0, 0, 0), some (.invokevirtual 107, 3, 0, 23, 563), none, none, some (.ifnull 19, 3, 0, 0, 0), none, none, none, none, none, none, none, none, none, none, none, none, none, none, none, none, none, none, some (.iconst (-1), 1, 0, 0, 0), some (.ireturn, 1, 0, 0, 0)]]
def xc_31 : List (List (Option xe_I)) := [[some (.lload_n 0, 1, 0, 0, 0), some (.lstore 4, 2, 0, 0, 0), none, some (.lload_n 2, 1, 0, 0, 0), some (.lstore 6, 2, 0, 0, 0), none, some (.iconst 0, 1, 0, 0, 0), some (.istore 8, 2, 0, 0, 0), none, some (.iload 8, 2, 0, 0, 0), none, some (.bipush 100, 2, 0, 0, 0), none, some (.if_icmp .ge 31, 3, 0, 0, 0), none, none, some (.lload 6, 2, 0, 0, 0), none, some (.lconst 0, 1, 0, 0, 0), some (.lcmp, 1, 0, 0, 0), some (.ifCond .eq 24, 3, 0, 0, 0), none, none, some (.lload 4, 2, 0, 0, 0), none, some (.lload 6, 2, 0, 0, 0), none, some (.lrem, 1, 0, 0, 0), some (.lstore 9, 2, 0, 0, 0), none, some (.lload 6, 2, 0, 0, 0)],
  [some (.lstore 4, 2, 0, 0, 0), none, some (.lload 9, 2, 0, 0, 0), none, some (.lstore 6, 2, 0, 0, 0), none, some (.iinc 8 1, 3, 0, 0, 0), none, none, some (.goto (-32), 3, 0, 0, 0), none, none, some (.lload 4, 2, 0, 0, 0), none, some (.lreturn, 1, 0, 0, 0)]]
def xc_32 : List (List (Option xe_I)) := [[some (.iload_n 1, 1, 0, 0, 0), some (.iconst 4, 1, 0, 0, 0), some (.if_icmp .lt 9, 3, 0, 0, 0), none, none, some (.iload_n 0, 1, 0, 0, 0), some (.iconst 1, 1, 0, 0, 0), some (.ixor, 1, 0, 0, 0), some (.goto 4, 3, 0, 0, 0), none, none, some (.iload_n 0, 1, 0, 0, 0), some (.istore_n 2, 1, 0, 0, 0), some (.iload_n 2, 1, 0, 0, 0), some (.iload_n 1, 1, 0, 0, 0), some (.iadd, 1, 0, 0, 0), some (.iconst 3, 1, 0, 0, 0), some (.iand, 1, 0, 0, 0), some (.ireturn, 1, 0, 0, 0)]]
def xc_33 : List (List (Option xe_I)) := [[some (.bipush 15, 2, 0, 0, 0), none, some (.istore_n 2, 1, 0, 0, 0), some (.iconst 0, 1, 0, 0, 0), some (.istore_n 3, 1, 0, 0, 0), some (.iload_n 3, 1, 0, 0, 0), some (.bipush 32, 2, 0, 0, 0), none, some (.if_icmp .ge 63, 3, 0, 0, 0), none, none, some (.aload_n 0, 1, 0, 0, 0), some (.getfield 16, 3, 11, 2, 562), none, none, some (.iload_n 3, 1, 0, 0, 0), some (.invokevirtual 107, 3, 0, 23, 563), none, none, some (.astore 4, 2, 0, 0, 0), none, some (.aload 4, 2, 0, 0, 0), none, some (.ifnull 42, 3, 0, 0, 0)],
  [],
  [none, some (.iinc 3 1, 3, 0, 0, 0), none, none, some (.goto (-63), 3, 0, 0, 0), none, none, some (.iload_n 2, 1, 0, 0, 0), some (.ireturn, 1, 0, 0, 0)]]
def xc_34 : List (List (Option xe_I)) := [[some (.iload_n 1, 1, 0, 0, 0), some (.bipush 10, 2, 0, 0, 0), none, some (.bipush 29, 2, 0, 0, 0), none, some (.invokestatic 89, 3, 0, 43, 564), none, none, some (.ifCond .eq 49, 3, 0, 0, 0), none, none, some (.iload_n 1, 1, 0, 0, 0), some (.bipush 10, 2, 0, 0, 0), none, some (.irem, 1, 0, 0, 0), some (.istore_n 2, 1, 0, 0, 0), some (.aload_n 0, 1, 0, 0, 0), some (.getfield 16, 3, 11, 2, 562), none, none, some (.iload_n 2, 1, 0, 0, 0), some (.invokevirtual 288, 3, 0, 19, 565), none, none, some (.ifCond .ne 5, 3, 0, 0, 0), none, none, some (.iconst (-1), 1, 0, 0, 0), some (.ireturn, 1, 0, 0, 0)],
  [none, none, none, none, none, none, none, none, none, none, none, none, none, none, none, none, none, none, none, none, none, none, none, none, none, some (.iload_n 1, 1, 0, 0, 0), some (.tableswitch 232 0 30 #[138, 146, 154, 162, 170, 181, 186, 194, 205, 213, 232, 232, 232, 232, 232, 232, 232, 232, 232, 232, 232, 232, 232, 232, 232, 232, 232, 232, 232, 232, 224], 138, 0, 0, 0)],
  [],
  [],
  [],
  [],
  [none, none, none, none, some (.aload_n 0, 1, 0, 0, 0), some (.getfield 16, 3, 11, 2, 562), none, none, some (.invokevirtual 404, 3, 0, 22, 566), none, none, some (.ireturn, 1, 0, 0, 0), some (.aload_n 0, 1, 0, 0, 0), some (.getfield 16, 3, 11, 2, 562), none, none, some (.getfield 140, 3, 8, 1, 567), none, none, some (.ireturn, 1, 0, 0, 0), some (.aload_n 0, 1, 0, 0, 0), some (.getfield 16, 3, 11, 2, 562), none, none, some (.getfield 149, 3, 8, 4, 568), none, none, some (.ireturn, 1, 0, 0, 0), some (.aload_n 0, 1, 0, 0, 0), some (.getfield 26, 3, 11, 5, 569)],
  [some (.getfield 407, 3, 9, 1, 570), none, none, some (.ireturn, 1, 0, 0, 0), some (.aload_n 0, 1, 0, 0, 0), some (.getfield 36, 3, 11, 8, 571), none, none, some (.getfield 410, 3, 2, 0, 572), none, none, some (.getfield 413, 3, 3, 0, 573), none, none, some (.ireturn, 1, 0, 0, 0), some (.aload_n 0, 1, 0, 0, 0), some (.getfield 81, 3, 11, 1, 560), none, none, some (.ireturn, 1, 0, 0, 0), some (.aload_n 0, 1, 0, 0, 0), some (.getfield 16, 3, 11, 2, 562), none, none, some (.getfield 388, 3, 8, 7, 574), none, none, some (.ireturn, 1, 0, 0, 0), some (.aload_n 0, 1, 0, 0, 0), some (.getfield 16, 3, 11, 2, 562)],
  [some (.getfield 128, 3, 8, 5, 575), none, none, some (.getfield 418, 3, 6, 2, 576), none, none, some (.ireturn, 1, 0, 0, 0), some (.aload_n 0, 1, 0, 0, 0), some (.getfield 16, 3, 11, 2, 562), none, none, some (.invokevirtual 421, 3, 0, 21, 577), none, none, some (.ireturn, 1, 0, 0, 0), some (.aload_n 0, 1, 0, 0, 0), some (.getfield 16, 3, 11, 2, 562), none, none, some (.getfield 137, 3, 8, 6, 578), none, none, some (.getfield 418, 3, 6, 2, 576), none, none, some (.ireturn, 1, 0, 0, 0), some (.aload_n 0, 1, 0, 0, 0), some (.getfield 16, 3, 11, 2, 562), none, none, some (.invokevirtual 385, 3, 0, 24, 579)],
  [none, some (.ireturn, 1, 0, 0, 0), some (.iconst (-1), 1, 0, 0, 0), some (.ireturn, 1, 0, 0, 0)]]
def xc_35 : List (List (Option xe_I)) := [[some (.aload_n 0, 1, 0, 0, 0), some (.getfield 16, 3, 11, 2, 562), none, none, some (.iload_n 1, 1, 0, 0, 0), some (.invokevirtual 107, 3, 0, 23, 563), none, none, some (.astore_n 3, 1, 0, 0, 0), some (.aload_n 3, 1, 0, 0, 0), some (.ifnull 13, 3, 0, 0, 0), none, none, none, none, none, none, none, none, none, none, none, none, some (.iconst 0, 1, 0, 0, 0), some (.ireturn, 1, 0, 0, 0)]]
def xc_36 : List (List (Option xe_I)) := [[some (.iload_n 1, 1, 0, 0, 0), some (.iconst 0, 1, 0, 0, 0), some (.iconst 3, 1, 0, 0, 0), some (.invokestatic 89, 3, 0, 43, 564), none, none, some (.ifCond .eq 12, 3, 0, 0, 0), none, none, some (.iload_n 2, 1, 0, 0, 0), some (.iconst (-1), 1, 0, 0, 0), some (.iconst 3, 1, 0, 0, 0), some (.invokestatic 89, 3, 0, 43, 564), none, none, some (.ifCond .ne 5, 3, 0, 0, 0), none, none, some (.iconst (-1), 1, 0, 0, 0), some (.ireturn, 1, 0, 0, 0), some (.aload_n 0, 1, 0, 0, 0), some (.iload_n 1, 1, 0, 0, 0), some (.invokevirtual 301, 3, 0, 33, 580), none, none, some (.istore_n 3, 1, 0, 0, 0), some (.iload_n 2, 1, 0, 0, 0), some (.iconst (-1), 1, 0, 0, 0), some (.if_icmp .ne 7, 3, 0, 0, 0), none, none, some (.iload_n 3, 1, 0, 0, 0)],
  [some (.goto 8, 3, 0, 0, 0), none, none, some (.iload_n 3, 1, 0, 0, 0), some (.iload_n 2, 1, 0, 0, 0), some (.invokestatic 304, 3, 0, 77, 581), none, none, some (.ireturn, 1, 0, 0, 0)]]
def xc_37 : List (List (Option xe_I)) := [[some (.aload_n 0, 1, 0, 0, 0), some (.getfield 56, 3, 11, 9, 582), none, none, some (.aload_n 0, 1, 0, 0, 0), some (.getfield 16, 3, 11, 2, 562), none, none, some (.aload_n 0, 1, 0, 0, 0), some (.getfield 36, 3, 11, 8, 571), none, none, some (.aload_n 0, 1, 0, 0, 0), some (.getfield 26, 3, 11, 5, 569), none, none, some (.invokevirtual 208, 3, 0, 6, 583), none, none, some (.aload_n 0, 1, 0, 0, 0), some (.getfield 56, 3, 11, 9, 582), none, none, some (.aload_n 0, 1, 0, 0, 0), some (.getfield 16, 3, 11, 2, 562), none, none, some (.invokevirtual 212, 3, 0, 8, 584), none, none, some (.aload_n 0, 1, 0, 0, 0), some (.getfield 56, 3, 11, 9, 582)],
  [none, none, some (.getfield 216, 3, 1, 0, 585), none, none, some (.ireturn, 1, 0, 0, 0)]]
def xc_38 : List (List (Option xe_I)) := [[some (.aload_n 0, 1, 0, 0, 0), some (.getfield 81, 3, 11, 1, 560), none, none, some (.bipush 20, 2, 0, 0, 0), none, some (.iadd, 1, 0, 0, 0), some (.sipush 260, 3, 0, 0, 0), none, none, some (.if_icmp .le 5, 3, 0, 0, 0), none, none, none, none, some (.aload_n 0, 1, 0, 0, 0), some (.iload_n 1, 1, 0, 0, 0), some (.invokevirtual 85, 3, 0, 28, 586), none, none, some (.aload_n 0, 1, 0, 0, 0), some (.iload_n 2, 1, 0, 0, 0), some (.invokevirtual 85, 3, 0, 28, 586), none, none, some (.aload_n 0, 1, 0, 0, 0), some (.iload_n 3, 1, 0, 0, 0), some (.invokevirtual 85, 3, 0, 28, 586), none, none, some (.aload_n 0, 1, 0, 0, 0), some (.iload 4, 2, 0, 0, 0)],
  [none, some (.invokevirtual 85, 3, 0, 28, 586), none, none, some (.aload_n 0, 1, 0, 0, 0), some (.iload 5, 2, 0, 0, 0), none, some (.invokevirtual 85, 3, 0, 28, 586), none, none, some (.aload_n 0, 1, 0, 0, 0), some (.getfield 81, 3, 11, 1, 560), none, none, some (.ireturn, 1, 0, 0, 0)]]
def xc_39 : List (List (Option xe_I)) := [[some (.aload_n 0, 1, 0, 0, 0), some (.getfield 16, 3, 11, 2, 562), none, none, some (.iload_n 1, 1, 0, 0, 0), some (.invokevirtual 107, 3, 0, 23, 563), none, none, some (.astore_n 2, 1, 0, 0, 0), some (.aload_n 2, 1, 0, 0, 0), some (.ifnonnull 5, 3, 0, 0, 0), none, none, some (.iconst 0, 1, 0, 0, 0), some (.ireturn, 1, 0, 0, 0)]]
def xc_40 : List (List (Option xe_I)) := [[some (.iload_n 1, 1, 0, 0, 0), some (.iconst 0, 1, 0, 0, 0), some (.iconst 1, 1, 0, 0, 0), some (.invokestatic 89, 3, 0, 43, 564), none, none, some (.ifCond .ne 7, 3, 0, 0, 0), none, none, some (.ldc2_w 253, 3, 0, 9223372036854775807, 587), none, none, some (.lreturn, 1, 0, 0, 0), some (.lconst 0, 1, 0, 0, 0), some (.lstore_n 2, 1, 0, 0, 0), some (.lconst 1, 1, 0, 0, 0), some (.lstore 4, 2, 0, 0, 0), none, some (.iconst 0, 1, 0, 0, 0), some (.istore 6, 2, 0, 0, 0), none, some (.iconst 0, 1, 0, 0, 0), some (.istore 7, 2, 0, 0, 0), none, some (.iload 7, 2, 0, 0, 0), none, some (.bipush 32, 2, 0, 0, 0), none, some (.if_icmp .ge 100, 3, 0, 0, 0), none, none, some (.iload 6, 2, 0, 0, 0)],
  [none, some (.bipush 6, 2, 0, 0, 0), none, some (.if_icmp .ge 93, 3, 0, 0, 0), none, none, some (.aload_n 0, 1, 0, 0, 0), some (.getfield 16, 3, 11, 2, 562), none, none, some (.iload 7, 2, 0, 0, 0), none, some (.invokevirtual 107, 3, 0, 23, 563), none, none, some (.astore 8, 2, 0, 0, 0), none, some (.aload 8, 2, 0, 0, 0), none, some (.ifnull 71, 3, 0, 0, 0)],
  [],
  [none, none, none, none, none, none, none, none, none, none, none, none, none, none, none, none, none, none, none, none, none, none, none, none, none, none, some (.iinc 7 1, 3, 0, 0, 0), none, none, some (.goto (-101), 3, 0, 0, 0)],
  [some (.lload_n 2, 1, 0, 0, 0), some (.lload 4, 2, 0, 0, 0), none, some (.iload_n 1, 1, 0, 0, 0), some (.ifCond .ne 7, 3, 0, 0, 0), none, none, some (.iconst 1, 1, 0, 0, 0), some (.goto 4, 3, 0, 0, 0), none, none, some (.iconst 0, 1, 0, 0, 0), some (.invokestatic 249, 3, 0, 55, 588), none, none, some (.lreturn, 1, 0, 0, 0)]]
def xc_41 : List (List (Option xe_I)) := [[some (.aload_n 0, 1, 0, 0, 0), some (.getfield 26, 3, 11, 5, 569), none, none, some (.iload_n 1, 1, 0, 0, 0), some (.invokevirtual 205, 3, 0, 26, 589), none, none, some (.ireturn, 1, 0, 0, 0)]]
def xc_42 : List (List (Option xe_I)) := [[some (.aload_n 0, 1, 0, 0, 0), some (.invokespecial 1, 3, 1, 0, 590), none, none, some (.aload_n 0, 1, 0, 0, 0), some (.sipush 260, 3, 0, 0, 0), none, none, some (.newarray .int, 2, 0, 0, 0), none, some (.putfield 9, 3, 11, 0, 561), none, none, some (.aload_n 0, 1, 0, 0, 0), some (.new 13, 3, 8, 0, 591), none, none, some (.dup, 1, 0, 0, 0), some (.invokespecial 15, 3, 0, 20, 592), none, none, some (.putfield 16, 3, 11, 2, 562), none, none, some (.aload_n 0, 1, 0, 0, 0), some (.new 13, 3, 8, 0, 591), none, none, some (.dup, 1, 0, 0, 0), some (.invokespecial 15, 3, 0, 20, 592)],
  [some (.putfield 20, 3, 11, 3, 593), none, none, some (.aload_n 0, 1, 0, 0, 0), some (.new 23, 3, 9, 0, 594), none, none, some (.dup, 1, 0, 0, 0), some (.invokespecial 25, 3, 0, 25, 595), none, none, some (.putfield 26, 3, 11, 5, 569), none, none, some (.aload_n 0, 1, 0, 0, 0), some (.new 23, 3, 9, 0, 594), none, none, some (.dup, 1, 0, 0, 0), some (.invokespecial 25, 3, 0, 25, 595), none, none, some (.putfield 30, 3, 11, 6, 596), none, none, some (.aload_n 0, 1, 0, 0, 0), some (.new 33, 3, 2, 0, 597), none, none, some (.dup, 1, 0, 0, 0), some (.invokespecial 35, 3, 0, 10, 598)],
  [none, some (.putfield 36, 3, 11, 8, 571), none, none, some (.aload_n 0, 1, 0, 0, 0), some (.new 40, 3, 4, 0, 599), none, none, some (.dup, 1, 0, 0, 0), some (.aload_n 0, 1, 0, 0, 0), some (.getfield 36, 3, 11, 8, 571), none, none, some (.getfield 42, 3, 2, 1, 600), none, none, some (.invokespecial 46, 3, 0, 12, 601), none, none, some (.putfield 49, 3, 11, 7, 602), none, none, some (.aload_n 0, 1, 0, 0, 0), some (.new 53, 3, 1, 0, 603), none, none, some (.dup, 1, 0, 0, 0), some (.invokespecial 55, 3, 0, 7, 604), none, none, some (.putfield 56, 3, 11, 9, 582)],
  [none, some (.aload_n 0, 1, 0, 0, 0), some (.new 60, 3, 10, 0, 605), none, none, some (.dup, 1, 0, 0, 0), some (.invokespecial 62, 3, 0, 27, 606), none, none, some (.putfield 63, 3, 11, 10, 607), none, none, some (.aload_n 0, 1, 0, 0, 0), some (.new 67, 3, 0, 0, 608), none, none, some (.dup, 1, 0, 0, 0), some (.invokespecial 69, 3, 0, 4, 609), none, none, some (.putfield 70, 3, 11, 11, 610), none, none, some (.aload_n 0, 1, 0, 0, 0), some (.new 74, 3, 5, 0, 611), none, none, some (.dup, 1, 0, 0, 0), some (.invokespecial 76, 3, 0, 13, 612), none, none, some (.putfield 77, 3, 11, 12, 613)],
  [none, none, some (.return_, 1, 0, 0, 0)]]
def xc_43 : List (List (Option xe_I)) := [[some (.iload_n 0, 1, 0, 0, 0), some (.iload_n 1, 1, 0, 0, 0), some (.if_icmp .lt 12, 3, 0, 0, 0), none, none, some (.iload_n 0, 1, 0, 0, 0), some (.iload_n 2, 1, 0, 0, 0), some (.if_icmp .gt 7, 3, 0, 0, 0), none, none, some (.iconst 1, 1, 0, 0, 0), some (.goto 4, 3, 0, 0, 0), none, none, some (.iconst 0, 1, 0, 0, 0), some (.ireturn, 1, 0, 0, 0)]]
def xc_44 : List (List (Option xe_I)) := [[some (.iload_n 0, 1, 0, 0, 0), some (.iconst 0, 1, 0, 0, 0), some (.bipush 7, 2, 0, 0, 0), none, some (.invokestatic 89, 3, 0, 43, 564), none, none, some (.ireturn, 1, 0, 0, 0)]]
def xc_45 : List (List (Option xe_I)) := [[some (.aload_n 0, 1, 0, 0, 0), some (.getfield 20, 3, 11, 3, 593), none, none, some (.aload_n 0, 1, 0, 0, 0), some (.getfield 16, 3, 11, 2, 562), none, none, some (.invokevirtual 398, 3, 0, 18, 614), none, none, some (.aload_n 0, 1, 0, 0, 0), some (.iconst 1, 1, 0, 0, 0), some (.putfield 401, 3, 11, 4, 615), none, none, some (.aload_n 0, 1, 0, 0, 0), some (.getfield 16, 3, 11, 2, 562), none, none, some (.invokevirtual 404, 3, 0, 22, 566), none, none, some (.ireturn, 1, 0, 0, 0)]]
def xc_46 : List (List (Option xe_I)) := [[some (.iload_n 1, 1, 0, 0, 0), some (.iconst 0, 1, 0, 0, 0), some (.bipush 10, 2, 0, 0, 0), none, some (.invokestatic 89, 3, 0, 43, 564), none, none, some (.ifCond .eq 22, 3, 0, 0, 0), none, none, some (.iload_n 2, 1, 0, 0, 0), some (.iconst 1, 1, 0, 0, 0), some (.bipush 15, 2, 0, 0, 0), none, some (.invokestatic 89, 3, 0, 43, 564), none, none, some (.ifCond .eq 12, 3, 0, 0, 0), none, none, some (.iload_n 3, 1, 0, 0, 0), some (.iconst 0, 1, 0, 0, 0), some (.iconst 1, 1, 0, 0, 0), some (.invokestatic 89, 3, 0, 43, 564), none, none, some (.ifCond .ne 7, 3, 0, 0, 0), none, none, some (.ldc2_w 253, 3, 0, 9223372036854775807, 587)],
  [some (.lreturn, 1, 0, 0, 0), some (.lconst 1, 1, 0, 0, 0), some (.lstore 4, 2, 0, 0, 0), none, some (.lconst 1, 1, 0, 0, 0), some (.lstore 6, 2, 0, 0, 0), none, some (.iconst 0, 1, 0, 0, 0), some (.istore 8, 2, 0, 0, 0), none, some (.iload 8, 2, 0, 0, 0), none, some (.iload_n 2, 1, 0, 0, 0), some (.if_icmp .ge 27, 3, 0, 0, 0), none, none, some (.lload 4, 2, 0, 0, 0), none, some (.bipush 10, 2, 0, 0, 0), none, some (.iload_n 1, 1, 0, 0, 0), some (.isub, 1, 0, 0, 0), some (.i2l, 1, 0, 0, 0), some (.lmul, 1, 0, 0, 0), some (.lstore 4, 2, 0, 0, 0), none, some (.lload 6, 2, 0, 0, 0), none, some (.ldc2_w 291, 3, 0, 9223372036854775818, 616), none, none, some (.lmul, 1, 0, 0, 0)],
  [some (.lstore 6, 2, 0, 0, 0), none, some (.iinc 8 1, 3, 0, 0, 0), none, none, some (.goto (-27), 3, 0, 0, 0), none, none, some (.lload 4, 2, 0, 0, 0), none, some (.lload 6, 2, 0, 0, 0), none, some (.iload_n 3, 1, 0, 0, 0), some (.ifCond .ne 7, 3, 0, 0, 0), none, none, some (.iconst 1, 1, 0, 0, 0), some (.goto 4, 3, 0, 0, 0), none, none, some (.iconst 0, 1, 0, 0, 0), some (.invokestatic 249, 3, 0, 55, 588), none, none, some (.lreturn, 1, 0, 0, 0)]]
def xc_47 : List (List (Option xe_I)) := [[some (.iload_n 1, 1, 0, 0, 0), some (.iconst 0, 1, 0, 0, 0), some (.bipush 9, 2, 0, 0, 0), none, some (.invokestatic 89, 3, 0, 43, 564), none, none, some (.ifCond .ne 5, 3, 0, 0, 0), none, none, some (.iconst 0, 1, 0, 0, 0), some (.ireturn, 1, 0, 0, 0), some (.aload_n 0, 1, 0, 0, 0), some (.getfield 16, 3, 11, 2, 562), none, none, some (.iload_n 1, 1, 0, 0, 0), some (.putfield 149, 3, 8, 4, 568), none, none, some (.iconst 1, 1, 0, 0, 0), some (.ireturn, 1, 0, 0, 0)]]
def xc_48 : List (List (Option xe_I)) := [[some (.aload_n 0, 1, 0, 0, 0), some (.iload_n 1, 1, 0, 0, 0), some (.iconst 1, 1, 0, 0, 0), some (.sipush 240, 3, 0, 0, 0), none, none, some (.invokevirtual 152, 3, 0, 66, 617), none, none, some (.ifCond .ne 5, 3, 0, 0, 0), none, none, some (.iconst (-1), 1, 0, 0, 0), some (.ireturn, 1, 0, 0, 0)]]
def xc_49 : List (List (Option xe_I)) := [[some (.iload_n 2, 1, 0, 0, 0), some (.iconst 0, 1, 0, 0, 0), some (.iconst 1, 1, 0, 0, 0), some (.invokestatic 89, 3, 0, 43, 564), none, none, some (.ifCond .ne 7, 3, 0, 0, 0), none, none, some (.ldc2_w 253, 3, 0, 9223372036854775807, 587), none, none, some (.lreturn, 1, 0, 0, 0), some (.aload_n 0, 1, 0, 0, 0), some (.getfield 16, 3, 11, 2, 562), none, none, some (.iload_n 1, 1, 0, 0, 0), some (.invokevirtual 107, 3, 0, 23, 563), none, none, some (.astore_n 3, 1, 0, 0, 0), some (.aload_n 3, 1, 0, 0, 0), some (.ifnonnull 7, 3, 0, 0, 0), none, none, some (.ldc2_w 271, 3, 0, 9223372035854775808, 618), none, none, some (.lreturn, 1, 0, 0, 0)]]
def xc_50 : List (List (Option xe_I)) := [[some (.iload_n 1, 1, 0, 0, 0), some (.iconst 0, 1, 0, 0, 0), some (.sipush 9999, 3, 0, 0, 0), none, none, some (.invokestatic 89, 3, 0, 43, 564), none, none, some (.ifCond .eq 12, 3, 0, 0, 0), none, none, some (.iload_n 2, 1, 0, 0, 0), some (.iconst 0, 1, 0, 0, 0), some (.iconst 2, 1, 0, 0, 0), some (.invokestatic 89, 3, 0, 43, 564), none, none, some (.ifCond .ne 5, 3, 0, 0, 0), none, none, some (.iconst (-1), 1, 0, 0, 0), some (.ireturn, 1, 0, 0, 0), some (.aload_n 0, 1, 0, 0, 0), some (.getfield 70, 3, 11, 11, 610), none, none, some (.invokevirtual 310, 3, 0, 1, 619), none, none, some (.iconst 0, 1, 0, 0, 0), some (.istore_n 3, 1, 0, 0, 0), some (.iload_n 3, 1, 0, 0, 0)],
  [some (.bipush 32, 2, 0, 0, 0), none, some (.if_icmp .ge 74, 3, 0, 0, 0), none, none, some (.aload_n 0, 1, 0, 0, 0), some (.getfield 70, 3, 11, 11, 610), none, none, some (.invokevirtual 313, 3, 0, 3, 620), none, none, some (.ifCond .eq 64, 3, 0, 0, 0), none, none, some (.aload_n 0, 1, 0, 0, 0), some (.getfield 16, 3, 11, 2, 562), none, none, some (.iload_n 3, 1, 0, 0, 0), some (.invokevirtual 107, 3, 0, 23, 563), none, none, some (.astore 4, 2, 0, 0, 0), none, some (.aload 4, 2, 0, 0, 0), none, some (.ifnull 43, 3, 0, 0, 0)],
  [],
  [none, none, none, none, none, none, some (.iinc 3 1, 3, 0, 0, 0), none, none, some (.goto (-74), 3, 0, 0, 0), none, none, some (.aload_n 0, 1, 0, 0, 0), some (.getfield 70, 3, 11, 11, 610), none, none, some (.aload_n 0, 1, 0, 0, 0), some (.getfield 16, 3, 11, 2, 562), none, none, some (.getfield 137, 3, 8, 6, 578), none, none, some (.invokevirtual 374, 3, 0, 0, 621), none, none, some (.aload_n 0, 1, 0, 0, 0), some (.getfield 70, 3, 11, 11, 610), none, none, some (.iload_n 1, 1, 0, 0, 0), some (.invokevirtual 323, 3, 0, 2, 622)],
  [none, none, some (.iload_n 2, 1, 0, 0, 0), some (.ifCond .ne 12, 3, 0, 0, 0), none, none, some (.aload_n 0, 1, 0, 0, 0), some (.getfield 70, 3, 11, 11, 610), none, none, some (.getfield 331, 3, 0, 2, 623), none, none, some (.l2i, 1, 0, 0, 0), some (.ireturn, 1, 0, 0, 0), some (.iload_n 2, 1, 0, 0, 0), some (.iconst 1, 1, 0, 0, 0), some (.if_icmp .ne 13, 3, 0, 0, 0), none, none, some (.aload_n 0, 1, 0, 0, 0), some (.getfield 70, 3, 11, 11, 610), none, none, some (.getfield 325, 3, 0, 0, 624), none, none, some (.goto 10, 3, 0, 0, 0), none, none, some (.aload_n 0, 1, 0, 0, 0), some (.getfield 70, 3, 11, 11, 610)],
  [none, none, some (.getfield 328, 3, 0, 1, 625), none, none, some (.ireturn, 1, 0, 0, 0)]]
def xc_51 : List (List (Option xe_I)) := [[some (.iload_n 1, 1, 0, 0, 0), some (.iconst 0, 1, 0, 0, 0), some (.sipush 9999, 3, 0, 0, 0), none, none, some (.invokestatic 89, 3, 0, 43, 564), none, none, some (.ifCond .eq 12, 3, 0, 0, 0), none, none, some (.iload_n 2, 1, 0, 0, 0), some (.iconst 0, 1, 0, 0, 0), some (.iconst 3, 1, 0, 0, 0), some (.invokestatic 89, 3, 0, 43, 564), none, none, some (.ifCond .ne 7, 3, 0, 0, 0), none, none, some (.ldc2_w 253, 3, 0, 9223372036854775807, 587), none, none, some (.lreturn, 1, 0, 0, 0), some (.aload_n 0, 1, 0, 0, 0), some (.getfield 70, 3, 11, 11, 610), none, none, some (.invokevirtual 310, 3, 0, 1, 619), none, none, some (.iconst 0, 1, 0, 0, 0)],
  [some (.istore_n 3, 1, 0, 0, 0), some (.iload_n 3, 1, 0, 0, 0), some (.bipush 32, 2, 0, 0, 0), none, some (.if_icmp .ge 77, 3, 0, 0, 0), none, none, some (.aload_n 0, 1, 0, 0, 0), some (.getfield 70, 3, 11, 11, 610), none, none, some (.invokevirtual 313, 3, 0, 3, 620), none, none, some (.ifCond .eq 67, 3, 0, 0, 0), none, none, some (.aload_n 0, 1, 0, 0, 0), some (.getfield 16, 3, 11, 2, 562), none, none, some (.iload_n 3, 1, 0, 0, 0), some (.invokevirtual 107, 3, 0, 23, 563), none, none, some (.astore 4, 2, 0, 0, 0), none, some (.aload 4, 2, 0, 0, 0), none, some (.ifnull 46, 3, 0, 0, 0)],
  [],
  [none, none, none, none, none, none, none, none, none, none, none, some (.iinc 3 1, 3, 0, 0, 0), none, none, some (.goto (-77), 3, 0, 0, 0), none, none, some (.aload_n 0, 1, 0, 0, 0), some (.getfield 70, 3, 11, 11, 610), none, none, some (.iload_n 1, 1, 0, 0, 0), some (.invokevirtual 323, 3, 0, 2, 622), none, none, some (.iload_n 2, 1, 0, 0, 0), some (.ifCond .ne 12, 3, 0, 0, 0), none, none, some (.aload_n 0, 1, 0, 0, 0), some (.getfield 70, 3, 11, 11, 610)],
  [none, some (.getfield 325, 3, 0, 0, 624), none, none, some (.i2l, 1, 0, 0, 0), some (.lreturn, 1, 0, 0, 0), some (.iload_n 2, 1, 0, 0, 0), some (.iconst 1, 1, 0, 0, 0), some (.if_icmp .ne 14, 3, 0, 0, 0), none, none, some (.aload_n 0, 1, 0, 0, 0), some (.getfield 70, 3, 11, 11, 610), none, none, some (.getfield 328, 3, 0, 1, 625), none, none, some (.i2l, 1, 0, 0, 0), some (.goto 27, 3, 0, 0, 0), none, none, some (.aload_n 0, 1, 0, 0, 0), some (.getfield 70, 3, 11, 11, 610), none, none, some (.getfield 331, 3, 0, 2, 623), none, none, some (.aload_n 0, 1, 0, 0, 0), some (.invokevirtual 273, 3, 0, 67, 626)],
  [none, some (.iload_n 2, 1, 0, 0, 0), some (.iconst 2, 1, 0, 0, 0), some (.if_icmp .ne 7, 3, 0, 0, 0), none, none, some (.iconst 1, 1, 0, 0, 0), some (.goto 4, 3, 0, 0, 0), none, none, some (.iconst 0, 1, 0, 0, 0), some (.invokestatic 249, 3, 0, 55, 588), none, none, some (.lreturn, 1, 0, 0, 0)]]
def xc_52 : List (List (Option xe_I)) := [[some (.aload_n 0, 1, 0, 0, 0), some (.getfield 16, 3, 11, 2, 562), none, none, some (.iload_n 1, 1, 0, 0, 0), some (.invokevirtual 107, 3, 0, 23, 563), none, none, some (.ifnull 19, 3, 0, 0, 0), none, none, none, none, none, none, none, none, none, none, none, none, none, none, none, none, none, none, some (.iconst (-1), 1, 0, 0, 0), some (.ireturn, 1, 0, 0, 0)]]
def xc_53 : List (List (Option xe_I)) := [[some (.iload_n 1, 1, 0, 0, 0), some (.iconst 0, 1, 0, 0, 0), some (.bipush 7, 2, 0, 0, 0), none, some (.invokestatic 89, 3, 0, 43, 564), none, none, some (.ifCond .eq 24, 3, 0, 0, 0), none, none, some (.iload_n 2, 1, 0, 0, 0), some (.iconst 0, 1, 0, 0, 0), some (.bipush 9, 2, 0, 0, 0), none, some (.invokestatic 89, 3, 0, 43, 564), none, none, some (.ifCond .eq 14, 3, 0, 0, 0), none, none, some (.iload_n 3, 1, 0, 0, 0), some (.iconst 0, 1, 0, 0, 0), some (.sipush 9999, 3, 0, 0, 0), none, none, some (.invokestatic 89, 3, 0, 43, 564), none, none, some (.ifCond .ne 5, 3, 0, 0, 0), none, none, some (.iconst 0, 1, 0, 0, 0)],
  [some (.ireturn, 1, 0, 0, 0), some (.aload_n 0, 1, 0, 0, 0), some (.getfield 16, 3, 11, 2, 562), none, none, some (.dup, 1, 0, 0, 0), some (.getfield 140, 3, 8, 1, 567), none, none, some (.iconst 1, 1, 0, 0, 0), some (.iload_n 1, 1, 0, 0, 0), some (.ishl, 1, 0, 0, 0), some (.ior, 1, 0, 0, 0), some (.putfield 140, 3, 8, 1, 567), none, none, some (.aload_n 0, 1, 0, 0, 0), some (.getfield 16, 3, 11, 2, 562), none, none, some (.getfield 143, 3, 8, 2, 627), none, none, some (.iload_n 1, 1, 0, 0, 0), some (.iload_n 2, 1, 0, 0, 0), some (.iastore, 1, 0, 0, 0), some (.aload_n 0, 1, 0, 0, 0), some (.getfield 16, 3, 11, 2, 562), none, none, some (.getfield 146, 3, 8, 3, 628)],
  [none, some (.iload_n 1, 1, 0, 0, 0), some (.iload_n 3, 1, 0, 0, 0), some (.iastore, 1, 0, 0, 0), some (.iconst 1, 1, 0, 0, 0), some (.ireturn, 1, 0, 0, 0)]]
def xc_54 : List (List (Option xe_I)) := [[some (.aload_n 0, 1, 0, 0, 0), some (.getfield 16, 3, 11, 2, 562), none, none, some (.iload_n 1, 1, 0, 0, 0), some (.invokevirtual 107, 3, 0, 23, 563), none, none, some (.astore 5, 2, 0, 0, 0), none, some (.aload 5, 2, 0, 0, 0), none, some (.ifnull 20, 3, 0, 0, 0)],
  [some (.iconst (-1), 1, 0, 0, 0), some (.ireturn, 1, 0, 0, 0)]]
def xc_55 : List (List (Option xe_I)) := [[some (.lload_n 0, 1, 0, 0, 0), some (.invokestatic 424, 3, 4, 0, 629), none, none, some (.lload_n 2, 1, 0, 0, 0), some (.invokestatic 428, 3, 0, 31, 630), none, none, some (.lstore 5, 2, 0, 0, 0), none, some (.lload 5, 2, 0, 0, 0), none, some (.lconst 0, 1, 0, 0, 0), some (.lcmp, 1, 0, 0, 0), some (.ifCond .ne 5, 3, 0, 0, 0), none, none, none, none, some (.iload 4, 2, 0, 0, 0), none, some (.ifCond .eq 10, 3, 0, 0, 0), none, none, some (.lload_n 0, 1, 0, 0, 0), some (.lload 5, 2, 0, 0, 0), none, some (.ldiv, 1, 0, 0, 0), some (.goto 7, 3, 0, 0, 0), none, none, some (.lload_n 2, 1, 0, 0, 0)],
  [some (.lload 5, 2, 0, 0, 0), none, some (.ldiv, 1, 0, 0, 0), some (.lreturn, 1, 0, 0, 0)]]
def xc_56 : List (List (Option xe_I)) := [[some (.aload_n 0, 1, 0, 0, 0), some (.getfield 16, 3, 11, 2, 562), none, none, some (.iload_n 1, 1, 0, 0, 0), some (.invokevirtual 107, 3, 0, 23, 563), none, none, some (.astore_n 3, 1, 0, 0, 0), some (.aload_n 3, 1, 0, 0, 0), some (.ifnull 10, 3, 0, 0, 0), none, none, none, none, none, none, none, none, none, some (.iconst 0, 1, 0, 0, 0), some (.ireturn, 1, 0, 0, 0)]]
def xc_57 : List (List (Option xe_I)) := [[some (.iconst 0, 1, 0, 0, 0), some (.istore_n 1, 1, 0, 0, 0), some (.iload_n 1, 1, 0, 0, 0), some (.bipush 32, 2, 0, 0, 0), none, some (.if_icmp .ge 27, 3, 0, 0, 0), none, none, some (.aload_n 0, 1, 0, 0, 0), some (.getfield 16, 3, 11, 2, 562), none, none, some (.iload_n 1, 1, 0, 0, 0), some (.invokevirtual 107, 3, 0, 23, 563), none, none, some (.astore_n 2, 1, 0, 0, 0), some (.aload_n 2, 1, 0, 0, 0), some (.ifnull 8, 3, 0, 0, 0), none, none, none, none, none, none, none, some (.iinc 1 1, 3, 0, 0, 0), none, none, some (.goto (-27), 3, 0, 0, 0)],
  [some (.aload_n 0, 1, 0, 0, 0), some (.getfield 16, 3, 11, 2, 562), none, none, some (.invokevirtual 385, 3, 0, 24, 579), none, none, some (.ireturn, 1, 0, 0, 0)]]
def xc_58 : List (List (Option xe_I)) := [[some (.aload_n 0, 1, 0, 0, 0), some (.iload_n 1, 1, 0, 0, 0), some (.iconst 2, 1, 0, 0, 0), some (.bipush 12, 2, 0, 0, 0), none, some (.invokevirtual 152, 3, 0, 66, 617), none, none, some (.ifCond .eq 13, 3, 0, 0, 0), none, none, none, none, none, none, none, none, none, none, none, none, some (.ldc2_w 253, 3, 0, 9223372036854775807, 587), none, none, some (.lreturn, 1, 0, 0, 0)]]
def xc_59 : List (List (Option xe_I)) := [[some (.iload_n 1, 1, 0, 0, 0), some (.iconst 0, 1, 0, 0, 0), some (.ldc_w 397, 3, 0, 2147549183, 631), none, none, some (.invokestatic 89, 3, 0, 43, 564), none, none, some (.ifCond .ne 5, 3, 0, 0, 0), none, none, some (.iconst 0, 1, 0, 0, 0), some (.ireturn, 1, 0, 0, 0), some (.aload_n 0, 1, 0, 0, 0), some (.getfield 16, 3, 11, 2, 562), none, none, some (.iload_n 1, 1, 0, 0, 0), some (.putfield 388, 3, 8, 7, 574), none, none, some (.iconst 1, 1, 0, 0, 0), some (.ireturn, 1, 0, 0, 0)]]
def xc_60 : List (List (Option xe_I)) := [[some (.iload_n 1, 1, 0, 0, 0), some (.iconst 0, 1, 0, 0, 0), some (.iconst 3, 1, 0, 0, 0), some (.invokestatic 89, 3, 0, 43, 564), none, none, some (.ifCond .eq 21, 3, 0, 0, 0), none, none, some (.iload_n 2, 1, 0, 0, 0), some (.iconst 0, 1, 0, 0, 0), some (.iconst 3, 1, 0, 0, 0), some (.invokestatic 89, 3, 0, 43, 564), none, none, some (.ifCond .eq 12, 3, 0, 0, 0), none, none, some (.iload_n 3, 1, 0, 0, 0), some (.iconst 0, 1, 0, 0, 0), some (.iconst 2, 1, 0, 0, 0), some (.invokestatic 89, 3, 0, 43, 564), none, none, some (.ifCond .ne 5, 3, 0, 0, 0), none, none, some (.iconst (-1), 1, 0, 0, 0), some (.ireturn, 1, 0, 0, 0), some (.iload_n 1, 1, 0, 0, 0), some (.iload_n 2, 1, 0, 0, 0), some (.invokestatic 367, 3, 0, 68, 632)],
  [none, none, some (.istore 4, 2, 0, 0, 0), none, some (.iload_n 1, 1, 0, 0, 0), some (.iload_n 2, 1, 0, 0, 0), some (.iconst 2, 1, 0, 0, 0), some (.if_icmp .ge 9, 3, 0, 0, 0), none, none, some (.iconst 1, 1, 0, 0, 0), some (.iload_n 2, 1, 0, 0, 0), some (.isub, 1, 0, 0, 0), some (.goto 4, 3, 0, 0, 0), none, none, some (.iload_n 2, 1, 0, 0, 0), some (.invokestatic 367, 3, 0, 68, 632), none, none, some (.istore 5, 2, 0, 0, 0), none, some (.iload_n 3, 1, 0, 0, 0), some (.ifCond .ne 6, 3, 0, 0, 0), none, none, some (.iload 4, 2, 0, 0, 0), none, some (.ireturn, 1, 0, 0, 0), some (.iload_n 3, 1, 0, 0, 0), some (.iconst 1, 1, 0, 0, 0), some (.if_icmp .ne 8, 3, 0, 0, 0)],
  [none, none, some (.iload 5, 2, 0, 0, 0), none, some (.goto 8, 3, 0, 0, 0), none, none, some (.iload 4, 2, 0, 0, 0), none, some (.iload 5, 2, 0, 0, 0), none, some (.ior, 1, 0, 0, 0), some (.ireturn, 1, 0, 0, 0)]]
def xc_61 : List (List (Option xe_I)) := [[some (.aload_n 0, 1, 0, 0, 0), some (.getfield 16, 3, 11, 2, 562), none, none, some (.iload_n 1, 1, 0, 0, 0), some (.invokevirtual 107, 3, 0, 23, 563), none, none, some (.astore 4, 2, 0, 0, 0), none, some (.aload 4, 2, 0, 0, 0), none, some (.ifnonnull 7, 3, 0, 0, 0), none, none, some (.iconst (-1), 1, 0, 0, 0), some (.goto 15, 3, 0, 0, 0), none, none, none, none, none, none, none, none, none, none, none, none, none, none, some (.ireturn, 1, 0, 0, 0)]]
def xc_62 : List (List (Option xe_I)) := [[some (.iload_n 1, 1, 0, 0, 0), some (.iconst 0, 1, 0, 0, 0), some (.bipush 31, 2, 0, 0, 0), none, some (.invokestatic 89, 3, 0, 43, 564), none, none, some (.ifCond .eq 32, 3, 0, 0, 0), none, none, some (.iload_n 2, 1, 0, 0, 0), some (.iconst 0, 1, 0, 0, 0), some (.iconst 3, 1, 0, 0, 0), some (.invokestatic 89, 3, 0, 43, 564), none, none, some (.ifCond .eq 23, 3, 0, 0, 0), none, none, some (.iload_n 3, 1, 0, 0, 0), some (.iconst 0, 1, 0, 0, 0), some (.iconst 3, 1, 0, 0, 0), some (.invokestatic 89, 3, 0, 43, 564), none, none, some (.ifCond .eq 14, 3, 0, 0, 0), none, none, some (.iload 4, 2, 0, 0, 0), none, some (.iconst 0, 1, 0, 0, 0), some (.bipush 99, 2, 0, 0, 0)],
  [none, some (.invokestatic 89, 3, 0, 43, 564), none, none, some (.ifCond .ne 5, 3, 0, 0, 0), none, none, some (.iconst 0, 1, 0, 0, 0), some (.ireturn, 1, 0, 0, 0), some (.aload_n 0, 1, 0, 0, 0), some (.getfield 81, 3, 11, 1, 560), none, none, some (.bipush 25, 2, 0, 0, 0), none, some (.if_icmp .ge 5, 3, 0, 0, 0), none, none, some (.iconst 0, 1, 0, 0, 0), some (.ireturn, 1, 0, 0, 0)]]
def xc_63 : List (List (Option xe_I)) := [[some (.aload_n 0, 1, 0, 0, 0), some (.getfield 16, 3, 11, 2, 562), none, none, some (.iload_n 1, 1, 0, 0, 0), some (.invokevirtual 107, 3, 0, 23, 563), none, none, some (.astore_n 3, 1, 0, 0, 0), some (.aload_n 3, 1, 0, 0, 0), some (.ifnonnull 5, 3, 0, 0, 0), none, none, some (.iconst (-1), 1, 0, 0, 0), some (.ireturn, 1, 0, 0, 0)]]
def xc_64 : List (List (Option xe_I)) := [[some (.aload_n 0, 1, 0, 0, 0), some (.iload_n 1, 1, 0, 0, 0), some (.iconst 2, 1, 0, 0, 0), some (.bipush 12, 2, 0, 0, 0), none, some (.invokevirtual 152, 3, 0, 66, 617), none, none, some (.ifCond .ne 7, 3, 0, 0, 0), none, none, some (.ldc2_w 253, 3, 0, 9223372036854775807, 587), none, none, some (.lreturn, 1, 0, 0, 0)]]
def xc_65 : List (List (Option xe_I)) := [[some (.aload_n 0, 1, 0, 0, 0), some (.getfield 16, 3, 11, 2, 562), none, none, some (.iload_n 1, 1, 0, 0, 0), some (.invokevirtual 107, 3, 0, 23, 563), none, none, some (.astore_n 3, 1, 0, 0, 0), some (.aload_n 3, 1, 0, 0, 0), some (.ifnull 12, 3, 0, 0, 0), none, none, none, none, none, none, none, none, none, none, none, some (.iconst 0, 1, 0, 0, 0), some (.ireturn, 1, 0, 0, 0)]]
def xc_66 : List (List (Option xe_I)) := [[some (.iload_n 1, 1, 0, 0, 0), some (.iload_n 2, 1, 0, 0, 0), some (.if_icmp .lt 20, 3, 0, 0, 0), none, none, some (.iload_n 1, 1, 0, 0, 0), some (.iload_n 3, 1, 0, 0, 0), some (.if_icmp .gt 15, 3, 0, 0, 0), none, none, some (.iload_n 1, 1, 0, 0, 0), some (.aload_n 0, 1, 0, 0, 0), some (.getfield 81, 3, 11, 1, 560), none, none, some (.if_icmp .gt 7, 3, 0, 0, 0), none, none, none, none, none, none, some (.iconst 0, 1, 0, 0, 0), some (.ireturn, 1, 0, 0, 0)]]
def xc_67 : List (List (Option xe_I)) := [[some (.lconst 1, 1, 0, 0, 0), some (.lstore_n 1, 1, 0, 0, 0), some (.iconst 0, 1, 0, 0, 0), some (.istore_n 3, 1, 0, 0, 0), some (.iload_n 3, 1, 0, 0, 0), some (.bipush 8, 2, 0, 0, 0), none, some (.if_icmp .ge 30, 3, 0, 0, 0), none, none, some (.lload_n 1, 1, 0, 0, 0), some (.aload_n 0, 1, 0, 0, 0), some (.getfield 16, 3, 11, 2, 562), none, none, some (.iload_n 3, 1, 0, 0, 0), some (.invokevirtual 288, 3, 0, 19, 565), none, none, some (.ifCond .eq 9, 3, 0, 0, 0), none, none, none, none, none, none, none, none, some (.lconst 1, 1, 0, 0, 0), some (.lmul, 1, 0, 0, 0), some (.lstore_n 1, 1, 0, 0, 0), some (.iinc 3 1, 3, 0, 0, 0)],
  [none, none, some (.goto (-30), 3, 0, 0, 0), none, none, some (.lload_n 1, 1, 0, 0, 0), some (.lreturn, 1, 0, 0, 0)]]
def xc_68 : List (List (Option xe_I)) := [[some (.iload_n 1, 1, 0, 0, 0), some (.tableswitch 42 0 2 #[27, 32, 37], 27, 0, 0, 0), none, none, none, none, none, none, none, none, none, none, none, none, none, none, none, none, none, none, none, none, none, none, none, none, none, none, some (.iconst 1, 1, 0, 0, 0), some (.istore_n 2, 1, 0, 0, 0), some (.goto 15, 3, 0, 0, 0)],
  [none, some (.iconst 3, 1, 0, 0, 0), some (.istore_n 2, 1, 0, 0, 0), some (.goto 10, 3, 0, 0, 0), none, none, some (.iconst 0, 1, 0, 0, 0), some (.istore_n 2, 1, 0, 0, 0), some (.goto 5, 3, 0, 0, 0), none, none, some (.iconst 2, 1, 0, 0, 0), some (.istore_n 2, 1, 0, 0, 0), some (.iload_n 0, 1, 0, 0, 0), some (.iload_n 2, 1, 0, 0, 0), some (.iadd, 1, 0, 0, 0), some (.iconst 3, 1, 0, 0, 0), some (.iand, 1, 0, 0, 0), some (.istore_n 3, 1, 0, 0, 0), some (.iload_n 3, 1, 0, 0, 0), some (.ifCond .ne 7, 3, 0, 0, 0), none, none, some (.iconst 0, 1, 0, 0, 0), some (.goto 8, 3, 0, 0, 0), none, none, some (.iconst 1, 1, 0, 0, 0), some (.iload_n 3, 1, 0, 0, 0), some (.iconst 1, 1, 0, 0, 0), some (.isub, 1, 0, 0, 0), some (.ishl, 1, 0, 0, 0)],
  [some (.ireturn, 1, 0, 0, 0)]]
def xc_69 : List (List (Option xe_I)) := [[some (.aload_n 0, 1, 0, 0, 0), some (.getfield 16, 3, 11, 2, 562), none, none, some (.iload_n 1, 1, 0, 0, 0), some (.invokevirtual 107, 3, 0, 23, 563), none, none, some (.astore_n 3, 1, 0, 0, 0), some (.iload_n 2, 1, 0, 0, 0), some (.bipush 20, 2, 0, 0, 0), none, some (.if_icmp .eq 9, 3, 0, 0, 0), none, none, some (.iload_n 2, 1, 0, 0, 0), some (.bipush 21, 2, 0, 0, 0), none, some (.if_icmp .ne 7, 3, 0, 0, 0), none, none, some (.iconst 1, 1, 0, 0, 0), some (.goto 4, 3, 0, 0, 0), none, none, some (.iconst 0, 1, 0, 0, 0), some (.istore 4, 2, 0, 0, 0), none, some (.aload_n 3, 1, 0, 0, 0), some (.ifnull 18, 3, 0, 0, 0)],
  [none, none, none, none, none, none, none, none, none, none, none, none, none, none, none, some (.ldc2_w 253, 3, 0, 9223372036854775807, 587), none, none, some (.lreturn, 1, 0, 0, 0)]]
def xc_70 : List (List (Option xe_I)) := [[some (.aload_n 0, 1, 0, 0, 0), some (.iload_n 1, 1, 0, 0, 0), some (.iconst 1, 1, 0, 0, 0), some (.bipush 120, 2, 0, 0, 0), none, some (.invokevirtual 152, 3, 0, 66, 617), none, none, some (.ifCond .ne 5, 3, 0, 0, 0), none, none, some (.iconst (-1), 1, 0, 0, 0), some (.ireturn, 1, 0, 0, 0)]]
def xc_71 : List (List (Option xe_I)) := [[some (.iload_n 1, 1, 0, 0, 0), some (.iconst 0, 1, 0, 0, 0), some (.bipush 7, 2, 0, 0, 0), none, some (.invokestatic 89, 3, 0, 43, 564), none, none, some (.ifCond .ne 5, 3, 0, 0, 0), none, none, some (.iconst (-1), 1, 0, 0, 0), some (.ireturn, 1, 0, 0, 0), some (.aload_n 0, 1, 0, 0, 0), some (.getfield 56, 3, 11, 9, 582), none, none, some (.aload_n 0, 1, 0, 0, 0), some (.getfield 16, 3, 11, 2, 562), none, none, some (.aload_n 0, 1, 0, 0, 0), some (.getfield 36, 3, 11, 8, 571), none, none, some (.aload_n 0, 1, 0, 0, 0), some (.getfield 26, 3, 11, 5, 569), none, none, some (.invokevirtual 208, 3, 0, 6, 583), none, none, some (.iload_n 1, 1, 0, 0, 0)],
  [some (.tableswitch 100 0 6 #[44, 52, 60, 68, 76, 84, 92], 44, 0, 0, 0)],
  [none, none, none, none, none, none, none, none, none, none, none, none, some (.aload_n 0, 1, 0, 0, 0), some (.getfield 56, 3, 11, 9, 582), none, none, some (.getfield 216, 3, 1, 0, 585), none, none, some (.ireturn, 1, 0, 0, 0), some (.aload_n 0, 1, 0, 0, 0), some (.getfield 56, 3, 11, 9, 582), none, none, some (.getfield 219, 3, 1, 1, 633), none, none, some (.ireturn, 1, 0, 0, 0), some (.aload_n 0, 1, 0, 0, 0), some (.getfield 56, 3, 11, 9, 582)],
  [some (.getfield 222, 3, 1, 2, 634), none, none, some (.ireturn, 1, 0, 0, 0), some (.aload_n 0, 1, 0, 0, 0), some (.getfield 56, 3, 11, 9, 582), none, none, some (.getfield 225, 3, 1, 3, 635), none, none, some (.ireturn, 1, 0, 0, 0), some (.aload_n 0, 1, 0, 0, 0), some (.getfield 56, 3, 11, 9, 582), none, none, some (.getfield 228, 3, 1, 4, 636), none, none, some (.ireturn, 1, 0, 0, 0), some (.aload_n 0, 1, 0, 0, 0), some (.getfield 56, 3, 11, 9, 582), none, none, some (.getfield 231, 3, 1, 5, 637), none, none, some (.ireturn, 1, 0, 0, 0), some (.aload_n 0, 1, 0, 0, 0), some (.getfield 56, 3, 11, 9, 582)],
  [some (.getfield 234, 3, 1, 6, 638), none, none, some (.ireturn, 1, 0, 0, 0), some (.aload_n 0, 1, 0, 0, 0), some (.getfield 56, 3, 11, 9, 582), none, none, some (.aload_n 0, 1, 0, 0, 0), some (.getfield 16, 3, 11, 2, 562), none, none, some (.invokevirtual 237, 3, 0, 9, 639), none, none, some (.ireturn, 1, 0, 0, 0)]]
def xc_72 : List (List (Option xe_I)) := [[some (.iload_n 0, 1, 0, 0, 0), some (.invokestatic 169, 3, 0, 74, 640), none, none, some (.iload_n 1, 1, 0, 0, 0), some (.invokestatic 165, 3, 0, 75, 641), none, none, some (.ireturn, 1, 0, 0, 0)]]
def xc_73 : List (List (Option xe_I)) := [[some (.aload_n 0, 1, 0, 0, 0), some (.getfield 401, 3, 11, 4, 615), none, none, some (.ifCond .eq 14, 3, 0, 0, 0), none, none, none, none, none, none, none, none, none, none, none, none, none, some (.aload_n 0, 1, 0, 0, 0), some (.getfield 401, 3, 11, 4, 615), none, none, some (.ireturn, 1, 0, 0, 0)]]
def xc_74 : List (List (Option xe_I)) := [[some (.iload_n 0, 1, 0, 0, 0), some (.iconst 4, 1, 0, 0, 0), some (.if_icmp .lt 7, 3, 0, 0, 0), none, none, some (.iload_n 0, 1, 0, 0, 0), some (.goto 7, 3, 0, 0, 0), none, none, some (.iload_n 0, 1, 0, 0, 0), some (.ineg, 1, 0, 0, 0), some (.iconst 3, 1, 0, 0, 0), some (.iand, 1, 0, 0, 0), some (.ireturn, 1, 0, 0, 0)]]
def xc_75 : List (List (Option xe_I)) := [[some (.iload_n 1, 1, 0, 0, 0), some (.iconst 4, 1, 0, 0, 0), some (.if_icmp .lt 9, 3, 0, 0, 0), none, none, some (.iload_n 1, 1, 0, 0, 0), some (.iload_n 0, 1, 0, 0, 0), some (.isub, 1, 0, 0, 0), some (.goto 6, 3, 0, 0, 0), none, none, some (.iload_n 1, 1, 0, 0, 0), some (.iload_n 0, 1, 0, 0, 0), some (.iadd, 1, 0, 0, 0), some (.istore_n 2, 1, 0, 0, 0), some (.iload_n 0, 1, 0, 0, 0), some (.iload_n 1, 1, 0, 0, 0), some (.ixor, 1, 0, 0, 0), some (.iconst 4, 1, 0, 0, 0), some (.iand, 1, 0, 0, 0), some (.iload_n 2, 1, 0, 0, 0), some (.iconst 3, 1, 0, 0, 0), some (.iand, 1, 0, 0, 0), some (.ior, 1, 0, 0, 0), some (.ireturn, 1, 0, 0, 0)]]
def xc_76 : List (List (Option xe_I)) := [[some (.iload_n 1, 1, 0, 0, 0), some (.invokestatic 111, 3, 0, 44, 642), none, none, some (.ifCond .eq 10, 3, 0, 0, 0), none, none, some (.iload_n 2, 1, 0, 0, 0), some (.invokestatic 111, 3, 0, 44, 642), none, none, some (.ifCond .ne 5, 3, 0, 0, 0), none, none, some (.iconst (-1), 1, 0, 0, 0), some (.ireturn, 1, 0, 0, 0), some (.iload_n 3, 1, 0, 0, 0), some (.tableswitch 44 0 2 #[27, 33, 38], 27, 0, 0, 0)],
  [none, none, none, none, none, none, none, none, none, none, none, none, some (.iload_n 1, 1, 0, 0, 0), some (.iload_n 2, 1, 0, 0, 0), some (.invokestatic 165, 3, 0, 75, 641), none, none, some (.ireturn, 1, 0, 0, 0), some (.iload_n 1, 1, 0, 0, 0), some (.invokestatic 169, 3, 0, 74, 640), none, none, some (.ireturn, 1, 0, 0, 0), some (.iload_n 1, 1, 0, 0, 0), some (.iload_n 2, 1, 0, 0, 0), some (.invokestatic 173, 3, 0, 72, 643), none, none, some (.ireturn, 1, 0, 0, 0), some (.iconst (-1), 1, 0, 0, 0), some (.ireturn, 1, 0, 0, 0)]]
def xc_77 : List (List (Option xe_I)) := [[some (.iconst 0, 1, 0, 0, 0), some (.istore_n 2, 1, 0, 0, 0), some (.iconst 0, 1, 0, 0, 0), some (.istore_n 3, 1, 0, 0, 0), some (.iload_n 3, 1, 0, 0, 0), some (.bipush 8, 2, 0, 0, 0), none, some (.if_icmp .ge 30, 3, 0, 0, 0), none, none, some (.iload_n 1, 1, 0, 0, 0), some (.iload_n 3, 1, 0, 0, 0), some (.invokestatic 169, 3, 0, 74, 640), none, none, some (.invokestatic 307, 3, 0, 32, 644), none, none, some (.istore 4, 2, 0, 0, 0), none, some (.iload_n 2, 1, 0, 0, 0), some (.iload_n 0, 1, 0, 0, 0), some (.iload 4, 2, 0, 0, 0), none, some (.ishr, 1, 0, 0, 0), some (.iconst 1, 1, 0, 0, 0), some (.iand, 1, 0, 0, 0), some (.iload_n 3, 1, 0, 0, 0), some (.ishl, 1, 0, 0, 0), some (.ior, 1, 0, 0, 0), some (.istore_n 2, 1, 0, 0, 0), some (.iinc 3 1, 3, 0, 0, 0)],
  [none, none, some (.goto (-30), 3, 0, 0, 0), none, none, some (.iload_n 2, 1, 0, 0, 0), some (.ireturn, 1, 0, 0, 0)]]
def xc_78 : List (List (Option xe_I)) := [[some (.iconst 0, 1, 0, 0, 0), some (.istore_n 2, 1, 0, 0, 0), some (.iload_n 2, 1, 0, 0, 0), some (.aload_n 0, 1, 0, 0, 0), some (.getfield 215, 3, 12, 23, 645), none, none, some (.if_icmp .ge 62, 3, 0, 0, 0)],
  [],
  [none, none, none, none, none, some (.iconst 1, 1, 0, 0, 0), some (.ireturn, 1, 0, 0, 0)]]
def xc_79 : List (List (Option xe_I)) := [[some (.iload_n 0, 1, 0, 0, 0), some (.iconst 3, 1, 0, 0, 0), some (.if_icmp .le 7, 3, 0, 0, 0), none, none, some (.iload_n 0, 1, 0, 0, 0), some (.goto 8, 3, 0, 0, 0), none, none, some (.iconst 4, 1, 0, 0, 0), some (.iload_n 0, 1, 0, 0, 0), some (.isub, 1, 0, 0, 0), some (.iconst 4, 1, 0, 0, 0), some (.irem, 1, 0, 0, 0), some (.ireturn, 1, 0, 0, 0)]]
def xc_80 : List (List (Option xe_I)) := [[some (.iconst 0, 1, 0, 0, 0), some (.istore_n 1, 1, 0, 0, 0), some (.iconst 0, 1, 0, 0, 0), some (.istore_n 2, 1, 0, 0, 0), some (.iload_n 2, 1, 0, 0, 0), some (.bipush 32, 2, 0, 0, 0), none, some (.if_icmp .ge 17, 3, 0, 0, 0), none, none, some (.iload_n 1, 1, 0, 0, 0), some (.iload_n 0, 1, 0, 0, 0), some (.iload_n 2, 1, 0, 0, 0), some (.ishr, 1, 0, 0, 0), some (.iconst 1, 1, 0, 0, 0), some (.iand, 1, 0, 0, 0), some (.iadd, 1, 0, 0, 0), some (.istore_n 1, 1, 0, 0, 0), some (.iinc 2 1, 3, 0, 0, 0), none, none, some (.goto (-17), 3, 0, 0, 0), none, none, some (.iload_n 1, 1, 0, 0, 0), some (.ireturn, 1, 0, 0, 0)]]
def xc_81 : List (List (Option xe_I)) := [[some (.iload_n 0, 1, 0, 0, 0), some (.iconst 4, 1, 0, 0, 0), some (.iand, 1, 0, 0, 0), some (.iload_n 1, 1, 0, 0, 0), some (.iconst 4, 1, 0, 0, 0), some (.iand, 1, 0, 0, 0), some (.ixor, 1, 0, 0, 0), some (.iload_n 1, 1, 0, 0, 0), some (.iconst 4, 1, 0, 0, 0), some (.irem, 1, 0, 0, 0), some (.iload_n 1, 1, 0, 0, 0), some (.iconst 3, 1, 0, 0, 0), some (.if_icmp .le 11, 3, 0, 0, 0), none, none, some (.iconst 4, 1, 0, 0, 0), some (.iload_n 0, 1, 0, 0, 0), some (.iconst 4, 1, 0, 0, 0), some (.irem, 1, 0, 0, 0), some (.isub, 1, 0, 0, 0), some (.goto 6, 3, 0, 0, 0), none, none, some (.iload_n 0, 1, 0, 0, 0), some (.iconst 4, 1, 0, 0, 0), some (.irem, 1, 0, 0, 0), some (.iadd, 1, 0, 0, 0), some (.iconst 4, 1, 0, 0, 0), some (.irem, 1, 0, 0, 0), some (.iadd, 1, 0, 0, 0), some (.ireturn, 1, 0, 0, 0)]]
def xc_82 : List (List (Option xe_I)) := [[some (.aload_n 0, 1, 0, 0, 0), some (.iload_n 1, 1, 0, 0, 0), some (.invokevirtual 205, 3, 0, 101, 646), none, none, some (.ifCond .eq 21, 3, 0, 0, 0), none, none, none, none, none, none, none, none, none, none, none, none, none, none, none, none, none, none, none, none, some (.bipush (-2), 2, 0, 0, 0), none, some (.ireturn, 1, 0, 0, 0)]]
def xc_83 : List (List (Option xe_I)) := [[some (.aload_n 0, 1, 0, 0, 0), some (.iload_n 1, 1, 0, 0, 0), some (.invokevirtual 205, 3, 0, 101, 646), none, none, some (.ifCond .eq 25, 3, 0, 0, 0), none, none, none, none, none, none, none, none, none, none, none, none, none, none, none, none, none, none, none, none, none, none, none, none, some (.iconst (-1), 1, 0, 0, 0), some (.ireturn, 1, 0, 0, 0)]]
def xc_84 : List (List (Option xe_I)) := [[some (.iconst 0, 1, 0, 0, 0), some (.istore_n 3, 1, 0, 0, 0), some (.iload_n 3, 1, 0, 0, 0), some (.iload_n 2, 1, 0, 0, 0), some (.if_icmp .ge 15, 3, 0, 0, 0), none, none, some (.aload_n 1, 1, 0, 0, 0), some (.iload_n 3, 1, 0, 0, 0), some (.aload_n 0, 1, 0, 0, 0), some (.iload_n 3, 1, 0, 0, 0), some (.iaload, 1, 0, 0, 0), some (.iastore, 1, 0, 0, 0), some (.iinc 3 1, 3, 0, 0, 0), none, none, some (.goto (-14), 3, 0, 0, 0), none, none, some (.return_, 1, 0, 0, 0)]]
def xc_85 : List (List (Option xe_I)) := [[some (.iload_n 1, 1, 0, 0, 0), some (.iconst 3, 1, 0, 0, 0), some (.if_icmp .le 9, 3, 0, 0, 0), none, none, some (.iload_n 0, 1, 0, 0, 0), some (.iconst 1, 1, 0, 0, 0), some (.ixor, 1, 0, 0, 0), some (.goto 4, 3, 0, 0, 0), none, none, some (.iload_n 0, 1, 0, 0, 0), some (.iload_n 1, 1, 0, 0, 0), some (.iadd, 1, 0, 0, 0), some (.iconst 4, 1, 0, 0, 0), some (.irem, 1, 0, 0, 0), some (.ireturn, 1, 0, 0, 0)]]
def xc_86 : List (List (Option xe_I)) := [[some (.bipush 15, 2, 0, 0, 0), none, some (.istore_n 2, 1, 0, 0, 0), some (.iconst 0, 1, 0, 0, 0), some (.istore_n 3, 1, 0, 0, 0), some (.iload_n 3, 1, 0, 0, 0), some (.bipush 32, 2, 0, 0, 0), none, some (.if_icmp .ge 86, 3, 0, 0, 0), none, none, some (.aload_n 0, 1, 0, 0, 0), some (.iload_n 3, 1, 0, 0, 0), some (.invokevirtual 205, 3, 0, 101, 646), none, none, some (.ifCond .eq 72, 3, 0, 0, 0)],
  [],
  [none, none, none, none, none, none, none, none, none, none, none, none, none, none, none, none, none, none, none, none, none, none, none, none, some (.iinc 3 1, 3, 0, 0, 0), none, none, some (.goto (-86), 3, 0, 0, 0), none, none, some (.iload_n 2, 1, 0, 0, 0), some (.ireturn, 1, 0, 0, 0)]]
def xc_87 : List (List (Option xe_I)) := [[some (.iload_n 1, 1, 0, 0, 0), some (.tableswitch 203 0 30 #[139, 147, 152, 160, 165, 170, 175, 183, 188, 193, 203, 203, 203, 203, 203, 203, 203, 203, 203, 203, 203, 203, 203, 203, 203, 203, 203, 203, 203, 203, 198], 139, 0, 0, 0)],
  [],
  [],
  [],
  [none, none, none, none, none, none, none, none, none, none, none, none, some (.aload_n 0, 1, 0, 0, 0), some (.getfield 183, 3, 12, 0, 647), none, none, some (.invokestatic 532, 3, 0, 80, 648), none, none, some (.ireturn, 1, 0, 0, 0), some (.aload_n 0, 1, 0, 0, 0), some (.getfield 191, 3, 12, 1, 649), none, none, some (.ireturn, 1, 0, 0, 0), some (.aload_n 0, 1, 0, 0, 0), some (.getfield 7, 3, 12, 2, 650), none, none, some (.bipush 40, 2, 0, 0, 0), none, some (.iaload, 1, 0, 0, 0)],
  [some (.ireturn, 1, 0, 0, 0), some (.aload_n 0, 1, 0, 0, 0), some (.getfield 289, 3, 12, 24, 651), none, none, some (.ireturn, 1, 0, 0, 0), some (.aload_n 0, 1, 0, 0, 0), some (.getfield 362, 3, 12, 35, 652), none, none, some (.ireturn, 1, 0, 0, 0), some (.aload_n 0, 1, 0, 0, 0), some (.getfield 194, 3, 12, 17, 653), none, none, some (.ireturn, 1, 0, 0, 0), some (.aload_n 0, 1, 0, 0, 0), some (.getfield 7, 3, 12, 2, 650), none, none, some (.bipush 41, 2, 0, 0, 0), none, some (.iaload, 1, 0, 0, 0), some (.ireturn, 1, 0, 0, 0), some (.aload_n 0, 1, 0, 0, 0), some (.getfield 212, 3, 12, 22, 654), none, none, some (.ireturn, 1, 0, 0, 0), some (.aload_n 0, 1, 0, 0, 0), some (.invokevirtual 535, 3, 0, 125, 655)],
  [none, some (.ireturn, 1, 0, 0, 0), some (.aload_n 0, 1, 0, 0, 0), some (.getfield 215, 3, 12, 23, 645), none, none, some (.ireturn, 1, 0, 0, 0), some (.aload_n 0, 1, 0, 0, 0), some (.invokevirtual 424, 3, 0, 134, 656), none, none, some (.ireturn, 1, 0, 0, 0), some (.iload_n 1, 1, 0, 0, 0), some (.bipush 10, 2, 0, 0, 0), none, some (.bipush 17, 2, 0, 0, 0), none, some (.invokestatic 201, 3, 0, 97, 657), none, none, some (.ifCond .eq 26, 3, 0, 0, 0), none, none, some (.aload_n 0, 1, 0, 0, 0), some (.iload_n 1, 1, 0, 0, 0), some (.bipush 10, 2, 0, 0, 0), none, some (.isub, 1, 0, 0, 0), some (.invokevirtual 382, 3, 0, 100, 658), none, none, some (.ifCond .eq 15, 3, 0, 0, 0)],
  [none, none, none, none, none, none, none, none, none, none, none, none, none, none, some (.iload_n 1, 1, 0, 0, 0), some (.bipush 20, 2, 0, 0, 0), none, some (.bipush 27, 2, 0, 0, 0), none, some (.invokestatic 201, 3, 0, 97, 657), none, none, some (.ifCond .eq 26, 3, 0, 0, 0), none, none, some (.aload_n 0, 1, 0, 0, 0), some (.iload_n 1, 1, 0, 0, 0), some (.bipush 20, 2, 0, 0, 0), none, some (.isub, 1, 0, 0, 0), some (.invokevirtual 382, 3, 0, 100, 658)],
  [none, some (.ifCond .eq 15, 3, 0, 0, 0), none, none, none, none, none, none, none, none, none, none, none, none, none, none, some (.iconst (-1), 1, 0, 0, 0), some (.ireturn, 1, 0, 0, 0)]]
def xc_88 : List (List (Option xe_I)) := [[some (.aload_n 0, 1, 0, 0, 0), some (.iload_n 1, 1, 0, 0, 0), some (.invokevirtual 205, 3, 0, 101, 646), none, none, some (.ifCond .eq 13, 3, 0, 0, 0), none, none, none, none, none, none, none, none, none, none, none, none, some (.iconst 0, 1, 0, 0, 0), some (.ireturn, 1, 0, 0, 0)]]
def xc_89 : List (List (Option xe_I)) := [[some (.iload_n 1, 1, 0, 0, 0), some (.iconst 0, 1, 0, 0, 0), some (.iconst 3, 1, 0, 0, 0), some (.invokestatic 201, 3, 0, 97, 657), none, none, some (.ifCond .eq 12, 3, 0, 0, 0), none, none, some (.iload_n 2, 1, 0, 0, 0), some (.iconst (-1), 1, 0, 0, 0), some (.iconst 3, 1, 0, 0, 0), some (.invokestatic 201, 3, 0, 97, 657), none, none, some (.ifCond .ne 5, 3, 0, 0, 0), none, none, some (.iconst (-1), 1, 0, 0, 0), some (.ireturn, 1, 0, 0, 0), some (.aload_n 0, 1, 0, 0, 0), some (.iload_n 1, 1, 0, 0, 0), some (.invokevirtual 488, 3, 0, 86, 659), none, none, some (.istore_n 3, 1, 0, 0, 0), some (.iload_n 2, 1, 0, 0, 0), some (.iconst (-1), 1, 0, 0, 0), some (.if_icmp .ne 5, 3, 0, 0, 0), none, none, some (.iload_n 3, 1, 0, 0, 0)],
  [some (.ireturn, 1, 0, 0, 0), some (.iconst 0, 1, 0, 0, 0), some (.istore 4, 2, 0, 0, 0), none, some (.iconst 0, 1, 0, 0, 0), some (.istore 5, 2, 0, 0, 0), none, some (.iload 5, 2, 0, 0, 0), none, some (.bipush 8, 2, 0, 0, 0), none, some (.if_icmp .ge 53, 3, 0, 0, 0), none, none, some (.iconst 0, 1, 0, 0, 0), some (.istore 6, 2, 0, 0, 0), none, some (.iload 6, 2, 0, 0, 0), none, some (.iconst 4, 1, 0, 0, 0), some (.if_icmp .ge 38, 3, 0, 0, 0), none, none, some (.iload_n 3, 1, 0, 0, 0), some (.iload 6, 2, 0, 0, 0), none, some (.invokestatic 187, 3, 0, 96, 660), none, none, some (.ifCond .eq 23, 3, 0, 0, 0)],
  [some (.iload 6, 2, 0, 0, 0), none, some (.iload 5, 2, 0, 0, 0), none, some (.invokestatic 485, 3, 0, 85, 661), none, none, some (.iload_n 2, 1, 0, 0, 0), some (.if_icmp .ne 12, 3, 0, 0, 0), none, none, some (.iload 4, 2, 0, 0, 0), none, some (.iconst 1, 1, 0, 0, 0), some (.iload 5, 2, 0, 0, 0), none, some (.ishl, 1, 0, 0, 0), some (.ior, 1, 0, 0, 0), some (.istore 4, 2, 0, 0, 0), none, some (.iinc 6 1, 3, 0, 0, 0), none, none, some (.goto (-38), 3, 0, 0, 0), none, none, some (.iinc 5 1, 3, 0, 0, 0), none, none, some (.goto (-54), 3, 0, 0, 0)],
  [some (.iload 4, 2, 0, 0, 0), none, some (.ireturn, 1, 0, 0, 0)]]
def xc_90 : List (List (Option xe_I)) := [[some (.aload_n 0, 1, 0, 0, 0), some (.invokevirtual 421, 3, 0, 93, 662), none, none, some (.aload_n 0, 1, 0, 0, 0), some (.iconst 0, 1, 0, 0, 0), some (.putfield 372, 3, 12, 49, 663), none, none, some (.aload_n 0, 1, 0, 0, 0), some (.getfield 415, 3, 12, 50, 664), none, none, some (.ireturn, 1, 0, 0, 0)]]
def xc_91 : List (List (Option xe_I)) := [[some (.aload_n 0, 1, 0, 0, 0), some (.getfield 194, 3, 12, 17, 653), none, none, some (.bipush 20, 2, 0, 0, 0), none, some (.iadd, 1, 0, 0, 0), some (.sipush 260, 3, 0, 0, 0), none, none, some (.if_icmp .le 5, 3, 0, 0, 0), none, none, none, none, some (.aload_n 0, 1, 0, 0, 0), some (.iload_n 1, 1, 0, 0, 0), some (.invokevirtual 197, 3, 0, 131, 665), none, none, some (.aload_n 0, 1, 0, 0, 0), some (.iload_n 2, 1, 0, 0, 0), some (.invokevirtual 197, 3, 0, 131, 665), none, none, some (.aload_n 0, 1, 0, 0, 0), some (.iload_n 3, 1, 0, 0, 0), some (.invokevirtual 197, 3, 0, 131, 665), none, none, some (.aload_n 0, 1, 0, 0, 0), some (.iload 4, 2, 0, 0, 0)],
  [none, some (.invokevirtual 197, 3, 0, 131, 665), none, none, some (.aload_n 0, 1, 0, 0, 0), some (.iload 5, 2, 0, 0, 0), none, some (.invokevirtual 197, 3, 0, 131, 665), none, none, some (.aload_n 0, 1, 0, 0, 0), some (.getfield 194, 3, 12, 17, 653), none, none, some (.ireturn, 1, 0, 0, 0)]]
def xc_92 : List (List (Option xe_I)) := [[some (.lload_n 0, 1, 0, 0, 0), some (.lconst 0, 1, 0, 0, 0), some (.lcmp, 1, 0, 0, 0), some (.ifCond .ge 8, 3, 0, 0, 0), none, none, none, none, none, none, none, some (.lload_n 0, 1, 0, 0, 0), some (.lstore 4, 2, 0, 0, 0), none, some (.lload_n 2, 1, 0, 0, 0), some (.lstore 6, 2, 0, 0, 0), none, some (.lload 6, 2, 0, 0, 0), none, some (.lconst 0, 1, 0, 0, 0), some (.lcmp, 1, 0, 0, 0), some (.ifCond .eq 21, 3, 0, 0, 0), none, none, some (.lload 4, 2, 0, 0, 0), none, some (.lload 6, 2, 0, 0, 0), none, some (.lrem, 1, 0, 0, 0), some (.lstore 8, 2, 0, 0, 0), none, some (.lload 6, 2, 0, 0, 0)],
  [none, some (.lstore 4, 2, 0, 0, 0), none, some (.lload 8, 2, 0, 0, 0), none, some (.lstore 6, 2, 0, 0, 0), none, some (.goto (-22), 3, 0, 0, 0), none, none, some (.lload 4, 2, 0, 0, 0), none, some (.lreturn, 1, 0, 0, 0)]]
def xc_93 : List (List (Option xe_I)) := [[some (.aload_n 0, 1, 0, 0, 0), some (.iconst 0, 1, 0, 0, 0), some (.putfield 415, 3, 12, 50, 664), none, none, some (.aload_n 0, 1, 0, 0, 0), some (.iconst 0, 1, 0, 0, 0), some (.putfield 403, 3, 12, 51, 666), none, none, some (.aload_n 0, 1, 0, 0, 0), some (.iconst 0, 1, 0, 0, 0), some (.putfield 394, 3, 12, 52, 667), none, none, some (.aload_n 0, 1, 0, 0, 0), some (.iconst 0, 1, 0, 0, 0), some (.putfield 397, 3, 12, 53, 668), none, none, some (.aload_n 0, 1, 0, 0, 0), some (.iconst 0, 1, 0, 0, 0), some (.putfield 409, 3, 12, 54, 669), none, none, some (.aload_n 0, 1, 0, 0, 0), some (.iconst 0, 1, 0, 0, 0), some (.putfield 372, 3, 12, 49, 663), none, none, some (.iconst 0, 1, 0, 0, 0), some (.istore_n 1, 1, 0, 0, 0)],
  [some (.iload_n 1, 1, 0, 0, 0), some (.bipush 8, 2, 0, 0, 0), none, some (.if_icmp .ge 36, 3, 0, 0, 0), none, none, some (.aload_n 0, 1, 0, 0, 0), some (.getfield 7, 3, 12, 2, 650), none, none, some (.bipush 32, 2, 0, 0, 0), none, some (.iload_n 1, 1, 0, 0, 0), some (.iadd, 1, 0, 0, 0), some (.aload_n 0, 1, 0, 0, 0), some (.iload_n 1, 1, 0, 0, 0), some (.invokevirtual 382, 3, 0, 100, 658), none, none, some (.ifCond .eq 12, 3, 0, 0, 0), none, none, none, none, none, none, none, none, none, none, none, some (.iconst 0, 1, 0, 0, 0)],
  [some (.iastore, 1, 0, 0, 0), some (.iinc 1 1, 3, 0, 0, 0), none, none, some (.goto (-36), 3, 0, 0, 0), none, none, some (.iconst 0, 1, 0, 0, 0), some (.istore_n 1, 1, 0, 0, 0), some (.iload_n 1, 1, 0, 0, 0), some (.aload_n 0, 1, 0, 0, 0), some (.getfield 289, 3, 12, 24, 651), none, none, some (.if_icmp .ge 42, 3, 0, 0, 0)],
  [none, none, none, none, none, none, none, none, none, none, none, none, none, none, none, none, none, none, none, none, none, none, none, none, some (.return_, 1, 0, 0, 0)]]
def xc_94 : List (List (Option xe_I)) := [[some (.aload_n 0, 1, 0, 0, 0), some (.iload_n 1, 1, 0, 0, 0), some (.invokevirtual 205, 3, 0, 101, 646), none, none, some (.ifCond .ne 5, 3, 0, 0, 0), none, none, some (.iconst 0, 1, 0, 0, 0), some (.ireturn, 1, 0, 0, 0)]]
def xc_95 : List (List (Option xe_I)) := [[some (.iload_n 1, 1, 0, 0, 0), some (.iconst 0, 1, 0, 0, 0), some (.iconst 1, 1, 0, 0, 0), some (.invokestatic 201, 3, 0, 97, 657), none, none, some (.ifCond .ne 7, 3, 0, 0, 0), none, none, some (.ldc2_w 447, 3, 0, 9223372036854775807, 670), none, none, some (.lreturn, 1, 0, 0, 0), some (.lconst 0, 1, 0, 0, 0), some (.lstore_n 2, 1, 0, 0, 0), some (.lconst 1, 1, 0, 0, 0), some (.lstore 4, 2, 0, 0, 0), none, some (.iconst 0, 1, 0, 0, 0), some (.istore 6, 2, 0, 0, 0), none, some (.iconst 0, 1, 0, 0, 0), some (.istore 7, 2, 0, 0, 0), none, some (.iload 7, 2, 0, 0, 0), none, some (.bipush 32, 2, 0, 0, 0), none, some (.if_icmp .ge 139, 3, 0, 0, 0), none, none, some (.iload 6, 2, 0, 0, 0)],
  [none, some (.bipush 6, 2, 0, 0, 0), none, some (.if_icmp .ge 132, 3, 0, 0, 0), none, none, some (.aload_n 0, 1, 0, 0, 0), some (.iload 7, 2, 0, 0, 0), none, some (.invokevirtual 205, 3, 0, 101, 646), none, none, some (.ifCond .eq 12, 3, 0, 0, 0), none, none, none, none, none, none, none, none, none, none, none, some (.iconst 0, 1, 0, 0, 0), some (.istore 8, 2, 0, 0, 0), none, some (.iload 8, 2, 0, 0, 0), none, some (.ifCond .ne 6, 3, 0, 0, 0)],
  [some (.goto 97, 3, 0, 0, 0)],
  [],
  [],
  [none, some (.iinc 7 1, 3, 0, 0, 0), none, none, some (.goto (-140), 3, 0, 0, 0), none, none, some (.iload_n 1, 1, 0, 0, 0), some (.ifCond .ne 7, 3, 0, 0, 0), none, none, some (.lload_n 2, 1, 0, 0, 0), some (.goto 5, 3, 0, 0, 0), none, none, some (.lload 4, 2, 0, 0, 0), none, some (.lreturn, 1, 0, 0, 0)]]
def xc_96 : List (List (Option xe_I)) := [[some (.iload_n 0, 1, 0, 0, 0), some (.iload_n 1, 1, 0, 0, 0), some (.ishr, 1, 0, 0, 0), some (.iconst 1, 1, 0, 0, 0), some (.iand, 1, 0, 0, 0), some (.iconst 1, 1, 0, 0, 0), some (.if_icmp .ne 7, 3, 0, 0, 0), none, none, some (.iconst 1, 1, 0, 0, 0), some (.goto 4, 3, 0, 0, 0), none, none, some (.iconst 0, 1, 0, 0, 0), some (.ireturn, 1, 0, 0, 0)]]
def xc_97 : List (List (Option xe_I)) := [[some (.iload_n 0, 1, 0, 0, 0), some (.iload_n 1, 1, 0, 0, 0), some (.if_icmp .lt 12, 3, 0, 0, 0), none, none, some (.iload_n 0, 1, 0, 0, 0), some (.iload_n 2, 1, 0, 0, 0), some (.if_icmp .gt 7, 3, 0, 0, 0), none, none, some (.iconst 1, 1, 0, 0, 0), some (.goto 4, 3, 0, 0, 0), none, none, some (.iconst 0, 1, 0, 0, 0), some (.ireturn, 1, 0, 0, 0)]]
def xc_98 : List (List (Option xe_I)) := [[some (.iload_n 1, 1, 0, 0, 0), some (.ifCond .lt 20, 3, 0, 0, 0), none, none, some (.iload_n 1, 1, 0, 0, 0), some (.aload_n 0, 1, 0, 0, 0), some (.getfield 289, 3, 12, 24, 651), none, none, some (.if_icmp .ge 12, 3, 0, 0, 0), none, none, none, none, none, none, none, none, none, none, none, some (.iconst (-1), 1, 0, 0, 0), some (.ireturn, 1, 0, 0, 0)]]
def xc_99 : List (List (Option xe_I)) := [[some (.aload_n 0, 1, 0, 0, 0), some (.invokespecial 1, 3, 1, 0, 671), none, none, some (.aload_n 0, 1, 0, 0, 0), some (.bipush 42, 2, 0, 0, 0), none, some (.newarray .int, 2, 0, 0, 0), none, some (.putfield 7, 3, 12, 2, 650), none, none, some (.aload_n 0, 1, 0, 0, 0), some (.bipush 42, 2, 0, 0, 0), none, some (.newarray .int, 2, 0, 0, 0), none, some (.putfield 13, 3, 12, 3, 672), none, none, some (.aload_n 0, 1, 0, 0, 0), some (.bipush 32, 2, 0, 0, 0), none, some (.newarray .int, 2, 0, 0, 0), none, some (.putfield 16, 3, 12, 4, 673), none, none, some (.aload_n 0, 1, 0, 0, 0), some (.bipush 32, 2, 0, 0, 0), none, some (.newarray .int, 2, 0, 0, 0)],
  [none, some (.putfield 19, 3, 12, 5, 674), none, none, some (.aload_n 0, 1, 0, 0, 0), some (.bipush 32, 2, 0, 0, 0), none, some (.newarray .int, 2, 0, 0, 0), none, some (.putfield 22, 3, 12, 6, 675), none, none, some (.aload_n 0, 1, 0, 0, 0), some (.bipush 32, 2, 0, 0, 0), none, some (.newarray .int, 2, 0, 0, 0), none, some (.putfield 25, 3, 12, 7, 676), none, none, some (.aload_n 0, 1, 0, 0, 0), some (.bipush 8, 2, 0, 0, 0), none, some (.newarray .int, 2, 0, 0, 0), none, some (.putfield 28, 3, 12, 8, 677), none, none, some (.aload_n 0, 1, 0, 0, 0), some (.bipush 8, 2, 0, 0, 0), none, some (.newarray .int, 2, 0, 0, 0)],
  [none, some (.putfield 31, 3, 12, 9, 678), none, none, some (.aload_n 0, 1, 0, 0, 0), some (.bipush 32, 2, 0, 0, 0), none, some (.newarray .int, 2, 0, 0, 0), none, some (.putfield 34, 3, 12, 10, 679), none, none, some (.aload_n 0, 1, 0, 0, 0), some (.bipush 24, 2, 0, 0, 0), none, some (.newarray .int, 2, 0, 0, 0), none, some (.putfield 37, 3, 12, 11, 680), none, none, some (.aload_n 0, 1, 0, 0, 0), some (.bipush 24, 2, 0, 0, 0), none, some (.newarray .int, 2, 0, 0, 0), none, some (.putfield 40, 3, 12, 12, 681), none, none, some (.aload_n 0, 1, 0, 0, 0), some (.bipush 12, 2, 0, 0, 0), none, some (.newarray .int, 2, 0, 0, 0)],
  [none, some (.putfield 43, 3, 12, 13, 682), none, none, some (.aload_n 0, 1, 0, 0, 0), some (.bipush 12, 2, 0, 0, 0), none, some (.newarray .int, 2, 0, 0, 0), none, some (.putfield 46, 3, 12, 14, 683), none, none, some (.aload_n 0, 1, 0, 0, 0), some (.sipush 800, 3, 0, 0, 0), none, none, some (.newarray .byte, 2, 0, 0, 0), none, some (.putfield 49, 3, 12, 15, 684), none, none, some (.aload_n 0, 1, 0, 0, 0), some (.sipush 260, 3, 0, 0, 0), none, none, some (.newarray .byte, 2, 0, 0, 0), none, some (.putfield 53, 3, 12, 16, 685), none, none, some (.aload_n 0, 1, 0, 0, 0), some (.bipush 60, 2, 0, 0, 0)],
  [none, some (.newarray .int, 2, 0, 0, 0), none, some (.putfield 56, 3, 12, 27, 686), none, none, some (.aload_n 0, 1, 0, 0, 0), some (.bipush 60, 2, 0, 0, 0), none, some (.newarray .int, 2, 0, 0, 0), none, some (.putfield 59, 3, 12, 28, 687), none, none, some (.aload_n 0, 1, 0, 0, 0), some (.iconst 4, 1, 0, 0, 0), some (.newarray .int, 2, 0, 0, 0), none, some (.putfield 62, 3, 12, 29, 688), none, none, some (.aload_n 0, 1, 0, 0, 0), some (.iconst 4, 1, 0, 0, 0), some (.newarray .int, 2, 0, 0, 0), none, some (.putfield 65, 3, 12, 30, 689), none, none, some (.aload_n 0, 1, 0, 0, 0), some (.sipush 260, 3, 0, 0, 0)],
  [some (.newarray .int, 2, 0, 0, 0), none, some (.putfield 68, 3, 12, 36, 690), none, none, some (.aload_n 0, 1, 0, 0, 0), some (.sipush 260, 3, 0, 0, 0), none, none, some (.newarray .int, 2, 0, 0, 0), none, some (.putfield 71, 3, 12, 37, 691), none, none, some (.aload_n 0, 1, 0, 0, 0), some (.bipush 16, 2, 0, 0, 0), none, some (.newarray .int, 2, 0, 0, 0), none, some (.putfield 74, 3, 12, 38, 692), none, none, some (.aload_n 0, 1, 0, 0, 0), some (.bipush 16, 2, 0, 0, 0), none, some (.newarray .int, 2, 0, 0, 0), none, some (.putfield 77, 3, 12, 39, 693), none, none, some (.aload_n 0, 1, 0, 0, 0), some (.bipush 16, 2, 0, 0, 0)],
  [none, some (.newarray .int, 2, 0, 0, 0), none, some (.putfield 80, 3, 12, 40, 694), none, none, some (.aload_n 0, 1, 0, 0, 0), some (.bipush 16, 2, 0, 0, 0), none, some (.newarray .int, 2, 0, 0, 0), none, some (.putfield 83, 3, 12, 41, 695), none, none, some (.aload_n 0, 1, 0, 0, 0), some (.sipush 260, 3, 0, 0, 0), none, none, some (.newarray .int, 2, 0, 0, 0), none, some (.putfield 86, 3, 12, 42, 696), none, none, some (.aload_n 0, 1, 0, 0, 0), some (.bipush 16, 2, 0, 0, 0), none, some (.newarray .int, 2, 0, 0, 0), none, some (.putfield 89, 3, 12, 43, 697), none, none, some (.aload_n 0, 1, 0, 0, 0)],
  [some (.bipush 16, 2, 0, 0, 0), none, some (.newarray .int, 2, 0, 0, 0), none, some (.putfield 92, 3, 12, 44, 698), none, none, some (.aload_n 0, 1, 0, 0, 0), some (.bipush 16, 2, 0, 0, 0), none, some (.newarray .int, 2, 0, 0, 0), none, some (.putfield 95, 3, 12, 45, 699), none, none, some (.aload_n 0, 1, 0, 0, 0), some (.bipush 16, 2, 0, 0, 0), none, some (.newarray .int, 2, 0, 0, 0), none, some (.putfield 98, 3, 12, 46, 700), none, none, some (.aload_n 0, 1, 0, 0, 0), some (.sipush 260, 3, 0, 0, 0), none, none, some (.newarray .int, 2, 0, 0, 0), none, some (.putfield 101, 3, 12, 47, 701)],
  [some (.aload_n 0, 1, 0, 0, 0), some (.bipush 11, 2, 0, 0, 0), none, some (.newarray .int, 2, 0, 0, 0), none, some (.putfield 104, 3, 12, 48, 702), none, none, some (.aload_n 0, 1, 0, 0, 0), some (.bipush 8, 2, 0, 0, 0), none, some (.newarray .int, 2, 0, 0, 0), none, some (.putfield 107, 3, 12, 55, 703), none, none, some (.aload_n 0, 1, 0, 0, 0), some (.bipush 8, 2, 0, 0, 0), none, some (.newarray .int, 2, 0, 0, 0), none, some (.putfield 110, 3, 12, 56, 704), none, none, some (.aload_n 0, 1, 0, 0, 0), some (.bipush 7, 2, 0, 0, 0), none, some (.newarray .int, 2, 0, 0, 0), none, some (.putfield 113, 3, 12, 57, 705)],
  [some (.aload_n 0, 1, 0, 0, 0), some (.bipush 7, 2, 0, 0, 0), none, some (.newarray .int, 2, 0, 0, 0), none, some (.putfield 116, 3, 12, 58, 706), none, none, some (.aload_n 0, 1, 0, 0, 0), some (.bipush 7, 2, 0, 0, 0), none, some (.newarray .int, 2, 0, 0, 0), none, some (.putfield 119, 3, 12, 59, 707), none, none, some (.aload_n 0, 1, 0, 0, 0), some (.bipush 7, 2, 0, 0, 0), none, some (.newarray .int, 2, 0, 0, 0), none, some (.putfield 122, 3, 12, 60, 708), none, none, some (.aload_n 0, 1, 0, 0, 0), some (.bipush 12, 2, 0, 0, 0), none, some (.newarray .int, 2, 0, 0, 0), none, some (.putfield 125, 3, 12, 65, 709)],
  [some (.aload_n 0, 1, 0, 0, 0), some (.bipush 12, 2, 0, 0, 0), none, some (.newarray .int, 2, 0, 0, 0), none, some (.putfield 128, 3, 12, 66, 710), none, none, some (.aload_n 0, 1, 0, 0, 0), some (.bipush 12, 2, 0, 0, 0), none, some (.newarray .long, 2, 0, 0, 0), none, some (.putfield 131, 3, 12, 67, 711), none, none, some (.aload_n 0, 1, 0, 0, 0), some (.bipush 12, 2, 0, 0, 0), none, some (.newarray .int, 2, 0, 0, 0), none, some (.putfield 135, 3, 12, 68, 712), none, none, some (.aload_n 0, 1, 0, 0, 0), some (.bipush 12, 2, 0, 0, 0), none, some (.newarray .int, 2, 0, 0, 0), none, some (.putfield 138, 3, 12, 69, 713)],
  [some (.aload_n 0, 1, 0, 0, 0), some (.sipush 4096, 3, 0, 0, 0), none, none, some (.newarray .long, 2, 0, 0, 0), none, some (.putfield 141, 3, 12, 70, 714), none, none, some (.aload_n 0, 1, 0, 0, 0), some (.bipush 42, 2, 0, 0, 0), none, some (.newarray .int, 2, 0, 0, 0), none, some (.putfield 144, 3, 12, 77, 715), none, none, some (.aload_n 0, 1, 0, 0, 0), some (.bipush 32, 2, 0, 0, 0), none, some (.newarray .int, 2, 0, 0, 0), none, some (.putfield 147, 3, 12, 78, 716), none, none, some (.aload_n 0, 1, 0, 0, 0), some (.bipush 32, 2, 0, 0, 0), none, some (.newarray .int, 2, 0, 0, 0), none, some (.putfield 150, 3, 12, 79, 717)],
  [none, some (.aload_n 0, 1, 0, 0, 0), some (.bipush 32, 2, 0, 0, 0), none, some (.newarray .int, 2, 0, 0, 0), none, some (.putfield 153, 3, 12, 80, 718), none, none, some (.aload_n 0, 1, 0, 0, 0), some (.bipush 32, 2, 0, 0, 0), none, some (.newarray .int, 2, 0, 0, 0), none, some (.putfield 156, 3, 12, 81, 719), none, none, some (.aload_n 0, 1, 0, 0, 0), some (.bipush 8, 2, 0, 0, 0), none, some (.newarray .int, 2, 0, 0, 0), none, some (.putfield 159, 3, 12, 82, 720), none, none, some (.aload_n 0, 1, 0, 0, 0), some (.bipush 8, 2, 0, 0, 0), none, some (.newarray .int, 2, 0, 0, 0), none, some (.putfield 162, 3, 12, 83, 721)],
  [none, some (.aload_n 0, 1, 0, 0, 0), some (.bipush 32, 2, 0, 0, 0), none, some (.newarray .int, 2, 0, 0, 0), none, some (.putfield 165, 3, 12, 84, 722), none, none, some (.aload_n 0, 1, 0, 0, 0), some (.bipush 24, 2, 0, 0, 0), none, some (.newarray .int, 2, 0, 0, 0), none, some (.putfield 168, 3, 12, 85, 723), none, none, some (.aload_n 0, 1, 0, 0, 0), some (.bipush 24, 2, 0, 0, 0), none, some (.newarray .int, 2, 0, 0, 0), none, some (.putfield 171, 3, 12, 86, 724), none, none, some (.aload_n 0, 1, 0, 0, 0), some (.bipush 12, 2, 0, 0, 0), none, some (.newarray .int, 2, 0, 0, 0), none, some (.putfield 174, 3, 12, 87, 725)],
  [none, some (.aload_n 0, 1, 0, 0, 0), some (.bipush 12, 2, 0, 0, 0), none, some (.newarray .int, 2, 0, 0, 0), none, some (.putfield 177, 3, 12, 88, 726), none, none, some (.aload_n 0, 1, 0, 0, 0), some (.sipush 800, 3, 0, 0, 0), none, none, some (.newarray .byte, 2, 0, 0, 0), none, some (.putfield 180, 3, 12, 89, 727), none, none, some (.aload_n 0, 1, 0, 0, 0), some (.getfield 7, 3, 12, 2, 650), none, none, some (.bipush 40, 2, 0, 0, 0), none, some (.iconst 1, 1, 0, 0, 0), some (.iastore, 1, 0, 0, 0), some (.aload_n 0, 1, 0, 0, 0), some (.getfield 7, 3, 12, 2, 650), none, none, some (.bipush 41, 2, 0, 0, 0)],
  [some (.iconst 1, 1, 0, 0, 0), some (.iastore, 1, 0, 0, 0), some (.iconst 0, 1, 0, 0, 0), some (.istore_n 1, 1, 0, 0, 0), some (.iload_n 1, 1, 0, 0, 0), some (.bipush 32, 2, 0, 0, 0), none, some (.if_icmp .ge 16, 3, 0, 0, 0), none, none, some (.aload_n 0, 1, 0, 0, 0), some (.getfield 34, 3, 12, 10, 679), none, none, some (.iload_n 1, 1, 0, 0, 0), some (.iconst (-1), 1, 0, 0, 0), some (.iastore, 1, 0, 0, 0), some (.iinc 1 1, 3, 0, 0, 0), none, none, some (.goto (-16), 3, 0, 0, 0), none, none, some (.return_, 1, 0, 0, 0)]]
def xc_100 : List (List (Option xe_I)) := [[some (.iload_n 1, 1, 0, 0, 0), some (.ifCond .lt 24, 3, 0, 0, 0), none, none, some (.iload_n 1, 1, 0, 0, 0), some (.bipush 8, 2, 0, 0, 0), none, some (.if_icmp .ge 18, 3, 0, 0, 0), none, none, some (.aload_n 0, 1, 0, 0, 0), some (.getfield 191, 3, 12, 1, 649), none, none, some (.iload_n 1, 1, 0, 0, 0), some (.invokestatic 187, 3, 0, 96, 660), none, none, some (.ifCond .eq 7, 3, 0, 0, 0), none, none, none, none, none, none, some (.iconst 0, 1, 0, 0, 0), some (.ireturn, 1, 0, 0, 0)]]
def xc_101 : List (List (Option xe_I)) := [[some (.iload_n 1, 1, 0, 0, 0), some (.ifCond .lt 24, 3, 0, 0, 0), none, none, some (.iload_n 1, 1, 0, 0, 0), some (.bipush 32, 2, 0, 0, 0), none, some (.if_icmp .ge 18, 3, 0, 0, 0), none, none, some (.aload_n 0, 1, 0, 0, 0), some (.getfield 183, 3, 12, 0, 647), none, none, some (.iload_n 1, 1, 0, 0, 0), some (.invokestatic 187, 3, 0, 96, 660), none, none, some (.ifCond .eq 7, 3, 0, 0, 0), none, none, none, none, none, none, some (.iconst 0, 1, 0, 0, 0), some (.ireturn, 1, 0, 0, 0)]]
def xc_102 : List (List (Option xe_I)) := [[some (.iload_n 0, 1, 0, 0, 0), some (.ifCond .lt 13, 3, 0, 0, 0), none, none, some (.iload_n 0, 1, 0, 0, 0), some (.bipush 8, 2, 0, 0, 0), none, some (.if_icmp .ge 7, 3, 0, 0, 0), none, none, some (.iconst 1, 1, 0, 0, 0), some (.goto 4, 3, 0, 0, 0), none, none, some (.iconst 0, 1, 0, 0, 0), some (.ireturn, 1, 0, 0, 0)]]
def xc_103 : List (List (Option xe_I)) := [[some (.aload_n 0, 1, 0, 0, 0), some (.iconst 1, 1, 0, 0, 0), some (.putfield 516, 3, 12, 72, 728), none, none, some (.aload_n 0, 1, 0, 0, 0), some (.aload_n 0, 1, 0, 0, 0), some (.getfield 183, 3, 12, 0, 647), none, none, some (.putfield 520, 3, 12, 73, 729), none, none, some (.aload_n 0, 1, 0, 0, 0), some (.aload_n 0, 1, 0, 0, 0), some (.getfield 191, 3, 12, 1, 649), none, none, some (.putfield 523, 3, 12, 74, 730), none, none, some (.aload_n 0, 1, 0, 0, 0), some (.aload_n 0, 1, 0, 0, 0), some (.getfield 212, 3, 12, 22, 654), none, none, some (.putfield 526, 3, 12, 75, 731), none, none, some (.aload_n 0, 1, 0, 0, 0), some (.aload_n 0, 1, 0, 0, 0), some (.getfield 215, 3, 12, 23, 645)],
  [none, none, some (.putfield 529, 3, 12, 76, 732), none, none, some (.aload_n 0, 1, 0, 0, 0), some (.getfield 7, 3, 12, 2, 650), none, none, some (.aload_n 0, 1, 0, 0, 0), some (.getfield 144, 3, 12, 77, 715), none, none, some (.bipush 42, 2, 0, 0, 0), none, some (.invokestatic 292, 3, 0, 84, 733), none, none, some (.aload_n 0, 1, 0, 0, 0), some (.getfield 16, 3, 12, 4, 673), none, none, some (.aload_n 0, 1, 0, 0, 0), some (.getfield 147, 3, 12, 78, 716), none, none, some (.bipush 32, 2, 0, 0, 0), none, some (.invokestatic 292, 3, 0, 84, 733), none, none, some (.aload_n 0, 1, 0, 0, 0)],
  [some (.getfield 19, 3, 12, 5, 674), none, none, some (.aload_n 0, 1, 0, 0, 0), some (.getfield 150, 3, 12, 79, 717), none, none, some (.bipush 32, 2, 0, 0, 0), none, some (.invokestatic 292, 3, 0, 84, 733), none, none, some (.aload_n 0, 1, 0, 0, 0), some (.getfield 22, 3, 12, 6, 675), none, none, some (.aload_n 0, 1, 0, 0, 0), some (.getfield 153, 3, 12, 80, 718), none, none, some (.bipush 32, 2, 0, 0, 0), none, some (.invokestatic 292, 3, 0, 84, 733), none, none, some (.aload_n 0, 1, 0, 0, 0), some (.getfield 25, 3, 12, 7, 676), none, none, some (.aload_n 0, 1, 0, 0, 0), some (.getfield 156, 3, 12, 81, 719)],
  [none, some (.bipush 32, 2, 0, 0, 0), none, some (.invokestatic 292, 3, 0, 84, 733), none, none, some (.aload_n 0, 1, 0, 0, 0), some (.getfield 28, 3, 12, 8, 677), none, none, some (.aload_n 0, 1, 0, 0, 0), some (.getfield 159, 3, 12, 82, 720), none, none, some (.bipush 8, 2, 0, 0, 0), none, some (.invokestatic 292, 3, 0, 84, 733), none, none, some (.aload_n 0, 1, 0, 0, 0), some (.getfield 31, 3, 12, 9, 678), none, none, some (.aload_n 0, 1, 0, 0, 0), some (.getfield 162, 3, 12, 83, 721), none, none, some (.bipush 8, 2, 0, 0, 0), none, some (.invokestatic 292, 3, 0, 84, 733)],
  [some (.aload_n 0, 1, 0, 0, 0), some (.getfield 34, 3, 12, 10, 679), none, none, some (.aload_n 0, 1, 0, 0, 0), some (.getfield 165, 3, 12, 84, 722), none, none, some (.bipush 32, 2, 0, 0, 0), none, some (.invokestatic 292, 3, 0, 84, 733), none, none, some (.aload_n 0, 1, 0, 0, 0), some (.getfield 37, 3, 12, 11, 680), none, none, some (.aload_n 0, 1, 0, 0, 0), some (.getfield 168, 3, 12, 85, 723), none, none, some (.bipush 24, 2, 0, 0, 0), none, some (.invokestatic 292, 3, 0, 84, 733), none, none, some (.aload_n 0, 1, 0, 0, 0), some (.getfield 40, 3, 12, 12, 681), none, none, some (.aload_n 0, 1, 0, 0, 0), some (.getfield 171, 3, 12, 86, 724)],
  [none, none, some (.bipush 24, 2, 0, 0, 0), none, some (.invokestatic 292, 3, 0, 84, 733), none, none, some (.aload_n 0, 1, 0, 0, 0), some (.getfield 43, 3, 12, 13, 682), none, none, some (.aload_n 0, 1, 0, 0, 0), some (.getfield 174, 3, 12, 87, 725), none, none, some (.bipush 12, 2, 0, 0, 0), none, some (.invokestatic 292, 3, 0, 84, 733), none, none, some (.aload_n 0, 1, 0, 0, 0), some (.getfield 46, 3, 12, 14, 683), none, none, some (.aload_n 0, 1, 0, 0, 0), some (.getfield 177, 3, 12, 88, 726), none, none, some (.bipush 12, 2, 0, 0, 0), none, some (.invokestatic 292, 3, 0, 84, 733)],
  [none, some (.iconst 0, 1, 0, 0, 0), some (.istore_n 1, 1, 0, 0, 0), some (.iload_n 1, 1, 0, 0, 0), some (.sipush 800, 3, 0, 0, 0), none, none, some (.if_icmp .ge 21, 3, 0, 0, 0), none, none, some (.aload_n 0, 1, 0, 0, 0), some (.getfield 180, 3, 12, 89, 727), none, none, some (.iload_n 1, 1, 0, 0, 0), some (.aload_n 0, 1, 0, 0, 0), some (.getfield 49, 3, 12, 15, 684), none, none, some (.iload_n 1, 1, 0, 0, 0), some (.baload, 1, 0, 0, 0), some (.bastore, 1, 0, 0, 0), some (.iinc 1 1, 3, 0, 0, 0), none, none, some (.goto (-22), 3, 0, 0, 0), none, none, some (.aload_n 0, 1, 0, 0, 0), some (.getfield 183, 3, 12, 0, 647)],
  [some (.invokestatic 532, 3, 0, 80, 648), none, none, some (.ireturn, 1, 0, 0, 0)]]
def xc_104 : List (List (Option xe_I)) := [[some (.iload_n 1, 1, 0, 0, 0), some (.iconst 0, 1, 0, 0, 0), some (.bipush 10, 2, 0, 0, 0), none, some (.invokestatic 201, 3, 0, 97, 657), none, none, some (.ifCond .eq 22, 3, 0, 0, 0), none, none, some (.iload_n 2, 1, 0, 0, 0), some (.iconst 1, 1, 0, 0, 0), some (.bipush 15, 2, 0, 0, 0), none, some (.invokestatic 201, 3, 0, 97, 657), none, none, some (.ifCond .eq 12, 3, 0, 0, 0), none, none, some (.iload_n 3, 1, 0, 0, 0), some (.iconst 0, 1, 0, 0, 0), some (.iconst 1, 1, 0, 0, 0), some (.invokestatic 201, 3, 0, 97, 657), none, none, some (.ifCond .ne 7, 3, 0, 0, 0), none, none, some (.ldc2_w 447, 3, 0, 9223372036854775807, 670)],
  [some (.lreturn, 1, 0, 0, 0), some (.lconst 1, 1, 0, 0, 0), some (.lstore 4, 2, 0, 0, 0), none, some (.lconst 1, 1, 0, 0, 0), some (.lstore 6, 2, 0, 0, 0), none, some (.iconst 0, 1, 0, 0, 0), some (.istore 8, 2, 0, 0, 0), none, some (.iload 8, 2, 0, 0, 0), none, some (.iload_n 2, 1, 0, 0, 0), some (.if_icmp .ge 27, 3, 0, 0, 0), none, none, some (.lload 4, 2, 0, 0, 0), none, some (.bipush 10, 2, 0, 0, 0), none, some (.iload_n 1, 1, 0, 0, 0), some (.isub, 1, 0, 0, 0), some (.i2l, 1, 0, 0, 0), some (.lmul, 1, 0, 0, 0), some (.lstore 4, 2, 0, 0, 0), none, some (.lload 6, 2, 0, 0, 0), none, some (.ldc2_w 468, 3, 0, 9223372036854775818, 734), none, none, some (.lmul, 1, 0, 0, 0)],
  [some (.lstore 6, 2, 0, 0, 0), none, some (.iinc 8 1, 3, 0, 0, 0), none, none, some (.goto (-27), 3, 0, 0, 0), none, none, some (.lload 4, 2, 0, 0, 0), none, some (.lload 6, 2, 0, 0, 0), none, some (.iload_n 3, 1, 0, 0, 0), some (.invokestatic 440, 3, 0, 126, 735), none, none, some (.lreturn, 1, 0, 0, 0)]]
def xc_105 : List (List (Option xe_I)) := [[some (.iload_n 1, 1, 0, 0, 0), some (.iconst 0, 1, 0, 0, 0), some (.bipush 9, 2, 0, 0, 0), none, some (.invokestatic 201, 3, 0, 97, 657), none, none, some (.ifCond .ne 5, 3, 0, 0, 0), none, none, some (.iconst 0, 1, 0, 0, 0), some (.ireturn, 1, 0, 0, 0), some (.aload_n 0, 1, 0, 0, 0), some (.getfield 7, 3, 12, 2, 650), none, none, some (.bipush 40, 2, 0, 0, 0), none, some (.iload_n 1, 1, 0, 0, 0), some (.iastore, 1, 0, 0, 0), some (.iconst 1, 1, 0, 0, 0), some (.ireturn, 1, 0, 0, 0)]]
def xc_106 : List (List (Option xe_I)) := [[some (.iload_n 1, 1, 0, 0, 0), some (.iconst 1, 1, 0, 0, 0), some (.sipush 240, 3, 0, 0, 0), none, none, some (.invokestatic 201, 3, 0, 97, 657), none, none, some (.ifCond .eq 11, 3, 0, 0, 0), none, none, some (.iload_n 1, 1, 0, 0, 0), some (.aload_n 0, 1, 0, 0, 0), some (.getfield 194, 3, 12, 17, 653), none, none, some (.if_icmp .le 5, 3, 0, 0, 0), none, none, some (.iconst (-1), 1, 0, 0, 0), some (.ireturn, 1, 0, 0, 0)]]
def xc_107 : List (List (Option xe_I)) := [[some (.iload_n 2, 1, 0, 0, 0), some (.iconst 0, 1, 0, 0, 0), some (.iconst 1, 1, 0, 0, 0), some (.invokestatic 201, 3, 0, 97, 657), none, none, some (.ifCond .ne 7, 3, 0, 0, 0), none, none, some (.ldc2_w 447, 3, 0, 9223372036854775807, 670), none, none, some (.lreturn, 1, 0, 0, 0), some (.aload_n 0, 1, 0, 0, 0), some (.iload_n 1, 1, 0, 0, 0), some (.invokevirtual 205, 3, 0, 101, 646), none, none, some (.ifCond .ne 7, 3, 0, 0, 0), none, none, some (.ldc2_w 470, 3, 0, 9223372035854775808, 736), none, none, some (.lreturn, 1, 0, 0, 0)]]
def xc_108 : List (List (Option xe_I)) := [[some (.iload_n 1, 1, 0, 0, 0), some (.iconst 0, 1, 0, 0, 0), some (.sipush 9999, 3, 0, 0, 0), none, none, some (.invokestatic 201, 3, 0, 97, 657), none, none, some (.ifCond .eq 12, 3, 0, 0, 0), none, none, some (.iload_n 2, 1, 0, 0, 0), some (.iconst 0, 1, 0, 0, 0), some (.iconst 2, 1, 0, 0, 0), some (.invokestatic 201, 3, 0, 97, 657), none, none, some (.ifCond .ne 5, 3, 0, 0, 0), none, none, some (.iconst (-1), 1, 0, 0, 0), some (.ireturn, 1, 0, 0, 0), some (.iconst 0, 1, 0, 0, 0), some (.istore_n 3, 1, 0, 0, 0), some (.iconst 0, 1, 0, 0, 0), some (.istore 4, 2, 0, 0, 0), none, some (.iload 4, 2, 0, 0, 0), none, some (.aload_n 0, 1, 0, 0, 0), some (.getfield 289, 3, 12, 24, 651)],
  [none, some (.if_icmp .ge 21, 3, 0, 0, 0), none, none, none, none, none, none, none, none, none, none, none, none, none, none, none, none, none, none, none, none, some (.aload_n 0, 1, 0, 0, 0), some (.iconst 0, 1, 0, 0, 0), some (.putfield 479, 3, 12, 64, 737), none, none, some (.iconst 0, 1, 0, 0, 0), some (.istore 4, 2, 0, 0, 0), none, some (.iload 4, 2, 0, 0, 0)],
  [some (.bipush 32, 2, 0, 0, 0), none, some (.if_icmp .ge 88, 3, 0, 0, 0), none, none, some (.aload_n 0, 1, 0, 0, 0), some (.getfield 479, 3, 12, 64, 737), none, none, some (.bipush 12, 2, 0, 0, 0), none, some (.if_icmp .ge 79, 3, 0, 0, 0), none, none, some (.aload_n 0, 1, 0, 0, 0), some (.iload 4, 2, 0, 0, 0), none, some (.invokevirtual 205, 3, 0, 101, 646), none, none, some (.ifCond .eq 64, 3, 0, 0, 0)],
  [],
  [none, none, none, none, none, none, none, none, none, none, none, none, none, none, none, none, none, none, none, none, some (.iinc 4 1, 3, 0, 0, 0), none, none, some (.goto (-89), 3, 0, 0, 0), none, none, some (.iconst (-1), 1, 0, 0, 0), some (.istore 4, 2, 0, 0, 0), none, some (.iconst 0, 1, 0, 0, 0), some (.istore 5, 2, 0, 0, 0)],
  [some (.iconst 0, 1, 0, 0, 0), some (.istore 6, 2, 0, 0, 0), none, some (.iconst 0, 1, 0, 0, 0), some (.istore 7, 2, 0, 0, 0), none, some (.iload 7, 2, 0, 0, 0), none, some (.iconst 1, 1, 0, 0, 0), some (.aload_n 0, 1, 0, 0, 0), some (.getfield 479, 3, 12, 64, 737), none, none, some (.ishl, 1, 0, 0, 0), some (.if_icmp .ge 127, 3, 0, 0, 0), none, none, some (.iconst 0, 1, 0, 0, 0), some (.istore 8, 2, 0, 0, 0), none, some (.iconst 0, 1, 0, 0, 0), some (.istore 9, 2, 0, 0, 0), none, some (.iconst 0, 1, 0, 0, 0), some (.istore 10, 2, 0, 0, 0), none, some (.iload 10, 2, 0, 0, 0), none, some (.aload_n 0, 1, 0, 0, 0), some (.getfield 479, 3, 12, 64, 737)],
  [some (.if_icmp .ge 66, 3, 0, 0, 0)],
  [],
  [none, none, some (.iload 9, 2, 0, 0, 0), none, some (.iload_n 1, 1, 0, 0, 0), some (.if_icmp .gt 34, 3, 0, 0, 0), none, none, some (.iload 8, 2, 0, 0, 0), none, some (.iload 4, 2, 0, 0, 0), none, some (.if_icmp .le 27, 3, 0, 0, 0), none, none, some (.aload_n 0, 1, 0, 0, 0), some (.iload 7, 2, 0, 0, 0), none, some (.invokevirtual 512, 3, 0, 78, 738), none, none, some (.ifCond .ne 6, 3, 0, 0, 0), none, none, none, none, none, some (.iload 8, 2, 0, 0, 0), none, some (.istore 4, 2, 0, 0, 0), none, some (.iload 7, 2, 0, 0, 0)],
  [none, some (.istore 5, 2, 0, 0, 0), none, some (.iload 9, 2, 0, 0, 0), none, some (.istore 6, 2, 0, 0, 0), none, some (.iinc 7 1, 3, 0, 0, 0), none, none, some (.goto (-132), 3, 0, 0, 0), none, none, some (.iload_n 2, 1, 0, 0, 0), some (.ifCond .ne 8, 3, 0, 0, 0), none, none, some (.iload 4, 2, 0, 0, 0), none, some (.goto 15, 3, 0, 0, 0), none, none, some (.iload_n 2, 1, 0, 0, 0), some (.iconst 1, 1, 0, 0, 0), some (.if_icmp .ne 8, 3, 0, 0, 0), none, none, some (.iload 5, 2, 0, 0, 0), none, some (.goto 5, 3, 0, 0, 0)],
  [some (.iload 6, 2, 0, 0, 0), none, some (.ireturn, 1, 0, 0, 0)]]
def xc_109 : List (List (Option xe_I)) := [[some (.iload_n 1, 1, 0, 0, 0), some (.iconst 0, 1, 0, 0, 0), some (.sipush 9999, 3, 0, 0, 0), none, none, some (.invokestatic 201, 3, 0, 97, 657), none, none, some (.ifCond .eq 12, 3, 0, 0, 0), none, none, some (.iload_n 2, 1, 0, 0, 0), some (.iconst 0, 1, 0, 0, 0), some (.iconst 3, 1, 0, 0, 0), some (.invokestatic 201, 3, 0, 97, 657), none, none, some (.ifCond .ne 7, 3, 0, 0, 0), none, none, some (.ldc2_w 447, 3, 0, 9223372036854775807, 670), none, none, some (.lreturn, 1, 0, 0, 0), some (.aload_n 0, 1, 0, 0, 0), some (.iconst 0, 1, 0, 0, 0), some (.putfield 479, 3, 12, 64, 737), none, none, some (.iconst 0, 1, 0, 0, 0), some (.istore_n 3, 1, 0, 0, 0), some (.iload_n 3, 1, 0, 0, 0)],
  [some (.bipush 32, 2, 0, 0, 0), none, some (.if_icmp .ge 105, 3, 0, 0, 0), none, none, some (.aload_n 0, 1, 0, 0, 0), some (.getfield 479, 3, 12, 64, 737), none, none, some (.bipush 12, 2, 0, 0, 0), none, some (.if_icmp .ge 96, 3, 0, 0, 0), none, none, some (.aload_n 0, 1, 0, 0, 0), some (.iload_n 3, 1, 0, 0, 0), some (.invokevirtual 205, 3, 0, 101, 646), none, none, some (.ifCond .eq 82, 3, 0, 0, 0)],
  [],
  [],
  [none, none, none, none, none, some (.iinc 3 1, 3, 0, 0, 0), none, none, some (.goto (-105), 3, 0, 0, 0), none, none, some (.ldc2_w 447, 3, 0, 9223372036854775807, 670), none, none, some (.lstore_n 3, 1, 0, 0, 0), some (.iconst 0, 1, 0, 0, 0), some (.istore 5, 2, 0, 0, 0), none, some (.iconst 0, 1, 0, 0, 0), some (.istore 6, 2, 0, 0, 0), none, some (.iconst 0, 1, 0, 0, 0), some (.istore 7, 2, 0, 0, 0), none, some (.iload 7, 2, 0, 0, 0), none, some (.iconst 1, 1, 0, 0, 0), some (.aload_n 0, 1, 0, 0, 0), some (.getfield 479, 3, 12, 64, 737), none, none, some (.ishl, 1, 0, 0, 0)],
  [some (.if_icmp .ge 112, 3, 0, 0, 0), none, none, some (.lconst 0, 1, 0, 0, 0), some (.lstore 8, 2, 0, 0, 0), none, some (.iconst 0, 1, 0, 0, 0), some (.istore 10, 2, 0, 0, 0), none, some (.iconst 0, 1, 0, 0, 0), some (.istore 11, 2, 0, 0, 0), none, some (.iload 11, 2, 0, 0, 0), none, some (.aload_n 0, 1, 0, 0, 0), some (.getfield 479, 3, 12, 64, 737), none, none, some (.if_icmp .ge 61, 3, 0, 0, 0)],
  [],
  [none, none, none, none, none, none, none, none, none, none, none, none, none, none, none, some (.iload 10, 2, 0, 0, 0), none, some (.iload_n 1, 1, 0, 0, 0), some (.if_icmp .gt 24, 3, 0, 0, 0), none, none, some (.lload 8, 2, 0, 0, 0), none, some (.lload_n 3, 1, 0, 0, 0), some (.lcmp, 1, 0, 0, 0), some (.ifCond .gt 6, 3, 0, 0, 0), none, none, none, none, none, some (.lload 8, 2, 0, 0, 0)],
  [none, some (.lstore_n 3, 1, 0, 0, 0), some (.iload 7, 2, 0, 0, 0), none, some (.istore 5, 2, 0, 0, 0), none, some (.iload 10, 2, 0, 0, 0), none, some (.istore 6, 2, 0, 0, 0), none, some (.iinc 7 1, 3, 0, 0, 0), none, none, some (.goto (-117), 3, 0, 0, 0), none, none, some (.aload_n 0, 1, 0, 0, 0), some (.invokevirtual 482, 3, 0, 112, 739), none, none, some (.iload_n 2, 1, 0, 0, 0), some (.ifCond .ne 9, 3, 0, 0, 0), none, none, some (.iload 5, 2, 0, 0, 0), none, some (.i2l, 1, 0, 0, 0), some (.goto 25, 3, 0, 0, 0), none, none, some (.iload_n 2, 1, 0, 0, 0), some (.iconst 1, 1, 0, 0, 0)],
  [some (.if_icmp .ne 9, 3, 0, 0, 0), none, none, some (.iload 6, 2, 0, 0, 0), none, some (.i2l, 1, 0, 0, 0), some (.goto 14, 3, 0, 0, 0), none, none, some (.lload_n 3, 1, 0, 0, 0), some (.aload_n 0, 1, 0, 0, 0), some (.getfield 465, 3, 12, 63, 740), none, none, some (.iload_n 2, 1, 0, 0, 0), some (.iconst 2, 1, 0, 0, 0), some (.isub, 1, 0, 0, 0), some (.invokestatic 440, 3, 0, 126, 735), none, none, some (.lreturn, 1, 0, 0, 0)]]
def xc_110 : List (List (Option xe_I)) := [[some (.aload_n 0, 1, 0, 0, 0), some (.iload_n 1, 1, 0, 0, 0), some (.invokevirtual 205, 3, 0, 101, 646), none, none, some (.ifCond .eq 25, 3, 0, 0, 0), none, none, none, none, none, none, none, none, none, none, none, none, none, none, none, none, none, none, none, none, none, none, none, none, some (.iconst (-1), 1, 0, 0, 0), some (.ireturn, 1, 0, 0, 0)]]
def xc_111 : List (List (Option xe_I)) := [[some (.iload_n 1, 1, 0, 0, 0), some (.iconst 0, 1, 0, 0, 0), some (.bipush 7, 2, 0, 0, 0), none, some (.invokestatic 201, 3, 0, 97, 657), none, none, some (.ifCond .eq 24, 3, 0, 0, 0), none, none, some (.iload_n 2, 1, 0, 0, 0), some (.iconst 0, 1, 0, 0, 0), some (.bipush 9, 2, 0, 0, 0), none, some (.invokestatic 201, 3, 0, 97, 657), none, none, some (.ifCond .eq 14, 3, 0, 0, 0), none, none, some (.iload_n 3, 1, 0, 0, 0), some (.iconst 0, 1, 0, 0, 0), some (.sipush 9999, 3, 0, 0, 0), none, none, some (.invokestatic 201, 3, 0, 97, 657), none, none, some (.ifCond .ne 5, 3, 0, 0, 0), none, none, some (.iconst 0, 1, 0, 0, 0)],
  [some (.ireturn, 1, 0, 0, 0), some (.aload_n 0, 1, 0, 0, 0), some (.aload_n 0, 1, 0, 0, 0), some (.getfield 191, 3, 12, 1, 649), none, none, some (.iconst 1, 1, 0, 0, 0), some (.iload_n 1, 1, 0, 0, 0), some (.ishl, 1, 0, 0, 0), some (.ior, 1, 0, 0, 0), some (.putfield 191, 3, 12, 1, 649), none, none, some (.aload_n 0, 1, 0, 0, 0), some (.getfield 28, 3, 12, 8, 677), none, none, some (.iload_n 1, 1, 0, 0, 0), some (.iload_n 2, 1, 0, 0, 0), some (.iastore, 1, 0, 0, 0), some (.aload_n 0, 1, 0, 0, 0), some (.getfield 31, 3, 12, 9, 678), none, none, some (.iload_n 1, 1, 0, 0, 0), some (.iload_n 3, 1, 0, 0, 0), some (.iastore, 1, 0, 0, 0), some (.iconst 1, 1, 0, 0, 0), some (.ireturn, 1, 0, 0, 0)]]
def xc_112 : List (List (Option xe_I)) := [[some (.aload_n 0, 1, 0, 0, 0), some (.lconst 1, 1, 0, 0, 0), some (.putfield 465, 3, 12, 63, 740), none, none, some (.iconst 0, 1, 0, 0, 0), some (.istore_n 1, 1, 0, 0, 0), some (.iload_n 1, 1, 0, 0, 0), some (.bipush 8, 2, 0, 0, 0), none, some (.if_icmp .ge 29, 3, 0, 0, 0), none, none, some (.aload_n 0, 1, 0, 0, 0), some (.iload_n 1, 1, 0, 0, 0), some (.invokevirtual 382, 3, 0, 100, 658), none, none, some (.ifCond .eq 15, 3, 0, 0, 0)],
  [none, some (.iinc 1 1, 3, 0, 0, 0), none, none, some (.goto (-29), 3, 0, 0, 0), none, none, some (.return_, 1, 0, 0, 0)]]
def xc_113 : List (List (Option xe_I)) := [[some (.aload_n 0, 1, 0, 0, 0), some (.iload_n 1, 1, 0, 0, 0), some (.invokevirtual 205, 3, 0, 101, 646), none, none, some (.ifCond .eq 40, 3, 0, 0, 0)],
  [none, none, none, none, none, none, none, none, none, none, none, none, none, some (.iconst (-1), 1, 0, 0, 0), some (.ireturn, 1, 0, 0, 0)]]
def xc_114 : List (List (Option xe_I)) := [[some (.aload_n 0, 1, 0, 0, 0), some (.iload_n 1, 1, 0, 0, 0), some (.invokevirtual 205, 3, 0, 101, 646), none, none, some (.ifCond .eq 10, 3, 0, 0, 0), none, none, none, none, none, none, none, none, none, some (.iconst 0, 1, 0, 0, 0), some (.ireturn, 1, 0, 0, 0)]]
def xc_115 : List (List (Option xe_I)) := [[some (.iconst 0, 1, 0, 0, 0), some (.istore_n 1, 1, 0, 0, 0), some (.iload_n 1, 1, 0, 0, 0), some (.bipush 32, 2, 0, 0, 0), none, some (.if_icmp .ge 91, 3, 0, 0, 0), none, none, some (.aload_n 0, 1, 0, 0, 0), some (.iload_n 1, 1, 0, 0, 0), some (.invokevirtual 205, 3, 0, 101, 646), none, none, some (.ifCond .ne 6, 3, 0, 0, 0), none, none, some (.goto 74, 3, 0, 0, 0)],
  [],
  [none, none, none, none, none, none, none, none, none, none, none, none, none, none, none, none, none, none, none, none, none, none, none, none, none, none, some (.iinc 1 1, 3, 0, 0, 0), none, none, some (.goto (-91), 3, 0, 0, 0)],
  [some (.aload_n 0, 1, 0, 0, 0), some (.invokevirtual 424, 3, 0, 134, 656), none, none, some (.ireturn, 1, 0, 0, 0)]]
def xc_116 : List (List (Option xe_I)) := [[some (.iload_n 1, 1, 0, 0, 0), some (.iconst 2, 1, 0, 0, 0), some (.bipush 12, 2, 0, 0, 0), none, some (.invokestatic 201, 3, 0, 97, 657), none, none, some (.ifCond .eq 21, 3, 0, 0, 0), none, none, some (.iload 4, 2, 0, 0, 0), none, some (.iconst 0, 1, 0, 0, 0), some (.iconst 3, 1, 0, 0, 0), some (.invokestatic 201, 3, 0, 97, 657), none, none, some (.ifCond .eq 11, 3, 0, 0, 0), none, none, some (.iload_n 1, 1, 0, 0, 0), some (.aload_n 0, 1, 0, 0, 0), some (.getfield 194, 3, 12, 17, 653), none, none, some (.if_icmp .le 7, 3, 0, 0, 0), none, none, some (.ldc2_w 447, 3, 0, 9223372036854775807, 670), none, none, some (.lreturn, 1, 0, 0, 0)]]
def xc_117 : List (List (Option xe_I)) := [[some (.iload_n 1, 1, 0, 0, 0), some (.iconst 0, 1, 0, 0, 0), some (.ldc_w 515, 3, 0, 2147549183, 741), none, none, some (.invokestatic 201, 3, 0, 97, 657), none, none, some (.ifCond .ne 5, 3, 0, 0, 0), none, none, some (.iconst 0, 1, 0, 0, 0), some (.ireturn, 1, 0, 0, 0), some (.aload_n 0, 1, 0, 0, 0), some (.getfield 7, 3, 12, 2, 650), none, none, some (.bipush 41, 2, 0, 0, 0), none, some (.iload_n 1, 1, 0, 0, 0), some (.iastore, 1, 0, 0, 0), some (.iconst 1, 1, 0, 0, 0), some (.ireturn, 1, 0, 0, 0)]]
def xc_118 : List (List (Option xe_I)) := [[some (.iload_n 1, 1, 0, 0, 0), some (.iconst 0, 1, 0, 0, 0), some (.iconst 3, 1, 0, 0, 0), some (.invokestatic 201, 3, 0, 97, 657), none, none, some (.ifCond .eq 21, 3, 0, 0, 0), none, none, some (.iload_n 2, 1, 0, 0, 0), some (.iconst 0, 1, 0, 0, 0), some (.iconst 3, 1, 0, 0, 0), some (.invokestatic 201, 3, 0, 97, 657), none, none, some (.ifCond .eq 12, 3, 0, 0, 0), none, none, some (.iload_n 3, 1, 0, 0, 0), some (.iconst 0, 1, 0, 0, 0), some (.iconst 2, 1, 0, 0, 0), some (.invokestatic 201, 3, 0, 97, 657), none, none, some (.ifCond .ne 5, 3, 0, 0, 0), none, none, some (.iconst (-1), 1, 0, 0, 0), some (.ireturn, 1, 0, 0, 0), some (.iload_n 1, 1, 0, 0, 0), some (.iload_n 2, 1, 0, 0, 0), some (.invokestatic 506, 3, 0, 123, 742)],
  [none, none, some (.istore 4, 2, 0, 0, 0), none, some (.iload_n 1, 1, 0, 0, 0), some (.iload_n 2, 1, 0, 0, 0), some (.iconst 2, 1, 0, 0, 0), some (.if_icmp .ge 9, 3, 0, 0, 0), none, none, some (.iconst 1, 1, 0, 0, 0), some (.iload_n 2, 1, 0, 0, 0), some (.isub, 1, 0, 0, 0), some (.goto 4, 3, 0, 0, 0), none, none, some (.iload_n 2, 1, 0, 0, 0), some (.invokestatic 506, 3, 0, 123, 742), none, none, some (.istore 5, 2, 0, 0, 0), none, some (.iload_n 3, 1, 0, 0, 0), some (.ifCond .ne 8, 3, 0, 0, 0), none, none, some (.iload 4, 2, 0, 0, 0), none, some (.goto 18, 3, 0, 0, 0), none, none, some (.iload_n 3, 1, 0, 0, 0)],
  [some (.iconst 1, 1, 0, 0, 0), some (.if_icmp .ne 8, 3, 0, 0, 0), none, none, some (.iload 5, 2, 0, 0, 0), none, some (.goto 8, 3, 0, 0, 0), none, none, some (.iload 4, 2, 0, 0, 0), none, some (.iload 5, 2, 0, 0, 0), none, some (.ior, 1, 0, 0, 0), some (.ireturn, 1, 0, 0, 0)]]
def xc_119 : List (List (Option xe_I)) := [[some (.aload_n 0, 1, 0, 0, 0), some (.iload_n 1, 1, 0, 0, 0), some (.invokevirtual 205, 3, 0, 101, 646), none, none, some (.ifCond .eq 21, 3, 0, 0, 0), none, none, none, none, none, none, none, none, none, none, none, none, none, none, none, none, none, none, none, none, some (.iconst (-1), 1, 0, 0, 0), some (.ireturn, 1, 0, 0, 0)]]
def xc_120 : List (List (Option xe_I)) := [[some (.iload_n 1, 1, 0, 0, 0), some (.iconst 0, 1, 0, 0, 0), some (.bipush 31, 2, 0, 0, 0), none, some (.invokestatic 201, 3, 0, 97, 657), none, none, some (.ifCond .eq 41, 3, 0, 0, 0), none, none, some (.iload_n 2, 1, 0, 0, 0), some (.iconst 0, 1, 0, 0, 0), some (.iconst 3, 1, 0, 0, 0), some (.invokestatic 201, 3, 0, 97, 657), none, none, some (.ifCond .eq 32, 3, 0, 0, 0), none, none, some (.iload_n 3, 1, 0, 0, 0), some (.iconst 0, 1, 0, 0, 0), some (.iconst 3, 1, 0, 0, 0), some (.invokestatic 201, 3, 0, 97, 657), none, none, some (.ifCond .eq 23, 3, 0, 0, 0), none, none, some (.iload 4, 2, 0, 0, 0), none, some (.iconst 0, 1, 0, 0, 0), some (.bipush 99, 2, 0, 0, 0)],
  [none, some (.invokestatic 201, 3, 0, 97, 657), none, none, some (.ifCond .eq 12, 3, 0, 0, 0), none, none, some (.aload_n 0, 1, 0, 0, 0), some (.getfield 194, 3, 12, 17, 653), none, none, some (.bipush 25, 2, 0, 0, 0), none, some (.if_icmp .ge 5, 3, 0, 0, 0), none, none, some (.iconst 0, 1, 0, 0, 0), some (.ireturn, 1, 0, 0, 0)]]
def xc_121 : List (List (Option xe_I)) := [[some (.aload_n 0, 1, 0, 0, 0), some (.iload_n 1, 1, 0, 0, 0), some (.invokevirtual 205, 3, 0, 101, 646), none, none, some (.ifCond .ne 5, 3, 0, 0, 0), none, none, some (.iconst (-1), 1, 0, 0, 0), some (.ireturn, 1, 0, 0, 0)]]
def xc_122 : List (List (Option xe_I)) := [[some (.iload_n 1, 1, 0, 0, 0), some (.iconst 2, 1, 0, 0, 0), some (.bipush 12, 2, 0, 0, 0), none, some (.invokestatic 201, 3, 0, 97, 657), none, none, some (.ifCond .eq 11, 3, 0, 0, 0), none, none, some (.iload_n 1, 1, 0, 0, 0), some (.aload_n 0, 1, 0, 0, 0), some (.getfield 194, 3, 12, 17, 653), none, none, some (.if_icmp .le 7, 3, 0, 0, 0), none, none, some (.ldc2_w 447, 3, 0, 9223372036854775807, 670), none, none, some (.lreturn, 1, 0, 0, 0)]]
def xc_123 : List (List (Option xe_I)) := [[some (.iload_n 1, 1, 0, 0, 0), some (.ifCond .ne 9, 3, 0, 0, 0), none, none, some (.iload_n 0, 1, 0, 0, 0), some (.iconst 3, 1, 0, 0, 0), some (.iadd, 1, 0, 0, 0), some (.goto 26, 3, 0, 0, 0), none, none, some (.iload_n 1, 1, 0, 0, 0), some (.iconst 1, 1, 0, 0, 0), some (.if_icmp .ne 9, 3, 0, 0, 0), none, none, some (.iload_n 0, 1, 0, 0, 0), some (.iconst 1, 1, 0, 0, 0), some (.iadd, 1, 0, 0, 0), some (.goto 15, 3, 0, 0, 0), none, none, some (.iload_n 1, 1, 0, 0, 0), some (.iconst 2, 1, 0, 0, 0), some (.if_icmp .ne 9, 3, 0, 0, 0), none, none, some (.iload_n 0, 1, 0, 0, 0), some (.iconst 2, 1, 0, 0, 0), some (.iadd, 1, 0, 0, 0), some (.goto 4, 3, 0, 0, 0)],
  [some (.iload_n 0, 1, 0, 0, 0), some (.istore_n 2, 1, 0, 0, 0), some (.iload_n 2, 1, 0, 0, 0), some (.iconst 2, 1, 0, 0, 0), some (.iadd, 1, 0, 0, 0), some (.iconst 4, 1, 0, 0, 0), some (.irem, 1, 0, 0, 0), some (.istore_n 3, 1, 0, 0, 0), some (.iload_n 3, 1, 0, 0, 0), some (.iconst 1, 1, 0, 0, 0), some (.if_icmp .ne 7, 3, 0, 0, 0), none, none, some (.iconst 1, 1, 0, 0, 0), some (.goto 22, 3, 0, 0, 0), none, none, some (.iload_n 3, 1, 0, 0, 0), some (.iconst 2, 1, 0, 0, 0), some (.if_icmp .ne 7, 3, 0, 0, 0), none, none, some (.iconst 2, 1, 0, 0, 0), some (.goto 13, 3, 0, 0, 0), none, none, some (.iload_n 3, 1, 0, 0, 0), some (.iconst 3, 1, 0, 0, 0), some (.if_icmp .ne 7, 3, 0, 0, 0), none, none, some (.iconst 4, 1, 0, 0, 0)],
  [some (.goto 4, 3, 0, 0, 0), none, none, some (.iconst 0, 1, 0, 0, 0), some (.ireturn, 1, 0, 0, 0)]]
def xc_124 : List (List (Option xe_I)) := [[some (.aload_n 0, 1, 0, 0, 0), some (.iload_n 1, 1, 0, 0, 0), some (.invokevirtual 205, 3, 0, 101, 646), none, none, some (.ifCond .eq 12, 3, 0, 0, 0), none, none, none, none, none, none, none, none, none, none, none, some (.iconst 0, 1, 0, 0, 0), some (.ireturn, 1, 0, 0, 0)]]
def xc_125 : List (List (Option xe_I)) := [[some (.iconst 0, 1, 0, 0, 0), some (.istore_n 1, 1, 0, 0, 0), some (.iconst 0, 1, 0, 0, 0), some (.istore_n 2, 1, 0, 0, 0), some (.iload_n 2, 1, 0, 0, 0), some (.bipush 32, 2, 0, 0, 0), none, some (.if_icmp .ge 35, 3, 0, 0, 0), none, none, some (.iload_n 1, 1, 0, 0, 0), some (.aload_n 0, 1, 0, 0, 0), some (.iload_n 2, 1, 0, 0, 0), some (.invokevirtual 205, 3, 0, 101, 646), none, none, some (.ifCond .eq 17, 3, 0, 0, 0)],
  [none, some (.iconst 0, 1, 0, 0, 0), some (.iadd, 1, 0, 0, 0), some (.istore_n 1, 1, 0, 0, 0), some (.iinc 2 1, 3, 0, 0, 0), none, none, some (.goto (-35), 3, 0, 0, 0), none, none, some (.iload_n 1, 1, 0, 0, 0), some (.ireturn, 1, 0, 0, 0)]]
def xc_126 : List (List (Option xe_I)) := [[some (.lload_n 0, 1, 0, 0, 0), some (.lload_n 2, 1, 0, 0, 0), some (.invokestatic 430, 3, 0, 92, 743), none, none, some (.lstore 5, 2, 0, 0, 0), none, some (.iload 4, 2, 0, 0, 0), none, some (.ifCond .ne 10, 3, 0, 0, 0), none, none, some (.lload_n 0, 1, 0, 0, 0), some (.lload 5, 2, 0, 0, 0), none, some (.ldiv, 1, 0, 0, 0), some (.goto 7, 3, 0, 0, 0), none, none, some (.lload_n 2, 1, 0, 0, 0), some (.lload 5, 2, 0, 0, 0), none, some (.ldiv, 1, 0, 0, 0), some (.lreturn, 1, 0, 0, 0)]]
def xc_127 : List (List (Option xe_I)) := [[some (.aload_n 0, 1, 0, 0, 0), some (.iload_n 1, 1, 0, 0, 0), some (.invokevirtual 205, 3, 0, 101, 646), none, none, some (.ifCond .eq 24, 3, 0, 0, 0), none, none, none, none, none, none, none, none, none, none, none, none, none, none, none, none, none, none, none, none, none, none, none, some (.ldc2_w 447, 3, 0, 9223372036854775807, 670)],
  [some (.lreturn, 1, 0, 0, 0)]]
def xc_128 : List (List (Option xe_I)) := [[some (.iload_n 1, 1, 0, 0, 0), some (.iconst 1, 1, 0, 0, 0), some (.bipush 120, 2, 0, 0, 0), none, some (.invokestatic 201, 3, 0, 97, 657), none, none, some (.ifCond .eq 11, 3, 0, 0, 0), none, none, some (.iload_n 1, 1, 0, 0, 0), some (.aload_n 0, 1, 0, 0, 0), some (.getfield 194, 3, 12, 17, 653), none, none, some (.if_icmp .le 5, 3, 0, 0, 0), none, none, some (.iconst (-1), 1, 0, 0, 0), some (.ireturn, 1, 0, 0, 0)]]
def xc_129 : List (List (Option xe_I)) := [[some (.iload_n 1, 1, 0, 0, 0), some (.iconst 0, 1, 0, 0, 0), some (.bipush 7, 2, 0, 0, 0), none, some (.invokestatic 201, 3, 0, 97, 657), none, none, some (.ifCond .ne 5, 3, 0, 0, 0), none, none, some (.iconst (-1), 1, 0, 0, 0), some (.ireturn, 1, 0, 0, 0), some (.aload_n 0, 1, 0, 0, 0), some (.getfield 7, 3, 12, 2, 650), none, none, some (.aload_n 0, 1, 0, 0, 0), some (.getfield 13, 3, 12, 3, 672), none, none, some (.bipush 42, 2, 0, 0, 0), none, some (.invokestatic 292, 3, 0, 84, 733), none, none, some (.aload_n 0, 1, 0, 0, 0), some (.invokevirtual 421, 3, 0, 93, 662), none, none, some (.aload_n 0, 1, 0, 0, 0), some (.iload_n 1, 1, 0, 0, 0), some (.invokevirtual 427, 3, 0, 130, 744)],
  [none, none, some (.istore_n 2, 1, 0, 0, 0), some (.aload_n 0, 1, 0, 0, 0), some (.getfield 13, 3, 12, 3, 672), none, none, some (.aload_n 0, 1, 0, 0, 0), some (.getfield 7, 3, 12, 2, 650), none, none, some (.bipush 42, 2, 0, 0, 0), none, some (.invokestatic 292, 3, 0, 84, 733), none, none, some (.aload_n 0, 1, 0, 0, 0), some (.iconst 0, 1, 0, 0, 0), some (.putfield 372, 3, 12, 49, 663), none, none, some (.iload_n 2, 1, 0, 0, 0), some (.ireturn, 1, 0, 0, 0)]]
def xc_130 : List (List (Option xe_I)) := [[some (.iload_n 1, 1, 0, 0, 0), some (.tableswitch 109 0 6 #[43, 48, 53, 58, 63, 68, 73], 43, 0, 0, 0)],
  [none, none, none, none, none, none, none, none, none, none, none, none, some (.aload_n 0, 1, 0, 0, 0), some (.getfield 415, 3, 12, 50, 664), none, none, some (.ireturn, 1, 0, 0, 0), some (.aload_n 0, 1, 0, 0, 0), some (.getfield 372, 3, 12, 49, 663), none, none, some (.ireturn, 1, 0, 0, 0), some (.aload_n 0, 1, 0, 0, 0), some (.getfield 403, 3, 12, 51, 666), none, none, some (.ireturn, 1, 0, 0, 0), some (.aload_n 0, 1, 0, 0, 0), some (.getfield 394, 3, 12, 52, 667), none, none, some (.ireturn, 1, 0, 0, 0)],
  [some (.aload_n 0, 1, 0, 0, 0), some (.getfield 397, 3, 12, 53, 668), none, none, some (.ireturn, 1, 0, 0, 0), some (.aload_n 0, 1, 0, 0, 0), some (.getfield 409, 3, 12, 54, 669), none, none, some (.ireturn, 1, 0, 0, 0), some (.iconst 0, 1, 0, 0, 0), some (.istore_n 2, 1, 0, 0, 0), some (.iconst 0, 1, 0, 0, 0), some (.istore_n 3, 1, 0, 0, 0), some (.iload_n 3, 1, 0, 0, 0), some (.bipush 8, 2, 0, 0, 0), none, some (.if_icmp .ge 27, 3, 0, 0, 0), none, none, some (.aload_n 0, 1, 0, 0, 0), some (.getfield 7, 3, 12, 2, 650), none, none, some (.bipush 32, 2, 0, 0, 0), none, some (.iload_n 3, 1, 0, 0, 0), some (.iadd, 1, 0, 0, 0), some (.iaload, 1, 0, 0, 0), some (.ifCond .le 9, 3, 0, 0, 0)],
  [none, none, none, none, none, none, some (.iinc 3 1, 3, 0, 0, 0), none, none, some (.goto (-27), 3, 0, 0, 0), none, none, some (.iload_n 2, 1, 0, 0, 0), some (.ireturn, 1, 0, 0, 0), some (.aload_n 0, 1, 0, 0, 0), some (.invokevirtual 424, 3, 0, 134, 656), none, none, some (.ireturn, 1, 0, 0, 0)]]
def xc_131 : List (List (Option xe_I)) := [[some (.iconst 3, 1, 0, 0, 0), some (.istore_n 2, 1, 0, 0, 0), some (.iload_n 2, 1, 0, 0, 0), some (.ifCond .lt 35, 3, 0, 0, 0), none, none, some (.aload_n 0, 1, 0, 0, 0), some (.getfield 53, 3, 12, 16, 685), none, none, some (.aload_n 0, 1, 0, 0, 0), some (.getfield 194, 3, 12, 17, 653), none, none, some (.iload_n 1, 1, 0, 0, 0), some (.bipush 8, 2, 0, 0, 0), none, some (.iload_n 2, 1, 0, 0, 0), some (.imul, 1, 0, 0, 0), some (.ishr, 1, 0, 0, 0), some (.i2b, 1, 0, 0, 0), some (.bastore, 1, 0, 0, 0), some (.aload_n 0, 1, 0, 0, 0), some (.aload_n 0, 1, 0, 0, 0), some (.getfield 194, 3, 12, 17, 653), none, none, some (.iconst 1, 1, 0, 0, 0), some (.iadd, 1, 0, 0, 0), some (.putfield 194, 3, 12, 17, 653)],
  [some (.iinc 2 (-1), 3, 0, 0, 0), none, none, some (.goto (-33), 3, 0, 0, 0), none, none, some (.return_, 1, 0, 0, 0)]]
def xc_132 : List (List (Option xe_I)) := [[some (.aload_n 0, 1, 0, 0, 0), some (.getfield 516, 3, 12, 72, 728), none, none, some (.ifCond .ne 5, 3, 0, 0, 0), none, none, some (.iconst 0, 1, 0, 0, 0), some (.ireturn, 1, 0, 0, 0)]]
def xc_133 : List (List (Option xe_I)) := [[some (.iload_n 1, 1, 0, 0, 0), some (.invokestatic 209, 3, 0, 102, 745), none, none, some (.ifCond .eq 19, 3, 0, 0, 0), none, none, some (.iload_n 2, 1, 0, 0, 0), some (.invokestatic 209, 3, 0, 102, 745), none, none, some (.ifCond .eq 12, 3, 0, 0, 0), none, none, some (.iload_n 3, 1, 0, 0, 0), some (.iconst 0, 1, 0, 0, 0), some (.iconst 2, 1, 0, 0, 0), some (.invokestatic 201, 3, 0, 97, 657), none, none, some (.ifCond .ne 5, 3, 0, 0, 0), none, none, some (.iconst (-1), 1, 0, 0, 0), some (.ireturn, 1, 0, 0, 0), some (.iload_n 3, 1, 0, 0, 0), some (.ifCond .ne 11, 3, 0, 0, 0), none, none, some (.iload_n 1, 1, 0, 0, 0), some (.iload_n 2, 1, 0, 0, 0), some (.invokestatic 218, 3, 0, 81, 746)],
  [none, none, some (.goto 23, 3, 0, 0, 0), none, none, some (.iload_n 3, 1, 0, 0, 0), some (.iconst 1, 1, 0, 0, 0), some (.if_icmp .ne 10, 3, 0, 0, 0), none, none, some (.iload_n 1, 1, 0, 0, 0), some (.invokestatic 222, 3, 0, 79, 747), none, none, some (.goto 11, 3, 0, 0, 0), none, none, some (.iload_n 1, 1, 0, 0, 0), some (.invokestatic 222, 3, 0, 79, 747), none, none, some (.iload_n 2, 1, 0, 0, 0), some (.invokestatic 218, 3, 0, 81, 746), none, none, some (.ireturn, 1, 0, 0, 0)]]
def xc_134 : List (List (Option xe_I)) := [[some (.iconst 0, 1, 0, 0, 0), some (.istore_n 1, 1, 0, 0, 0), some (.iconst 0, 1, 0, 0, 0), some (.istore_n 2, 1, 0, 0, 0), some (.iload_n 2, 1, 0, 0, 0), some (.bipush 32, 2, 0, 0, 0), none, some (.if_icmp .ge 33, 3, 0, 0, 0), none, none, some (.iload_n 1, 1, 0, 0, 0), some (.aload_n 0, 1, 0, 0, 0), some (.iload_n 2, 1, 0, 0, 0), some (.invokevirtual 205, 3, 0, 101, 646), none, none, some (.ifCond .eq 15, 3, 0, 0, 0), none, none, none, none, none, none, none, none, none, none, none, none, none, none, some (.iconst 0, 1, 0, 0, 0)],
  [some (.iadd, 1, 0, 0, 0), some (.istore_n 1, 1, 0, 0, 0), some (.iinc 2 1, 3, 0, 0, 0), none, none, some (.goto (-33), 3, 0, 0, 0), none, none, some (.iload_n 1, 1, 0, 0, 0), some (.ireturn, 1, 0, 0, 0)]]
def xc_135 : List (List (Option xe_I)) := [[some (.new 7, 3, 11, 0, 748), none, none, some (.dup, 1, 0, 0, 0), some (.invokespecial 9, 3, 0, 42, 749), none, none, some (.astore_n 1, 1, 0, 0, 0), some (.new 10, 3, 12, 0, 750), none, none, some (.dup, 1, 0, 0, 0), some (.invokespecial 12, 3, 0, 99, 751), none, none, some (.astore_n 2, 1, 0, 0, 0), some (.iconst 0, 1, 0, 0, 0), some (.istore_n 3, 1, 0, 0, 0), some (.iload_n 3, 1, 0, 0, 0), some (.aload_n 0, 1, 0, 0, 0), some (.arraylength, 1, 0, 0, 0), some (.bipush 6, 2, 0, 0, 0), none, some (.isub, 1, 0, 0, 0), some (.if_icmp .gt 1302, 3, 0, 0, 0), none, none, some (.aload_n 0, 1, 0, 0, 0), some (.iload_n 3, 1, 0, 0, 0), some (.iaload, 1, 0, 0, 0), some (.bipush 63, 2, 0, 0, 0)],
  [some (.iand, 1, 0, 0, 0), some (.tableswitch 1287 0 34 #[155, 218, 271, 304, 337, 360, 403, 426, 449, 472, 515, 558, 591, 614, 627, 650, 703, 737, 771, 804, 837, 871, 904, 938, 992, 1035, 1068, 1101, 1145, 1169, 1182, 1205, 1218, 1231, 1264], 155, 0, 0, 0)],
  [],
  [],
  [],
  [none, none, none, none, none, none, none, none, none, none, none, none, none, none, none, none, none, none, none, none, none, none, none, none, none, none, none, none, some (.aload_n 1, 1, 0, 0, 0), some (.aload_n 0, 1, 0, 0, 0), some (.iload_n 3, 1, 0, 0, 0), some (.iconst 1, 1, 0, 0, 0)],
  [some (.iadd, 1, 0, 0, 0), some (.iaload, 1, 0, 0, 0), some (.aload_n 0, 1, 0, 0, 0), some (.iload_n 3, 1, 0, 0, 0), some (.iconst 2, 1, 0, 0, 0), some (.iadd, 1, 0, 0, 0), some (.iaload, 1, 0, 0, 0), some (.aload_n 0, 1, 0, 0, 0), some (.iload_n 3, 1, 0, 0, 0), some (.iconst 3, 1, 0, 0, 0), some (.iadd, 1, 0, 0, 0), some (.iaload, 1, 0, 0, 0), some (.aload_n 0, 1, 0, 0, 0), some (.iload_n 3, 1, 0, 0, 0), some (.iconst 4, 1, 0, 0, 0), some (.iadd, 1, 0, 0, 0), some (.iaload, 1, 0, 0, 0), some (.aload_n 0, 1, 0, 0, 0), some (.iload_n 3, 1, 0, 0, 0), some (.iconst 5, 1, 0, 0, 0), some (.iadd, 1, 0, 0, 0), some (.iaload, 1, 0, 0, 0), some (.invokevirtual 13, 3, 0, 38, 752), none, none, some (.aload_n 2, 1, 0, 0, 0), some (.aload_n 0, 1, 0, 0, 0), some (.iload_n 3, 1, 0, 0, 0), some (.iconst 1, 1, 0, 0, 0), some (.iadd, 1, 0, 0, 0), some (.iaload, 1, 0, 0, 0), some (.aload_n 0, 1, 0, 0, 0)],
  [some (.iload_n 3, 1, 0, 0, 0), some (.iconst 2, 1, 0, 0, 0), some (.iadd, 1, 0, 0, 0), some (.iaload, 1, 0, 0, 0), some (.aload_n 0, 1, 0, 0, 0), some (.iload_n 3, 1, 0, 0, 0), some (.iconst 3, 1, 0, 0, 0), some (.iadd, 1, 0, 0, 0), some (.iaload, 1, 0, 0, 0), some (.aload_n 0, 1, 0, 0, 0), some (.iload_n 3, 1, 0, 0, 0), some (.iconst 4, 1, 0, 0, 0), some (.iadd, 1, 0, 0, 0), some (.iaload, 1, 0, 0, 0), some (.aload_n 0, 1, 0, 0, 0), some (.iload_n 3, 1, 0, 0, 0), some (.iconst 5, 1, 0, 0, 0), some (.iadd, 1, 0, 0, 0), some (.iaload, 1, 0, 0, 0), some (.invokevirtual 17, 3, 0, 91, 753), none, none, some (.if_icmp .eq 1074, 3, 0, 0, 0), none, none, none, none, some (.aload_n 1, 1, 0, 0, 0), some (.aload_n 0, 1, 0, 0, 0), some (.iload_n 3, 1, 0, 0, 0), some (.iconst 1, 1, 0, 0, 0), some (.iadd, 1, 0, 0, 0)],
  [some (.iaload, 1, 0, 0, 0), some (.aload_n 0, 1, 0, 0, 0), some (.iload_n 3, 1, 0, 0, 0), some (.iconst 2, 1, 0, 0, 0), some (.iadd, 1, 0, 0, 0), some (.iaload, 1, 0, 0, 0), some (.aload_n 0, 1, 0, 0, 0), some (.iload_n 3, 1, 0, 0, 0), some (.iconst 3, 1, 0, 0, 0), some (.iadd, 1, 0, 0, 0), some (.iaload, 1, 0, 0, 0), some (.aload_n 0, 1, 0, 0, 0), some (.iload_n 3, 1, 0, 0, 0), some (.iconst 4, 1, 0, 0, 0), some (.iadd, 1, 0, 0, 0), some (.iaload, 1, 0, 0, 0), some (.invokevirtual 18, 3, 0, 62, 754), none, none, some (.aload_n 2, 1, 0, 0, 0), some (.aload_n 0, 1, 0, 0, 0), some (.iload_n 3, 1, 0, 0, 0), some (.iconst 1, 1, 0, 0, 0), some (.iadd, 1, 0, 0, 0), some (.iaload, 1, 0, 0, 0), some (.aload_n 0, 1, 0, 0, 0), some (.iload_n 3, 1, 0, 0, 0), some (.iconst 2, 1, 0, 0, 0), some (.iadd, 1, 0, 0, 0), some (.iaload, 1, 0, 0, 0), some (.aload_n 0, 1, 0, 0, 0), some (.iload_n 3, 1, 0, 0, 0)],
  [some (.iconst 3, 1, 0, 0, 0), some (.iadd, 1, 0, 0, 0), some (.iaload, 1, 0, 0, 0), some (.aload_n 0, 1, 0, 0, 0), some (.iload_n 3, 1, 0, 0, 0), some (.iconst 4, 1, 0, 0, 0), some (.iadd, 1, 0, 0, 0), some (.iaload, 1, 0, 0, 0), some (.invokevirtual 22, 3, 0, 120, 755), none, none, some (.if_icmp .eq 1021, 3, 0, 0, 0), none, none, none, none, some (.aload_n 1, 1, 0, 0, 0), some (.aload_n 0, 1, 0, 0, 0), some (.iload_n 3, 1, 0, 0, 0), some (.iconst 1, 1, 0, 0, 0), some (.iadd, 1, 0, 0, 0), some (.iaload, 1, 0, 0, 0), some (.aload_n 0, 1, 0, 0, 0), some (.iload_n 3, 1, 0, 0, 0), some (.iconst 2, 1, 0, 0, 0), some (.iadd, 1, 0, 0, 0), some (.iaload, 1, 0, 0, 0), some (.invokevirtual 23, 3, 0, 56, 756), none, none, some (.aload_n 2, 1, 0, 0, 0), some (.aload_n 0, 1, 0, 0, 0)],
  [some (.iload_n 3, 1, 0, 0, 0), some (.iconst 1, 1, 0, 0, 0), some (.iadd, 1, 0, 0, 0), some (.iaload, 1, 0, 0, 0), some (.aload_n 0, 1, 0, 0, 0), some (.iload_n 3, 1, 0, 0, 0), some (.iconst 2, 1, 0, 0, 0), some (.iadd, 1, 0, 0, 0), some (.iaload, 1, 0, 0, 0), some (.invokevirtual 27, 3, 0, 114, 757), none, none, some (.if_icmp .eq 988, 3, 0, 0, 0), none, none, none, none, some (.aload_n 1, 1, 0, 0, 0), some (.aload_n 0, 1, 0, 0, 0), some (.iload_n 3, 1, 0, 0, 0), some (.iconst 1, 1, 0, 0, 0), some (.iadd, 1, 0, 0, 0), some (.iaload, 1, 0, 0, 0), some (.aload_n 0, 1, 0, 0, 0), some (.iload_n 3, 1, 0, 0, 0), some (.iconst 2, 1, 0, 0, 0), some (.iadd, 1, 0, 0, 0), some (.iaload, 1, 0, 0, 0), some (.invokevirtual 28, 3, 0, 35, 758), none, none, some (.aload_n 2, 1, 0, 0, 0)],
  [some (.aload_n 0, 1, 0, 0, 0), some (.iload_n 3, 1, 0, 0, 0), some (.iconst 1, 1, 0, 0, 0), some (.iadd, 1, 0, 0, 0), some (.iaload, 1, 0, 0, 0), some (.aload_n 0, 1, 0, 0, 0), some (.iload_n 3, 1, 0, 0, 0), some (.iconst 2, 1, 0, 0, 0), some (.iadd, 1, 0, 0, 0), some (.iaload, 1, 0, 0, 0), some (.invokevirtual 31, 3, 0, 88, 759), none, none, some (.if_icmp .eq 955, 3, 0, 0, 0), none, none, none, none, some (.aload_n 1, 1, 0, 0, 0), some (.aload_n 0, 1, 0, 0, 0), some (.iload_n 3, 1, 0, 0, 0), some (.iconst 1, 1, 0, 0, 0), some (.iadd, 1, 0, 0, 0), some (.iaload, 1, 0, 0, 0), some (.invokevirtual 32, 3, 0, 39, 760), none, none, some (.aload_n 2, 1, 0, 0, 0), some (.aload_n 0, 1, 0, 0, 0), some (.iload_n 3, 1, 0, 0, 0), some (.iconst 1, 1, 0, 0, 0), some (.iadd, 1, 0, 0, 0)],
  [some (.iaload, 1, 0, 0, 0), some (.invokevirtual 36, 3, 0, 94, 761), none, none, some (.if_icmp .eq 932, 3, 0, 0, 0), none, none, none, none, some (.aload_n 1, 1, 0, 0, 0), some (.aload_n 0, 1, 0, 0, 0), some (.iload_n 3, 1, 0, 0, 0), some (.iconst 1, 1, 0, 0, 0), some (.iadd, 1, 0, 0, 0), some (.iaload, 1, 0, 0, 0), some (.aload_n 0, 1, 0, 0, 0), some (.iload_n 3, 1, 0, 0, 0), some (.iconst 2, 1, 0, 0, 0), some (.iadd, 1, 0, 0, 0), some (.iaload, 1, 0, 0, 0), some (.aload_n 0, 1, 0, 0, 0), some (.iload_n 3, 1, 0, 0, 0), some (.iconst 3, 1, 0, 0, 0), some (.iadd, 1, 0, 0, 0), some (.iaload, 1, 0, 0, 0), some (.invokevirtual 37, 3, 0, 53, 762), none, none, some (.aload_n 2, 1, 0, 0, 0), some (.aload_n 0, 1, 0, 0, 0), some (.iload_n 3, 1, 0, 0, 0), some (.iconst 1, 1, 0, 0, 0)],
  [some (.iadd, 1, 0, 0, 0), some (.iaload, 1, 0, 0, 0), some (.aload_n 0, 1, 0, 0, 0), some (.iload_n 3, 1, 0, 0, 0), some (.iconst 2, 1, 0, 0, 0), some (.iadd, 1, 0, 0, 0), some (.iaload, 1, 0, 0, 0), some (.aload_n 0, 1, 0, 0, 0), some (.iload_n 3, 1, 0, 0, 0), some (.iconst 3, 1, 0, 0, 0), some (.iadd, 1, 0, 0, 0), some (.iaload, 1, 0, 0, 0), some (.invokevirtual 41, 3, 0, 111, 763), none, none, some (.if_icmp .eq 889, 3, 0, 0, 0), none, none, none, none, some (.aload_n 1, 1, 0, 0, 0), some (.aload_n 0, 1, 0, 0, 0), some (.iload_n 3, 1, 0, 0, 0), some (.iconst 1, 1, 0, 0, 0), some (.iadd, 1, 0, 0, 0), some (.iaload, 1, 0, 0, 0), some (.invokevirtual 42, 3, 0, 47, 764), none, none, some (.aload_n 2, 1, 0, 0, 0), some (.aload_n 0, 1, 0, 0, 0), some (.iload_n 3, 1, 0, 0, 0)],
  [some (.iconst 1, 1, 0, 0, 0), some (.iadd, 1, 0, 0, 0), some (.iaload, 1, 0, 0, 0), some (.invokevirtual 45, 3, 0, 105, 765), none, none, some (.if_icmp .eq 866, 3, 0, 0, 0), none, none, none, none, some (.aload_n 1, 1, 0, 0, 0), some (.aload_n 0, 1, 0, 0, 0), some (.iload_n 3, 1, 0, 0, 0), some (.iconst 1, 1, 0, 0, 0), some (.iadd, 1, 0, 0, 0), some (.iaload, 1, 0, 0, 0), some (.invokevirtual 46, 3, 0, 70, 766), none, none, some (.aload_n 2, 1, 0, 0, 0), some (.aload_n 0, 1, 0, 0, 0), some (.iload_n 3, 1, 0, 0, 0), some (.iconst 1, 1, 0, 0, 0), some (.iadd, 1, 0, 0, 0), some (.iaload, 1, 0, 0, 0), some (.invokevirtual 50, 3, 0, 128, 767), none, none, some (.if_icmp .eq 843, 3, 0, 0, 0)],
  [none, none, some (.aload_n 1, 1, 0, 0, 0), some (.aload_n 0, 1, 0, 0, 0), some (.iload_n 3, 1, 0, 0, 0), some (.iconst 1, 1, 0, 0, 0), some (.iadd, 1, 0, 0, 0), some (.iaload, 1, 0, 0, 0), some (.invokevirtual 51, 3, 0, 48, 768), none, none, some (.aload_n 2, 1, 0, 0, 0), some (.aload_n 0, 1, 0, 0, 0), some (.iload_n 3, 1, 0, 0, 0), some (.iconst 1, 1, 0, 0, 0), some (.iadd, 1, 0, 0, 0), some (.iaload, 1, 0, 0, 0), some (.invokevirtual 54, 3, 0, 106, 769), none, none, some (.if_icmp .eq 820, 3, 0, 0, 0), none, none, none, none, some (.aload_n 1, 1, 0, 0, 0), some (.aload_n 0, 1, 0, 0, 0), some (.iload_n 3, 1, 0, 0, 0), some (.iconst 1, 1, 0, 0, 0), some (.iadd, 1, 0, 0, 0), some (.iaload, 1, 0, 0, 0), some (.aload_n 0, 1, 0, 0, 0)],
  [some (.iload_n 3, 1, 0, 0, 0), some (.iconst 2, 1, 0, 0, 0), some (.iadd, 1, 0, 0, 0), some (.iaload, 1, 0, 0, 0), some (.aload_n 0, 1, 0, 0, 0), some (.iload_n 3, 1, 0, 0, 0), some (.iconst 3, 1, 0, 0, 0), some (.iadd, 1, 0, 0, 0), some (.iaload, 1, 0, 0, 0), some (.invokevirtual 55, 3, 0, 76, 770), none, none, some (.aload_n 2, 1, 0, 0, 0), some (.aload_n 0, 1, 0, 0, 0), some (.iload_n 3, 1, 0, 0, 0), some (.iconst 1, 1, 0, 0, 0), some (.iadd, 1, 0, 0, 0), some (.iaload, 1, 0, 0, 0), some (.aload_n 0, 1, 0, 0, 0), some (.iload_n 3, 1, 0, 0, 0), some (.iconst 2, 1, 0, 0, 0), some (.iadd, 1, 0, 0, 0), some (.iaload, 1, 0, 0, 0), some (.aload_n 0, 1, 0, 0, 0), some (.iload_n 3, 1, 0, 0, 0), some (.iconst 3, 1, 0, 0, 0), some (.iadd, 1, 0, 0, 0), some (.iaload, 1, 0, 0, 0), some (.invokevirtual 59, 3, 0, 133, 771), none, none, some (.if_icmp .eq 777, 3, 0, 0, 0)],
  [none, none, none, none, some (.aload_n 1, 1, 0, 0, 0), some (.aload_n 0, 1, 0, 0, 0), some (.iload_n 3, 1, 0, 0, 0), some (.iconst 1, 1, 0, 0, 0), some (.iadd, 1, 0, 0, 0), some (.iaload, 1, 0, 0, 0), some (.aload_n 0, 1, 0, 0, 0), some (.iload_n 3, 1, 0, 0, 0), some (.iconst 2, 1, 0, 0, 0), some (.iadd, 1, 0, 0, 0), some (.iaload, 1, 0, 0, 0), some (.aload_n 0, 1, 0, 0, 0), some (.iload_n 3, 1, 0, 0, 0), some (.iconst 3, 1, 0, 0, 0), some (.iadd, 1, 0, 0, 0), some (.iaload, 1, 0, 0, 0), some (.invokevirtual 60, 3, 0, 61, 772), none, none, some (.aload_n 2, 1, 0, 0, 0), some (.aload_n 0, 1, 0, 0, 0), some (.iload_n 3, 1, 0, 0, 0), some (.iconst 1, 1, 0, 0, 0), some (.iadd, 1, 0, 0, 0), some (.iaload, 1, 0, 0, 0), some (.aload_n 0, 1, 0, 0, 0), some (.iload_n 3, 1, 0, 0, 0), some (.iconst 2, 1, 0, 0, 0)],
  [some (.iadd, 1, 0, 0, 0), some (.iaload, 1, 0, 0, 0), some (.aload_n 0, 1, 0, 0, 0), some (.iload_n 3, 1, 0, 0, 0), some (.iconst 3, 1, 0, 0, 0), some (.iadd, 1, 0, 0, 0), some (.iaload, 1, 0, 0, 0), some (.invokevirtual 63, 3, 0, 119, 773), none, none, some (.if_icmp .eq 734, 3, 0, 0, 0), none, none, none, none, some (.aload_n 1, 1, 0, 0, 0), some (.aload_n 0, 1, 0, 0, 0), some (.iload_n 3, 1, 0, 0, 0), some (.iconst 1, 1, 0, 0, 0), some (.iadd, 1, 0, 0, 0), some (.iaload, 1, 0, 0, 0), some (.aload_n 0, 1, 0, 0, 0), some (.iload_n 3, 1, 0, 0, 0), some (.iconst 2, 1, 0, 0, 0), some (.iadd, 1, 0, 0, 0), some (.iaload, 1, 0, 0, 0), some (.invokevirtual 64, 3, 0, 63, 774), none, none, some (.aload_n 2, 1, 0, 0, 0), some (.aload_n 0, 1, 0, 0, 0), some (.iload_n 3, 1, 0, 0, 0)],
  [some (.iconst 1, 1, 0, 0, 0), some (.iadd, 1, 0, 0, 0), some (.iaload, 1, 0, 0, 0), some (.aload_n 0, 1, 0, 0, 0), some (.iload_n 3, 1, 0, 0, 0), some (.iconst 2, 1, 0, 0, 0), some (.iadd, 1, 0, 0, 0), some (.iaload, 1, 0, 0, 0), some (.invokevirtual 68, 3, 0, 121, 775), none, none, some (.if_icmp .eq 701, 3, 0, 0, 0), none, none, none, none, some (.aload_n 1, 1, 0, 0, 0), some (.aload_n 0, 1, 0, 0, 0), some (.iload_n 3, 1, 0, 0, 0), some (.iconst 1, 1, 0, 0, 0), some (.iadd, 1, 0, 0, 0), some (.iaload, 1, 0, 0, 0), some (.invokevirtual 69, 3, 0, 41, 776), none, none, some (.aload_n 2, 1, 0, 0, 0), some (.aload_n 0, 1, 0, 0, 0), some (.iload_n 3, 1, 0, 0, 0), some (.iconst 1, 1, 0, 0, 0), some (.iadd, 1, 0, 0, 0), some (.iaload, 1, 0, 0, 0), some (.invokevirtual 72, 3, 0, 98, 777)],
  [none, none, some (.if_icmp .eq 678, 3, 0, 0, 0), none, none, none, none, some (.aload_n 1, 1, 0, 0, 0), some (.invokevirtual 73, 3, 0, 37, 778), none, none, some (.aload_n 2, 1, 0, 0, 0), some (.invokevirtual 77, 3, 0, 90, 779), none, none, some (.if_icmp .eq 665, 3, 0, 0, 0), none, none, none, none, some (.aload_n 1, 1, 0, 0, 0), some (.aload_n 0, 1, 0, 0, 0), some (.iload_n 3, 1, 0, 0, 0), some (.iconst 1, 1, 0, 0, 0), some (.iadd, 1, 0, 0, 0), some (.iaload, 1, 0, 0, 0), some (.invokevirtual 78, 3, 0, 71, 780), none, none, some (.aload_n 2, 1, 0, 0, 0), some (.aload_n 0, 1, 0, 0, 0), some (.iload_n 3, 1, 0, 0, 0)],
  [some (.iconst 1, 1, 0, 0, 0), some (.iadd, 1, 0, 0, 0), some (.iaload, 1, 0, 0, 0), some (.invokevirtual 81, 3, 0, 129, 781), none, none, some (.if_icmp .eq 642, 3, 0, 0, 0), none, none, none, none, some (.aload_n 1, 1, 0, 0, 0), some (.aload_n 0, 1, 0, 0, 0), some (.iload_n 3, 1, 0, 0, 0), some (.iconst 1, 1, 0, 0, 0), some (.iadd, 1, 0, 0, 0), some (.iaload, 1, 0, 0, 0), some (.aload_n 0, 1, 0, 0, 0), some (.iload_n 3, 1, 0, 0, 0), some (.iconst 2, 1, 0, 0, 0), some (.iadd, 1, 0, 0, 0), some (.iaload, 1, 0, 0, 0), some (.aload_n 0, 1, 0, 0, 0), some (.iload_n 3, 1, 0, 0, 0), some (.iconst 3, 1, 0, 0, 0), some (.iadd, 1, 0, 0, 0), some (.iaload, 1, 0, 0, 0), some (.aload_n 0, 1, 0, 0, 0), some (.iload_n 3, 1, 0, 0, 0), some (.iconst 4, 1, 0, 0, 0), some (.iadd, 1, 0, 0, 0), some (.iaload, 1, 0, 0, 0)],
  [some (.invokevirtual 82, 3, 0, 54, 782), none, none, some (.aload_n 2, 1, 0, 0, 0), some (.aload_n 0, 1, 0, 0, 0), some (.iload_n 3, 1, 0, 0, 0), some (.iconst 1, 1, 0, 0, 0), some (.iadd, 1, 0, 0, 0), some (.iaload, 1, 0, 0, 0), some (.aload_n 0, 1, 0, 0, 0), some (.iload_n 3, 1, 0, 0, 0), some (.iconst 2, 1, 0, 0, 0), some (.iadd, 1, 0, 0, 0), some (.iaload, 1, 0, 0, 0), some (.aload_n 0, 1, 0, 0, 0), some (.iload_n 3, 1, 0, 0, 0), some (.iconst 3, 1, 0, 0, 0), some (.iadd, 1, 0, 0, 0), some (.iaload, 1, 0, 0, 0), some (.aload_n 0, 1, 0, 0, 0), some (.iload_n 3, 1, 0, 0, 0), some (.iconst 4, 1, 0, 0, 0), some (.iadd, 1, 0, 0, 0), some (.iaload, 1, 0, 0, 0), some (.invokevirtual 86, 3, 0, 113, 783), none, none, some (.if_icmp .eq 589, 3, 0, 0, 0)],
  [some (.aload_n 1, 1, 0, 0, 0), some (.aload_n 0, 1, 0, 0, 0), some (.iload_n 3, 1, 0, 0, 0), some (.iconst 1, 1, 0, 0, 0), some (.iadd, 1, 0, 0, 0), some (.iaload, 1, 0, 0, 0), some (.aload_n 0, 1, 0, 0, 0), some (.iload_n 3, 1, 0, 0, 0), some (.iconst 2, 1, 0, 0, 0), some (.iadd, 1, 0, 0, 0), some (.iaload, 1, 0, 0, 0), some (.invokevirtual 87, 3, 0, 69, 784), none, none, some (.aload_n 2, 1, 0, 0, 0), some (.aload_n 0, 1, 0, 0, 0), some (.iload_n 3, 1, 0, 0, 0), some (.iconst 1, 1, 0, 0, 0), some (.iadd, 1, 0, 0, 0), some (.iaload, 1, 0, 0, 0), some (.aload_n 0, 1, 0, 0, 0), some (.iload_n 3, 1, 0, 0, 0), some (.iconst 2, 1, 0, 0, 0), some (.iadd, 1, 0, 0, 0), some (.iaload, 1, 0, 0, 0), some (.invokevirtual 91, 3, 0, 127, 785), none, none, some (.lcmp, 1, 0, 0, 0), some (.ifCond .eq 555, 3, 0, 0, 0)],
  [none, none, some (.aload_n 1, 1, 0, 0, 0), some (.aload_n 0, 1, 0, 0, 0), some (.iload_n 3, 1, 0, 0, 0), some (.iconst 1, 1, 0, 0, 0), some (.iadd, 1, 0, 0, 0), some (.iaload, 1, 0, 0, 0), some (.aload_n 0, 1, 0, 0, 0), some (.iload_n 3, 1, 0, 0, 0), some (.iconst 2, 1, 0, 0, 0), some (.iadd, 1, 0, 0, 0), some (.iaload, 1, 0, 0, 0), some (.invokevirtual 92, 3, 0, 49, 786), none, none, some (.aload_n 2, 1, 0, 0, 0), some (.aload_n 0, 1, 0, 0, 0), some (.iload_n 3, 1, 0, 0, 0), some (.iconst 1, 1, 0, 0, 0), some (.iadd, 1, 0, 0, 0), some (.iaload, 1, 0, 0, 0), some (.aload_n 0, 1, 0, 0, 0), some (.iload_n 3, 1, 0, 0, 0), some (.iconst 2, 1, 0, 0, 0), some (.iadd, 1, 0, 0, 0), some (.iaload, 1, 0, 0, 0), some (.invokevirtual 95, 3, 0, 107, 787), none, none, some (.lcmp, 1, 0, 0, 0), some (.ifCond .eq 521, 3, 0, 0, 0)],
  [none, none, none, none, some (.aload_n 1, 1, 0, 0, 0), some (.aload_n 0, 1, 0, 0, 0), some (.iload_n 3, 1, 0, 0, 0), some (.iconst 1, 1, 0, 0, 0), some (.iadd, 1, 0, 0, 0), some (.iaload, 1, 0, 0, 0), some (.aload_n 0, 1, 0, 0, 0), some (.iload_n 3, 1, 0, 0, 0), some (.iconst 2, 1, 0, 0, 0), some (.iadd, 1, 0, 0, 0), some (.iaload, 1, 0, 0, 0), some (.invokevirtual 96, 3, 0, 65, 788), none, none, some (.aload_n 2, 1, 0, 0, 0), some (.aload_n 0, 1, 0, 0, 0), some (.iload_n 3, 1, 0, 0, 0), some (.iconst 1, 1, 0, 0, 0), some (.iadd, 1, 0, 0, 0), some (.iaload, 1, 0, 0, 0), some (.aload_n 0, 1, 0, 0, 0), some (.iload_n 3, 1, 0, 0, 0), some (.iconst 2, 1, 0, 0, 0), some (.iadd, 1, 0, 0, 0), some (.iaload, 1, 0, 0, 0), some (.invokevirtual 99, 3, 0, 124, 789)],
  [some (.if_icmp .eq 488, 3, 0, 0, 0), none, none, none, none, some (.aload_n 1, 1, 0, 0, 0), some (.aload_n 0, 1, 0, 0, 0), some (.iload_n 3, 1, 0, 0, 0), some (.iconst 1, 1, 0, 0, 0), some (.iadd, 1, 0, 0, 0), some (.iaload, 1, 0, 0, 0), some (.aload_n 0, 1, 0, 0, 0), some (.iload_n 3, 1, 0, 0, 0), some (.iconst 2, 1, 0, 0, 0), some (.iadd, 1, 0, 0, 0), some (.iaload, 1, 0, 0, 0), some (.invokevirtual 100, 3, 0, 36, 790), none, none, some (.aload_n 2, 1, 0, 0, 0), some (.aload_n 0, 1, 0, 0, 0), some (.iload_n 3, 1, 0, 0, 0), some (.iconst 1, 1, 0, 0, 0), some (.iadd, 1, 0, 0, 0), some (.iaload, 1, 0, 0, 0), some (.aload_n 0, 1, 0, 0, 0), some (.iload_n 3, 1, 0, 0, 0), some (.iconst 2, 1, 0, 0, 0), some (.iadd, 1, 0, 0, 0), some (.iaload, 1, 0, 0, 0), some (.invokevirtual 103, 3, 0, 89, 791)],
  [none, some (.if_icmp .eq 455, 3, 0, 0, 0), none, none, none, none, some (.aload_n 1, 1, 0, 0, 0), some (.aload_n 0, 1, 0, 0, 0), some (.iload_n 3, 1, 0, 0, 0), some (.iconst 1, 1, 0, 0, 0), some (.iadd, 1, 0, 0, 0), some (.iaload, 1, 0, 0, 0), some (.aload_n 0, 1, 0, 0, 0), some (.iload_n 3, 1, 0, 0, 0), some (.iconst 2, 1, 0, 0, 0), some (.iadd, 1, 0, 0, 0), some (.iaload, 1, 0, 0, 0), some (.invokevirtual 104, 3, 0, 51, 792), none, none, some (.aload_n 2, 1, 0, 0, 0), some (.aload_n 0, 1, 0, 0, 0), some (.iload_n 3, 1, 0, 0, 0), some (.iconst 1, 1, 0, 0, 0), some (.iadd, 1, 0, 0, 0), some (.iaload, 1, 0, 0, 0), some (.aload_n 0, 1, 0, 0, 0), some (.iload_n 3, 1, 0, 0, 0), some (.iconst 2, 1, 0, 0, 0), some (.iadd, 1, 0, 0, 0), some (.iaload, 1, 0, 0, 0), some (.invokevirtual 107, 3, 0, 109, 793)],
  [none, none, some (.lcmp, 1, 0, 0, 0), some (.ifCond .eq 421, 3, 0, 0, 0), none, none, none, none, some (.aload_n 1, 1, 0, 0, 0), some (.aload_n 0, 1, 0, 0, 0), some (.iload_n 3, 1, 0, 0, 0), some (.iconst 1, 1, 0, 0, 0), some (.iadd, 1, 0, 0, 0), some (.iaload, 1, 0, 0, 0), some (.aload_n 0, 1, 0, 0, 0), some (.iload_n 3, 1, 0, 0, 0), some (.iconst 2, 1, 0, 0, 0), some (.iadd, 1, 0, 0, 0), some (.iaload, 1, 0, 0, 0), some (.invokevirtual 108, 3, 0, 30, 794), none, none, some (.aload_n 2, 1, 0, 0, 0), some (.aload_n 0, 1, 0, 0, 0), some (.iload_n 3, 1, 0, 0, 0), some (.iconst 1, 1, 0, 0, 0), some (.iadd, 1, 0, 0, 0), some (.iaload, 1, 0, 0, 0), some (.aload_n 0, 1, 0, 0, 0), some (.iload_n 3, 1, 0, 0, 0), some (.iconst 2, 1, 0, 0, 0), some (.iadd, 1, 0, 0, 0)],
  [some (.iaload, 1, 0, 0, 0), some (.invokevirtual 111, 3, 0, 83, 795), none, none, some (.if_icmp .eq 388, 3, 0, 0, 0), none, none, none, none, some (.aload_n 1, 1, 0, 0, 0), some (.aload_n 0, 1, 0, 0, 0), some (.iload_n 3, 1, 0, 0, 0), some (.iconst 1, 1, 0, 0, 0), some (.iadd, 1, 0, 0, 0), some (.iaload, 1, 0, 0, 0), some (.aload_n 0, 1, 0, 0, 0), some (.iload_n 3, 1, 0, 0, 0), some (.iconst 2, 1, 0, 0, 0), some (.iadd, 1, 0, 0, 0), some (.iaload, 1, 0, 0, 0), some (.invokevirtual 112, 3, 0, 64, 796), none, none, some (.aload_n 2, 1, 0, 0, 0), some (.aload_n 0, 1, 0, 0, 0), some (.iload_n 3, 1, 0, 0, 0), some (.iconst 1, 1, 0, 0, 0), some (.iadd, 1, 0, 0, 0), some (.iaload, 1, 0, 0, 0), some (.aload_n 0, 1, 0, 0, 0), some (.iload_n 3, 1, 0, 0, 0), some (.iconst 2, 1, 0, 0, 0)],
  [some (.iadd, 1, 0, 0, 0), some (.iaload, 1, 0, 0, 0), some (.invokevirtual 115, 3, 0, 122, 797), none, none, some (.lcmp, 1, 0, 0, 0), some (.ifCond .eq 354, 3, 0, 0, 0), none, none, none, none, some (.aload_n 1, 1, 0, 0, 0), some (.aload_n 0, 1, 0, 0, 0), some (.iload_n 3, 1, 0, 0, 0), some (.iconst 1, 1, 0, 0, 0), some (.iadd, 1, 0, 0, 0), some (.iaload, 1, 0, 0, 0), some (.aload_n 0, 1, 0, 0, 0), some (.iload_n 3, 1, 0, 0, 0), some (.iconst 2, 1, 0, 0, 0), some (.iadd, 1, 0, 0, 0), some (.iaload, 1, 0, 0, 0), some (.aload_n 0, 1, 0, 0, 0), some (.iload_n 3, 1, 0, 0, 0), some (.iconst 3, 1, 0, 0, 0), some (.iadd, 1, 0, 0, 0), some (.iaload, 1, 0, 0, 0), some (.aload_n 0, 1, 0, 0, 0), some (.iload_n 3, 1, 0, 0, 0), some (.iconst 4, 1, 0, 0, 0), some (.iadd, 1, 0, 0, 0), some (.iaload, 1, 0, 0, 0)],
  [some (.invokevirtual 116, 3, 0, 58, 798), none, none, some (.aload_n 2, 1, 0, 0, 0), some (.aload_n 0, 1, 0, 0, 0), some (.iload_n 3, 1, 0, 0, 0), some (.iconst 1, 1, 0, 0, 0), some (.iadd, 1, 0, 0, 0), some (.iaload, 1, 0, 0, 0), some (.aload_n 0, 1, 0, 0, 0), some (.iload_n 3, 1, 0, 0, 0), some (.iconst 2, 1, 0, 0, 0), some (.iadd, 1, 0, 0, 0), some (.iaload, 1, 0, 0, 0), some (.aload_n 0, 1, 0, 0, 0), some (.iload_n 3, 1, 0, 0, 0), some (.iconst 3, 1, 0, 0, 0), some (.iadd, 1, 0, 0, 0), some (.iaload, 1, 0, 0, 0), some (.aload_n 0, 1, 0, 0, 0), some (.iload_n 3, 1, 0, 0, 0), some (.iconst 4, 1, 0, 0, 0), some (.iadd, 1, 0, 0, 0), some (.iaload, 1, 0, 0, 0), some (.invokevirtual 120, 3, 0, 116, 799), none, none, some (.lcmp, 1, 0, 0, 0), some (.ifCond .eq 300, 3, 0, 0, 0)],
  [none, some (.aload_n 1, 1, 0, 0, 0), some (.aload_n 0, 1, 0, 0, 0), some (.iload_n 3, 1, 0, 0, 0), some (.iconst 1, 1, 0, 0, 0), some (.iadd, 1, 0, 0, 0), some (.iaload, 1, 0, 0, 0), some (.aload_n 0, 1, 0, 0, 0), some (.iload_n 3, 1, 0, 0, 0), some (.iconst 2, 1, 0, 0, 0), some (.iadd, 1, 0, 0, 0), some (.iaload, 1, 0, 0, 0), some (.aload_n 0, 1, 0, 0, 0), some (.iload_n 3, 1, 0, 0, 0), some (.iconst 3, 1, 0, 0, 0), some (.iadd, 1, 0, 0, 0), some (.iaload, 1, 0, 0, 0), some (.invokevirtual 121, 3, 0, 60, 800), none, none, some (.aload_n 2, 1, 0, 0, 0), some (.aload_n 0, 1, 0, 0, 0), some (.iload_n 3, 1, 0, 0, 0), some (.iconst 1, 1, 0, 0, 0), some (.iadd, 1, 0, 0, 0), some (.iaload, 1, 0, 0, 0), some (.aload_n 0, 1, 0, 0, 0), some (.iload_n 3, 1, 0, 0, 0), some (.iconst 2, 1, 0, 0, 0), some (.iadd, 1, 0, 0, 0), some (.iaload, 1, 0, 0, 0), some (.aload_n 0, 1, 0, 0, 0)],
  [some (.iload_n 3, 1, 0, 0, 0), some (.iconst 3, 1, 0, 0, 0), some (.iadd, 1, 0, 0, 0), some (.iaload, 1, 0, 0, 0), some (.invokevirtual 124, 3, 0, 118, 801), none, none, some (.if_icmp .eq 257, 3, 0, 0, 0), none, none, none, none, some (.aload_n 1, 1, 0, 0, 0), some (.aload_n 0, 1, 0, 0, 0), some (.iload_n 3, 1, 0, 0, 0), some (.iconst 1, 1, 0, 0, 0), some (.iadd, 1, 0, 0, 0), some (.iaload, 1, 0, 0, 0), some (.aload_n 0, 1, 0, 0, 0), some (.iload_n 3, 1, 0, 0, 0), some (.iconst 2, 1, 0, 0, 0), some (.iadd, 1, 0, 0, 0), some (.iaload, 1, 0, 0, 0), some (.invokevirtual 125, 3, 0, 52, 802), none, none, some (.aload_n 2, 1, 0, 0, 0), some (.aload_n 0, 1, 0, 0, 0), some (.iload_n 3, 1, 0, 0, 0), some (.iconst 1, 1, 0, 0, 0), some (.iadd, 1, 0, 0, 0), some (.iaload, 1, 0, 0, 0)],
  [some (.aload_n 0, 1, 0, 0, 0), some (.iload_n 3, 1, 0, 0, 0), some (.iconst 2, 1, 0, 0, 0), some (.iadd, 1, 0, 0, 0), some (.iaload, 1, 0, 0, 0), some (.invokevirtual 128, 3, 0, 110, 803), none, none, some (.if_icmp .eq 224, 3, 0, 0, 0), none, none, none, none, some (.aload_n 1, 1, 0, 0, 0), some (.aload_n 0, 1, 0, 0, 0), some (.iload_n 3, 1, 0, 0, 0), some (.iconst 1, 1, 0, 0, 0), some (.iadd, 1, 0, 0, 0), some (.iaload, 1, 0, 0, 0), some (.aload_n 0, 1, 0, 0, 0), some (.iload_n 3, 1, 0, 0, 0), some (.iconst 2, 1, 0, 0, 0), some (.iadd, 1, 0, 0, 0), some (.iaload, 1, 0, 0, 0), some (.invokevirtual 129, 3, 0, 50, 804), none, none, some (.aload_n 2, 1, 0, 0, 0), some (.aload_n 0, 1, 0, 0, 0), some (.iload_n 3, 1, 0, 0, 0), some (.iconst 1, 1, 0, 0, 0), some (.iadd, 1, 0, 0, 0)],
  [some (.iaload, 1, 0, 0, 0), some (.aload_n 0, 1, 0, 0, 0), some (.iload_n 3, 1, 0, 0, 0), some (.iconst 2, 1, 0, 0, 0), some (.iadd, 1, 0, 0, 0), some (.iaload, 1, 0, 0, 0), some (.invokevirtual 132, 3, 0, 108, 805), none, none, some (.if_icmp .eq 191, 3, 0, 0, 0), none, none, none, none, some (.aload_n 1, 1, 0, 0, 0), some (.aload_n 0, 1, 0, 0, 0), some (.iload_n 3, 1, 0, 0, 0), some (.iconst 1, 1, 0, 0, 0), some (.iadd, 1, 0, 0, 0), some (.iaload, 1, 0, 0, 0), some (.aload_n 0, 1, 0, 0, 0), some (.iload_n 3, 1, 0, 0, 0), some (.iconst 2, 1, 0, 0, 0), some (.iadd, 1, 0, 0, 0), some (.iaload, 1, 0, 0, 0), some (.aload_n 0, 1, 0, 0, 0), some (.iload_n 3, 1, 0, 0, 0), some (.iconst 3, 1, 0, 0, 0), some (.iadd, 1, 0, 0, 0), some (.iaload, 1, 0, 0, 0), some (.invokevirtual 133, 3, 0, 46, 806)],
  [none, some (.aload_n 2, 1, 0, 0, 0), some (.aload_n 0, 1, 0, 0, 0), some (.iload_n 3, 1, 0, 0, 0), some (.iconst 1, 1, 0, 0, 0), some (.iadd, 1, 0, 0, 0), some (.iaload, 1, 0, 0, 0), some (.aload_n 0, 1, 0, 0, 0), some (.iload_n 3, 1, 0, 0, 0), some (.iconst 2, 1, 0, 0, 0), some (.iadd, 1, 0, 0, 0), some (.iaload, 1, 0, 0, 0), some (.aload_n 0, 1, 0, 0, 0), some (.iload_n 3, 1, 0, 0, 0), some (.iconst 3, 1, 0, 0, 0), some (.iadd, 1, 0, 0, 0), some (.iaload, 1, 0, 0, 0), some (.invokevirtual 137, 3, 0, 104, 807), none, none, some (.lcmp, 1, 0, 0, 0), some (.ifCond .eq 147, 3, 0, 0, 0), none, none, none, none, some (.aload_n 1, 1, 0, 0, 0), some (.aload_n 0, 1, 0, 0, 0), some (.iload_n 3, 1, 0, 0, 0), some (.iconst 1, 1, 0, 0, 0), some (.iadd, 1, 0, 0, 0), some (.iaload, 1, 0, 0, 0)],
  [some (.invokevirtual 138, 3, 0, 40, 808), none, none, some (.aload_n 2, 1, 0, 0, 0), some (.aload_n 0, 1, 0, 0, 0), some (.iload_n 3, 1, 0, 0, 0), some (.iconst 1, 1, 0, 0, 0), some (.iadd, 1, 0, 0, 0), some (.iaload, 1, 0, 0, 0), some (.invokevirtual 142, 3, 0, 95, 809), none, none, some (.lcmp, 1, 0, 0, 0), some (.ifCond .eq 123, 3, 0, 0, 0), none, none, none, none, some (.aload_n 1, 1, 0, 0, 0), some (.invokevirtual 143, 3, 0, 57, 810), none, none, some (.aload_n 2, 1, 0, 0, 0), some (.invokevirtual 146, 3, 0, 115, 811), none, none, some (.if_icmp .eq 110, 3, 0, 0, 0), none, none, none, none, some (.aload_n 1, 1, 0, 0, 0)],
  [some (.aload_n 0, 1, 0, 0, 0), some (.iload_n 3, 1, 0, 0, 0), some (.iconst 1, 1, 0, 0, 0), some (.iadd, 1, 0, 0, 0), some (.iaload, 1, 0, 0, 0), some (.invokevirtual 147, 3, 0, 59, 812), none, none, some (.aload_n 2, 1, 0, 0, 0), some (.aload_n 0, 1, 0, 0, 0), some (.iload_n 3, 1, 0, 0, 0), some (.iconst 1, 1, 0, 0, 0), some (.iadd, 1, 0, 0, 0), some (.iaload, 1, 0, 0, 0), some (.invokevirtual 150, 3, 0, 117, 813), none, none, some (.if_icmp .eq 87, 3, 0, 0, 0), none, none, none, none, some (.aload_n 1, 1, 0, 0, 0), some (.invokevirtual 151, 3, 0, 45, 814), none, none, some (.aload_n 2, 1, 0, 0, 0), some (.invokevirtual 154, 3, 0, 103, 815), none, none, some (.if_icmp .eq 74, 3, 0, 0, 0)],
  [none, none, none, some (.aload_n 1, 1, 0, 0, 0), some (.invokevirtual 155, 3, 0, 73, 816), none, none, some (.aload_n 2, 1, 0, 0, 0), some (.invokevirtual 159, 3, 0, 132, 817), none, none, some (.if_icmp .eq 61, 3, 0, 0, 0), none, none, none, none, some (.aload_n 1, 1, 0, 0, 0), some (.aload_n 0, 1, 0, 0, 0), some (.iload_n 3, 1, 0, 0, 0), some (.iconst 1, 1, 0, 0, 0), some (.iadd, 1, 0, 0, 0), some (.iaload, 1, 0, 0, 0), some (.aload_n 0, 1, 0, 0, 0), some (.iload_n 3, 1, 0, 0, 0), some (.iconst 2, 1, 0, 0, 0), some (.iadd, 1, 0, 0, 0), some (.iaload, 1, 0, 0, 0), some (.invokevirtual 160, 3, 0, 29, 818), none, none, some (.aload_n 2, 1, 0, 0, 0), some (.aload_n 0, 1, 0, 0, 0)],
  [some (.iload_n 3, 1, 0, 0, 0), some (.iconst 1, 1, 0, 0, 0), some (.iadd, 1, 0, 0, 0), some (.iaload, 1, 0, 0, 0), some (.aload_n 0, 1, 0, 0, 0), some (.iload_n 3, 1, 0, 0, 0), some (.iconst 2, 1, 0, 0, 0), some (.iadd, 1, 0, 0, 0), some (.iaload, 1, 0, 0, 0), some (.invokevirtual 163, 3, 0, 82, 819), none, none, some (.if_icmp .eq 28, 3, 0, 0, 0), none, none, none, none, some (.aload_n 1, 1, 0, 0, 0), some (.aload_n 0, 1, 0, 0, 0), some (.iload_n 3, 1, 0, 0, 0), some (.iconst 1, 1, 0, 0, 0), some (.iadd, 1, 0, 0, 0), some (.iaload, 1, 0, 0, 0), some (.invokevirtual 164, 3, 0, 34, 820), none, none, some (.aload_n 2, 1, 0, 0, 0), some (.aload_n 0, 1, 0, 0, 0), some (.iload_n 3, 1, 0, 0, 0), some (.iconst 1, 1, 0, 0, 0), some (.iadd, 1, 0, 0, 0), some (.iaload, 1, 0, 0, 0)],
  [some (.invokevirtual 167, 3, 0, 87, 821), none, none, some (.if_icmp .eq 5, 3, 0, 0, 0), none, none, none, none, some (.iinc 3 6, 3, 0, 0, 0), none, none, some (.goto (-1305), 3, 0, 0, 0), none, none, some (.iconst 1, 1, 0, 0, 0), some (.ireturn, 1, 0, 0, 0)]]
def xc_A : List (List (List (Option xe_I))) := [xc_0, xc_1, xc_2, xc_3, xc_4, xc_5, xc_6, xc_7, xc_8, xc_9, xc_10, xc_11, xc_12, xc_13, xc_14, xc_15, xc_16, xc_17, xc_18, xc_19, xc_20, xc_21, xc_22, xc_23, xc_24, xc_25, xc_26, xc_27, xc_28, xc_29, xc_30, xc_31, xc_32, xc_33, xc_34, xc_35, xc_36, xc_37, xc_38, xc_39, xc_40, xc_41, xc_42, xc_43, xc_44, xc_45, xc_46, xc_47, xc_48, xc_49, xc_50, xc_51, xc_52, xc_53, xc_54, xc_55, xc_56, xc_57, xc_58, xc_59, xc_60, xc_61, xc_62, xc_63, xc_64, xc_65, xc_66, xc_67, xc_68, xc_69, xc_70, xc_71, xc_72, xc_73, xc_74, xc_75, xc_76, xc_77, xc_78, xc_79, xc_80, xc_81, xc_82, xc_83, xc_84, xc_85, xc_86, xc_87, xc_88, xc_89, xc_90, xc_91, xc_92, xc_93, xc_94, xc_95, xc_96, xc_97, xc_98, xc_99, xc_100, xc_101, xc_102, xc_103, xc_104, xc_105, xc_106, xc_107, xc_108, xc_109, xc_110, xc_111, xc_112, xc_113, xc_114, xc_115, xc_116, xc_117, xc_118, xc_119, xc_120, xc_121, xc_122, xc_123, xc_124, xc_125, xc_126, xc_127, xc_128, xc_129, xc_130, xc_131, xc_132, xc_133, xc_134, xc_135]
def xc (μ : Nat) : List (List (Option xe_I)) := xc_A.getD μ []
def xi_max : Nat × Nat := (216, 833)
def xi_min : Nat × Nat := (217, 834)
def xi_abs : Nat × Nat := (218, 835)
def xi_math : Nat := 197
def xi_sys : Nat := 198
def xi_acs : Nat := 219
def xi_acn : Nat := 220
def xi_objI : Nat := 215
def xi_objC : Nat := 832
def xi_arr : Nat × Nat × Nat := (212, 213, 214)
def xi_law : Nat := 135
