/-! names, tables and code, written by wip/whole/gen.py -/
abbrev tw_ : List Cond := lw_tbl.filter goodWord
abbrev nw_ : List Cond := lw_tbl.filter am_nest
def R_F : String := "FrameFinder"
def F_F : u_T := fun k => match k with
  | 0 => ("FrameFinder", "image", "[B", true)
  | 1 => ("FrameFinder", "sections", "LFrameFinder$Sections;", true)
  | 2 => ("FrameFinder", "entries", "LFrameFinder$Entries;", true)
  | 3 => ("FrameFinder", "unitReader", "LFrameFinder$UnitReader;", true)
  | 4 => ("FrameFinder", "ranges", "LFrameFinder$Ranges;", true)
  | 5 => ("FrameFinder", "valueReader", "LFrameFinder$ValueReader;", true)
  | 6 => ("FrameFinder", "rows", "LFrameFinder$Rows;", true)
  | 7 => ("FrameFinder", "lineReader", "LFrameFinder$LineReader;", true)
  | 8 => ("FrameFinder", "symbols", "LFrameFinder$Symbols;", true)
  | 9 => ("FrameFinder", "frames", "LFrameFinder$Frames;", true)
  | 10 => ("FrameFinder", "length", "I", false)
  | 11 => ("FrameFinder", "isRead", "Z", false)
  | _ => ("FrameFinder", "latestFault", "I", false)
def t_F : Nat → FieldType := fun k => match k with
  | 0 => .array .byte
  | 1 => .object "FrameFinder$Sections"
  | 2 => .object "FrameFinder$Entries"
  | 3 => .object "FrameFinder$UnitReader"
  | 4 => .object "FrameFinder$Ranges"
  | 5 => .object "FrameFinder$ValueReader"
  | 6 => .object "FrameFinder$Rows"
  | 7 => .object "FrameFinder$LineReader"
  | 8 => .object "FrameFinder$Symbols"
  | 9 => .object "FrameFinder$Frames"
  | 10 => .int
  | 11 => .boolean
  | _ => .int
def R_Se : String := "FrameFinder$Sections"
def F_Se : u_T := fun k => match k with
  | 0 => ("FrameFinder$Sections", "image", "[B", true)
  | 1 => ("FrameFinder$Sections", "cursor", "LFrameFinder$Cursor;", true)
  | 2 => ("FrameFinder$Sections", "from", "[I", true)
  | 3 => ("FrameFinder$Sections", "to", "[I", true)
  | 4 => ("FrameFinder$Sections", "namePlace", "[J", true)
  | 5 => ("FrameFinder$Sections", "chosenFrom", "[I", true)
  | 6 => ("FrameFinder$Sections", "chosenTo", "[I", true)
  | 7 => ("FrameFinder$Sections", "isChosen", "[Z", true)
  | 8 => ("FrameFinder$Sections", "total", "I", false)
  | 9 => ("FrameFinder$Sections", "headersAt", "I", false)
  | _ => ("FrameFinder$Sections", "namesIndex", "I", false)
def t_Se : Nat → FieldType := fun k => match k with
  | 0 => .array .byte
  | 1 => .object "FrameFinder$Cursor"
  | 2 => .array .int
  | 3 => .array .int
  | 4 => .array .long
  | 5 => .array .int
  | 6 => .array .int
  | 7 => .array .boolean
  | 8 => .int
  | 9 => .int
  | _ => .int
def R_Cu : String := "FrameFinder$Cursor"
def F_Cu : u_T := fun k => match k with
  | 0 => ("FrameFinder$Cursor", "image", "[B", true)
  | 1 => ("FrameFinder$Cursor", "at", "I", false)
  | 2 => ("FrameFinder$Cursor", "end", "I", false)
  | _ => ("FrameFinder$Cursor", "bad", "Z", false)
def t_Cu : Nat → FieldType := fun k => match k with
  | 0 => .array .byte
  | 1 => .int
  | 2 => .int
  | _ => .boolean
def R_En : String := "FrameFinder$Entries"
def F_En : u_T := fun k => match k with
  | 0 => ("FrameFinder$Entries", "tag", "[J", true)
  | 1 => ("FrameFinder$Entries", "parent", "[I", true)
  | 2 => ("FrameFinder$Entries", "unit", "[I", true)
  | 3 => ("FrameFinder$Entries", "place", "[I", true)
  | 4 => ("FrameFinder$Entries", "form", "[I", true)
  | 5 => ("FrameFinder$Entries", "value", "[J", true)
  | 6 => ("FrameFinder$Entries", "unitPlace", "[I", true)
  | 7 => ("FrameFinder$Entries", "unitEntry", "[I", true)
  | 8 => ("FrameFinder$Entries", "unitForm", "[I", true)
  | 9 => ("FrameFinder$Entries", "unitValue", "[J", true)
  | 10 => ("FrameFinder$Entries", "total", "I", false)
  | _ => ("FrameFinder$Entries", "units", "I", false)
def t_En : Nat → FieldType := fun k => match k with
  | 0 => .array .long
  | 1 => .array .int
  | 2 => .array .int
  | 3 => .array .int
  | 4 => .array .int
  | 5 => .array .long
  | 6 => .array .int
  | 7 => .array .int
  | 8 => .array .int
  | 9 => .array .long
  | 10 => .int
  | _ => .int
def R_Ur : String := "FrameFinder$UnitReader"
def F_Ur : u_T := fun k => match k with
  | 0 => ("FrameFinder$UnitReader", "sections", "LFrameFinder$Sections;", true)
  | 1 => ("FrameFinder$UnitReader", "entries", "LFrameFinder$Entries;", true)
  | 2 => ("FrameFinder$UnitReader", "abbreviations", "LFrameFinder$Abbreviations;", true)
  | 3 => ("FrameFinder$UnitReader", "info", "LFrameFinder$Cursor;", true)
  | 4 => ("FrameFinder$UnitReader", "table", "LFrameFinder$Cursor;", true)
  | 5 => ("FrameFinder$UnitReader", "latest", "I", false)
  | _ => ("FrameFinder$UnitReader", "depth", "I", false)
def t_Ur : Nat → FieldType := fun k => match k with
  | 0 => .object "FrameFinder$Sections"
  | 1 => .object "FrameFinder$Entries"
  | 2 => .object "FrameFinder$Abbreviations"
  | 3 => .object "FrameFinder$Cursor"
  | 4 => .object "FrameFinder$Cursor"
  | 5 => .int
  | _ => .int
def R_Ab : String := "FrameFinder$Abbreviations"
def F_Ab : u_T := fun k => match k with
  | 0 => ("FrameFinder$Abbreviations", "number", "[J", true)
  | 1 => ("FrameFinder$Abbreviations", "tag", "[J", true)
  | 2 => ("FrameFinder$Abbreviations", "hasChildren", "[Z", true)
  | 3 => ("FrameFinder$Abbreviations", "attributes", "[I", true)
  | 4 => ("FrameFinder$Abbreviations", "attribute", "[J", true)
  | 5 => ("FrameFinder$Abbreviations", "form", "[I", true)
  | 6 => ("FrameFinder$Abbreviations", "constant", "[J", true)
  | _ => ("FrameFinder$Abbreviations", "total", "I", false)
def t_Ab : Nat → FieldType := fun k => match k with
  | 0 => .array .long
  | 1 => .array .long
  | 2 => .array .boolean
  | 3 => .array .int
  | 4 => .array .long
  | 5 => .array .int
  | 6 => .array .long
  | _ => .int
def R_Ra : String := "FrameFinder$Ranges"
def F_Ra : u_T := fun k => match k with
  | 0 => ("FrameFinder$Ranges", "from", "[J", true)
  | 1 => ("FrameFinder$Ranges", "to", "[J", true)
  | 2 => ("FrameFinder$Ranges", "firstOf", "[I", true)
  | 3 => ("FrameFinder$Ranges", "behindOf", "[I", true)
  | _ => ("FrameFinder$Ranges", "total", "I", false)
def t_Ra : Nat → FieldType := fun k => match k with
  | 0 => .array .long
  | 1 => .array .long
  | 2 => .array .int
  | 3 => .array .int
  | _ => .int
def R_Va : String := "FrameFinder$ValueReader"
def F_Va : u_T := fun k => match k with
  | 0 => ("FrameFinder$ValueReader", "sections", "LFrameFinder$Sections;", true)
  | 1 => ("FrameFinder$ValueReader", "entries", "LFrameFinder$Entries;", true)
  | 2 => ("FrameFinder$ValueReader", "ranges", "LFrameFinder$Ranges;", true)
  | 3 => ("FrameFinder$ValueReader", "list", "LFrameFinder$Cursor;", true)
  | 4 => ("FrameFinder$ValueReader", "side", "LFrameFinder$Cursor;", true)
  | 5 => ("FrameFinder$ValueReader", "base", "J", false)
  | _ => ("FrameFinder$ValueReader", "bad", "Z", false)
def t_Va : Nat → FieldType := fun k => match k with
  | 0 => .object "FrameFinder$Sections"
  | 1 => .object "FrameFinder$Entries"
  | 2 => .object "FrameFinder$Ranges"
  | 3 => .object "FrameFinder$Cursor"
  | 4 => .object "FrameFinder$Cursor"
  | 5 => .long
  | _ => .boolean
def R_Ro : String := "FrameFinder$Rows"
def F_Ro : u_T := fun k => match k with
  | 0 => ("FrameFinder$Rows", "address", "[J", true)
  | 1 => ("FrameFinder$Rows", "fileOf", "[J", true)
  | 2 => ("FrameFinder$Rows", "lineOf", "[I", true)
  | 3 => ("FrameFinder$Rows", "isEnd", "[Z", true)
  | 4 => ("FrameFinder$Rows", "firstOf", "[I", true)
  | 5 => ("FrameFinder$Rows", "behindOf", "[I", true)
  | 6 => ("FrameFinder$Rows", "files", "[I", true)
  | 7 => ("FrameFinder$Rows", "fileName", "[I", true)
  | _ => ("FrameFinder$Rows", "total", "I", false)
def t_Ro : Nat → FieldType := fun k => match k with
  | 0 => .array .long
  | 1 => .array .long
  | 2 => .array .int
  | 3 => .array .boolean
  | 4 => .array .int
  | 5 => .array .int
  | 6 => .array .int
  | 7 => .array .int
  | _ => .int
def R_Li : String := "FrameFinder$LineReader"
def F_Li : u_T := fun k => match k with
  | 0 => ("FrameFinder$LineReader", "sections", "LFrameFinder$Sections;", true)
  | 1 => ("FrameFinder$LineReader", "entries", "LFrameFinder$Entries;", true)
  | 2 => ("FrameFinder$LineReader", "rows", "LFrameFinder$Rows;", true)
  | 3 => ("FrameFinder$LineReader", "image", "[B", true)
  | 4 => ("FrameFinder$LineReader", "cursor", "LFrameFinder$Cursor;", true)
  | 5 => ("FrameFinder$LineReader", "forms", "[I", true)
  | 6 => ("FrameFinder$LineReader", "formsTotal", "I", false)
  | 7 => ("FrameFinder$LineReader", "nameForm", "I", false)
  | 8 => ("FrameFinder$LineReader", "lineBase", "I", false)
  | 9 => ("FrameFinder$LineReader", "lineRange", "I", false)
  | 10 => ("FrameFinder$LineReader", "firstSpecial", "I", false)
  | 11 => ("FrameFinder$LineReader", "operandsAt", "I", false)
  | 12 => ("FrameFinder$LineReader", "address", "J", false)
  | 13 => ("FrameFinder$LineReader", "fileNow", "J", false)
  | _ => ("FrameFinder$LineReader", "lineNow", "I", false)
def t_Li : Nat → FieldType := fun k => match k with
  | 0 => .object "FrameFinder$Sections"
  | 1 => .object "FrameFinder$Entries"
  | 2 => .object "FrameFinder$Rows"
  | 3 => .array .byte
  | 4 => .object "FrameFinder$Cursor"
  | 5 => .array .int
  | 6 => .int
  | 7 => .int
  | 8 => .int
  | 9 => .int
  | 10 => .int
  | 11 => .int
  | 12 => .long
  | 13 => .long
  | _ => .int
def R_Sy : String := "FrameFinder$Symbols"
def F_Sy : u_T := fun k => match k with
  | 0 => ("FrameFinder$Symbols", "sections", "LFrameFinder$Sections;", true)
  | 1 => ("FrameFinder$Symbols", "cursor", "LFrameFinder$Cursor;", true)
  | 2 => ("FrameFinder$Symbols", "nameAt", "[I", true)
  | 3 => ("FrameFinder$Symbols", "isFunction", "[Z", true)
  | 4 => ("FrameFinder$Symbols", "from", "[J", true)
  | 5 => ("FrameFinder$Symbols", "to", "[J", true)
  | _ => ("FrameFinder$Symbols", "total", "I", false)
def t_Sy : Nat → FieldType := fun k => match k with
  | 0 => .object "FrameFinder$Sections"
  | 1 => .object "FrameFinder$Cursor"
  | 2 => .array .int
  | 3 => .array .boolean
  | 4 => .array .long
  | 5 => .array .long
  | _ => .int
def R_Fr : String := "FrameFinder$Frames"
def F_Fr : u_T := fun k => match k with
  | 0 => ("FrameFinder$Frames", "image", "[B", true)
  | 1 => ("FrameFinder$Frames", "entries", "LFrameFinder$Entries;", true)
  | 2 => ("FrameFinder$Frames", "ranges", "LFrameFinder$Ranges;", true)
  | 3 => ("FrameFinder$Frames", "rows", "LFrameFinder$Rows;", true)
  | 4 => ("FrameFinder$Frames", "symbols", "LFrameFinder$Symbols;", true)
  | 5 => ("FrameFinder$Frames", "chain", "[I", true)
  | 6 => ("FrameFinder$Frames", "nameAt", "[I", true)
  | 7 => ("FrameFinder$Frames", "nameEnd", "[I", true)
  | 8 => ("FrameFinder$Frames", "fileAt", "[I", true)
  | 9 => ("FrameFinder$Frames", "fileEnd", "[I", true)
  | 10 => ("FrameFinder$Frames", "lineOf", "[I", true)
  | _ => ("FrameFinder$Frames", "total", "I", false)
def t_Fr : Nat → FieldType := fun k => match k with
  | 0 => .array .byte
  | 1 => .object "FrameFinder$Entries"
  | 2 => .object "FrameFinder$Ranges"
  | 3 => .object "FrameFinder$Rows"
  | 4 => .object "FrameFinder$Symbols"
  | 5 => .array .int
  | 6 => .array .int
  | 7 => .array .int
  | 8 => .array .int
  | 9 => .array .int
  | 10 => .array .int
  | _ => .int
def R_Mo : String := "FrameFinderModel"
def F_Mo : u_T := fun k => match k with
  | 0 => ("FrameFinderModel", "spelled", "[J", true)
  | 1 => ("FrameFinderModel", "thrown", "I", false)
  | 2 => ("FrameFinderModel", "file", "[B", true)
  | 3 => ("FrameFinderModel", "size", "I", false)
  | 4 => ("FrameFinderModel", "fault", "I", false)
  | 5 => ("FrameFinderModel", "open", "Z", false)
  | 6 => ("FrameFinderModel", "at", "I", false)
  | 7 => ("FrameFinderModel", "end", "I", false)
  | 8 => ("FrameFinderModel", "bad", "Z", false)
  | 9 => ("FrameFinderModel", "sections", "I", false)
  | 10 => ("FrameFinderModel", "secAt", "[I", true)
  | 11 => ("FrameFinderModel", "secSize", "[I", true)
  | 12 => ("FrameFinderModel", "secSeen", "[Z", true)
  | 13 => ("FrameFinderModel", "abbreviations", "I", false)
  | 14 => ("FrameFinderModel", "number", "[J", true)
  | 15 => ("FrameFinderModel", "tagOf", "[J", true)
  | 16 => ("FrameFinderModel", "attribute", "[J", true)
  | 17 => ("FrameFinderModel", "implied", "[J", true)
  | 18 => ("FrameFinderModel", "hasChildren", "[Z", true)
  | 19 => ("FrameFinderModel", "many", "[I", true)
  | 20 => ("FrameFinderModel", "formOf", "[I", true)
  | 21 => ("FrameFinderModel", "units", "I", false)
  | 22 => ("FrameFinderModel", "entries", "I", false)
  | 23 => ("FrameFinderModel", "opened", "I", false)
  | 24 => ("FrameFinderModel", "unitAt", "[I", true)
  | 25 => ("FrameFinderModel", "unitFirst", "[I", true)
  | 26 => ("FrameFinderModel", "pile", "[I", true)
  | 27 => ("FrameFinderModel", "entryAt", "[I", true)
  | 28 => ("FrameFinderModel", "tag", "[I", true)
  | 29 => ("FrameFinderModel", "around", "[I", true)
  | 30 => ("FrameFinderModel", "unitOf", "[I", true)
  | 31 => ("FrameFinderModel", "form", "[I", true)
  | 32 => ("FrameFinderModel", "value", "[J", true)
  | 33 => ("FrameFinderModel", "ranges", "I", false)
  | 34 => ("FrameFinderModel", "rangeFrom", "[I", true)
  | 35 => ("FrameFinderModel", "low", "[J", true)
  | 36 => ("FrameFinderModel", "high", "[J", true)
  | 37 => ("FrameFinderModel", "found", "J", false)
  | 38 => ("FrameFinderModel", "rows", "I", false)
  | 39 => ("FrameFinderModel", "files", "[I", true)
  | 40 => ("FrameFinderModel", "fileName", "[I", true)
  | 41 => ("FrameFinderModel", "rowLine", "[I", true)
  | 42 => ("FrameFinderModel", "rowsFrom", "[I", true)
  | 43 => ("FrameFinderModel", "whatForm", "[I", true)
  | 44 => ("FrameFinderModel", "rowAddress", "[J", true)
  | 45 => ("FrameFinderModel", "rowFile", "[J", true)
  | 46 => ("FrameFinderModel", "rowEnd", "[Z", true)
  | 47 => ("FrameFinderModel", "lineAddress", "J", false)
  | 48 => ("FrameFinderModel", "lineFile", "J", false)
  | 49 => ("FrameFinderModel", "lineLine", "I", false)
  | 50 => ("FrameFinderModel", "firstCode", "I", false)
  | 51 => ("FrameFinderModel", "lengths", "I", false)
  | 52 => ("FrameFinderModel", "lineBase", "I", false)
  | 53 => ("FrameFinderModel", "lineRange", "I", false)
  | 54 => ("FrameFinderModel", "symbols", "I", false)
  | 55 => ("FrameFinderModel", "chain", "I", false)
  | 56 => ("FrameFinderModel", "frames", "I", false)
  | 57 => ("FrameFinderModel", "symbolName", "I", false)
  | 58 => ("FrameFinderModel", "link", "[I", true)
  | _ => ("FrameFinderModel", "sought", "J", false)
def t_Mo : Nat → FieldType := fun k => match k with
  | 0 => .array .long
  | 1 => .int
  | 2 => .array .byte
  | 3 => .int
  | 4 => .int
  | 5 => .boolean
  | 6 => .int
  | 7 => .int
  | 8 => .boolean
  | 9 => .int
  | 10 => .array .int
  | 11 => .array .int
  | 12 => .array .boolean
  | 13 => .int
  | 14 => .array .long
  | 15 => .array .long
  | 16 => .array .long
  | 17 => .array .long
  | 18 => .array .boolean
  | 19 => .array .int
  | 20 => .array .int
  | 21 => .int
  | 22 => .int
  | 23 => .int
  | 24 => .array .int
  | 25 => .array .int
  | 26 => .array .int
  | 27 => .array .int
  | 28 => .array .int
  | 29 => .array .int
  | 30 => .array .int
  | 31 => .array .int
  | 32 => .array .long
  | 33 => .int
  | 34 => .array .int
  | 35 => .array .long
  | 36 => .array .long
  | 37 => .long
  | 38 => .int
  | 39 => .array .int
  | 40 => .array .int
  | 41 => .array .int
  | 42 => .array .int
  | 43 => .array .int
  | 44 => .array .long
  | 45 => .array .long
  | 46 => .array .boolean
  | 47 => .long
  | 48 => .long
  | 49 => .int
  | 50 => .int
  | 51 => .int
  | 52 => .int
  | 53 => .int
  | 54 => .int
  | 55 => .int
  | 56 => .int
  | 57 => .int
  | 58 => .array .int
  | _ => .long
def cl_c : List vw_C := [(R_F, F_F, 13), (R_Se, F_Se, 11), (R_Cu, F_Cu, 4), (R_En, F_En, 12), (R_Ur, F_Ur, 7), (R_Ab, F_Ab, 8), (R_Ra, F_Ra, 5), (R_Va, F_Va, 7), (R_Ro, F_Ro, 9), (R_Li, F_Li, 15), (R_Sy, F_Sy, 7), (R_Fr, F_Fr, 12)]
def cl_m : List vw_C := [(R_Mo, F_Mo, 60)]
def sl_c : List am_C := [.inr (0, [some (some 1), some (some 2), some (some 10), some (some 21), some (some 32), some (some 37), some (some 40), some (some 49), some (some 52), some (some 58), none, none, none]), .inl (2, .byte, 3000), .inr (1, [some (some 1), some (some 9), some (some 3), some (some 4), some (some 5), some (some 6), some (some 7), some (some 8), none, none, none]), .inl (0, .int, 24), .inl (0, .int, 24), .inl (1, .long, 24), .inl (0, .int, 10), .inl (0, .int, 10), .inl (3, .boolean, 10), .inr (2, [some (some 1), none, none, none]), .inr (3, [some (some 11), some (some 12), some (some 13), some (some 14), some (some 15), some (some 16), some (some 17), some (some 18), some (some 19), some (some 20), none, none]), .inl (1, .long, 200), .inl (0, .int, 200), .inl (0, .int, 200), .inl (0, .int, 200), .inl (0, .int, 1400), .inl (1, .long, 1400), .inl (0, .int, 4), .inl (0, .int, 4), .inl (0, .int, 16), .inl (1, .long, 16), .inr (4, [some (some 2), some (some 10), some (some 22), some (some 30), some (some 31), none, none]), .inr (5, [some (some 23), some (some 24), some (some 25), some (some 26), some (some 27), some (some 28), some (some 29), none]), .inl (1, .long, 40), .inl (1, .long, 40), .inl (3, .boolean, 40), .inl (0, .int, 40), .inl (1, .long, 480), .inl (0, .int, 480), .inl (1, .long, 480), .inr (2, [some (some 1), none, none, none]), .inr (2, [some (some 1), none, none, none]), .inr (6, [some (some 33), some (some 34), some (some 35), some (some 36), none]), .inl (1, .long, 300), .inl (1, .long, 300), .inl (0, .int, 200), .inl (0, .int, 200), .inr (7, [some (some 2), some (some 10), some (some 32), some (some 38), some (some 39), some none, none]), .inr (2, [some (some 1), none, none, none]), .inr (2, [some (some 1), none, none, none]), .inr (8, [some (some 41), some (some 42), some (some 43), some (some 44), some (some 45), some (some 46), some (some 47), some (some 48), none]), .inl (1, .long, 400), .inl (1, .long, 400), .inl (0, .int, 400), .inl (3, .boolean, 400), .inl (0, .int, 4), .inl (0, .int, 4), .inl (0, .int, 4), .inl (0, .int, 120), .inr (9, [some (some 2), some (some 10), some (some 40), some (some 1), some (some 51), some (some 50), none, none, none, none, none, none, some none, some none, none]), .inl (0, .int, 6), .inr (2, [some (some 1), none, none, none]), .inr (10, [some (some 2), some (some 57), some (some 53), some (some 54), some (some 55), some (some 56), none]), .inl (0, .int, 60), .inl (3, .boolean, 60), .inl (1, .long, 60), .inl (1, .long, 60), .inr (2, [some (some 1), none, none, none]), .inr (11, [some (some 1), some (some 10), some (some 32), some (some 40), some (some 52), some (some 59), some (some 60), some (some 61), some (some 62), some (some 63), some (some 64), none]), .inl (0, .int, 16), .inl (0, .int, 16), .inl (0, .int, 16), .inl (0, .int, 16), .inl (0, .int, 16), .inl (0, .int, 16), .inl (0, .int, 7), .inl (0, .int, 7), .inl (0, .int, 4)]
def sh_c (k : Nat) : am_C := sl_c.getD k (.inl (9, .int, 0))
def cs_c (k j : Nat) : Int32 := match k with
  | 65 => ([127, 69, 76, 70, 2, 1, 1] : List Int32).getD j 0
  | 66 => ([3, 17, 18, 85, 49, 88, 89] : List Int32).getD j 0
  | 67 => ([16, 114, 115, 116] : List Int32).getD j 0
  | _ => 0
def S_c : am_Sy := (cl_c, sh_c, (65, 68, cs_c), tw_, nw_, "FrameFinder", [(65, "FrameFinder", "MAGIC", "[I"), (66, "FrameFinder", "ATTRIBUTES", "[I"), (67, "FrameFinder", "UNIT_ATTRIBUTES", "[I")], [(Bundle.tN, "UNASSIGNED_STACK", Bundle.steD), (Bundle.tN, "SUPPRESSED_SENTINEL", Bundle.listD), ("jdk/internal/util/Preconditions", "SIOOBE_FORMATTER", "Ljava/util/function/BiFunction;")])
def sl_m : List am_C := [.inr (0, [some (some 1), none, some (some 2), none, none, none, none, none, none, none, some (some 3), some (some 4), some (some 5), none, some (some 6), some (some 7), some (some 8), some (some 9), some (some 10), some (some 11), some (some 12), none, none, none, some (some 13), some (some 14), some (some 15), some (some 16), some (some 17), some (some 18), some (some 19), some (some 20), some (some 21), none, some (some 22), some (some 23), some (some 24), some none, none, some (some 25), some (some 26), some (some 27), some (some 28), some (some 29), some (some 30), some (some 31), some (some 32), some none, some none, none, none, none, none, none, none, none, none, none, some (some 33), some none]), .inl (1, .long, 30), .inl (2, .byte, 3000), .inl (0, .int, 10), .inl (0, .int, 10), .inl (3, .boolean, 10), .inl (1, .long, 40), .inl (1, .long, 40), .inl (1, .long, 480), .inl (1, .long, 480), .inl (3, .boolean, 40), .inl (0, .int, 40), .inl (0, .int, 480), .inl (0, .int, 4), .inl (0, .int, 4), .inl (0, .int, 16), .inl (0, .int, 200), .inl (0, .int, 200), .inl (0, .int, 200), .inl (0, .int, 200), .inl (0, .int, 2200), .inl (1, .long, 2200), .inl (0, .int, 201), .inl (1, .long, 300), .inl (1, .long, 300), .inl (0, .int, 4), .inl (0, .int, 120), .inl (0, .int, 400), .inl (0, .int, 5), .inl (0, .int, 6), .inl (1, .long, 400), .inl (1, .long, 400), .inl (3, .boolean, 400), .inl (0, .int, 200)]
def sh_m (k : Nat) : am_C := sl_m.getD k (.inl (9, .int, 0))
def cs_m (k j : Nat) : Int32 := match k with
  | _ => 0
def S_m : am_Sy := (cl_m, sh_m, (34, 34, cs_m), tw_, nw_, "FrameFinderModel", [], [])
def Y_F : am_Y := (R_F, [(156, .long (-9223372036854775808))], [(9, 0, 0, 2, false), (18, 0, 1, 2, false), (25, 0, 2, 2, false), (34, 0, 3, 2, false), (41, 0, 4, 2, false), (50, 0, 5, 2, false), (57, 0, 6, 2, false), (66, 0, 7, 2, false), (75, 0, 8, 2, false), (84, 0, 9, 2, false), (88, 0, 10, 0, false), (95, 0, 12, 0, false), (111, 0, 11, 3, false), (115, 3, 10, 0, true), (118, 1, 8, 0, true), (119, 3, 11, 0, true), (122, 6, 4, 0, true), (123, 8, 8, 0, true), (124, 10, 6, 0, true), (135, 11, 6, 2, true), (139, 11, 7, 2, true), (146, 11, 8, 2, true), (149, 11, 9, 2, true), (152, 11, 10, 2, true), (155, 11, 11, 0, true)], [])
theorem kY_F : am_kok Y_F tw_ := am_kB_ok (hs := [1207]) (by decide +kernel)
theorem fY_F : am_fok Y_F cl_c tw_ nw_ "FrameFinder" := am_fB_ok (hs := [580, 581, 582, 583, 584, 585, 586, 587, 588, 589, 590, 592, 591, 257, 196, 261, 366, 425, 515, 544, 546, 548, 550, 552, 554]) (by decide +kernel)
theorem sY_F : am_sok Y_F (am_zs S_c) tw_ nw_ "FrameFinder" := am_sB_ok (hs := []) (by decide +kernel)
set_option maxRecDepth 100000 in
theorem oY_F : am_okY S_c Y_F := ⟨kY_F, fY_F, sY_F⟩
def Y_Se : am_Y := (R_Se, [(93, .long (64)), (98, .long (16)), (104, .long (8))], [(9, 1, 2, 2, false), (15, 1, 3, 2, false), (18, 1, 4, 2, false), (22, 1, 5, 2, false), (25, 1, 6, 2, false), (28, 1, 7, 2, false), (32, 1, 0, 2, false), (41, 1, 1, 2, false), (49, 1, 8, 0, false), (61, 2, 1, 0, true), (64, 2, 2, 0, true), (67, 2, 3, 3, true), (90, 1, 10, 0, false), (95, 1, 9, 0, false)], [(79, 65, 0, true)])
theorem kY_Se : am_kok Y_Se tw_ := am_kB_ok (hs := [686, 691, 696]) (by decide +kernel)
theorem fY_Se : am_fok Y_Se cl_c tw_ nw_ "FrameFinder" := am_fB_ok (hs := [189, 190, 191, 192, 193, 194, 187, 188, 195, 161, 166, 171, 198, 197]) (by decide +kernel)
theorem sY_Se : am_sok Y_Se (am_zs S_c) tw_ nw_ "FrameFinder" := am_sB_ok (hs := [676]) (by decide +kernel)
set_option maxRecDepth 100000 in
theorem oY_Se : am_okY S_c Y_Se := ⟨kY_Se, fY_Se, sY_Se⟩
def Y_Cu : am_Y := (R_Cu, [(30, .long (-1))], [(9, 2, 0, 2, false), (15, 2, 1, 0, false), (19, 2, 2, 0, false), (22, 2, 3, 3, false)], [])
theorem kY_Cu : am_kok Y_Cu tw_ := am_kB_ok (hs := [809]) (by decide +kernel)
theorem fY_Cu : am_fok Y_Cu cl_c tw_ nw_ "FrameFinder" := am_fB_ok (hs := [156, 157, 162, 167]) (by decide +kernel)
theorem sY_Cu : am_sok Y_Cu (am_zs S_c) tw_ nw_ "FrameFinder" := am_sB_ok (hs := []) (by decide +kernel)
set_option maxRecDepth 100000 in
theorem oY_Cu : am_okY S_c Y_Cu := ⟨kY_Cu, fY_Cu, sY_Cu⟩
def Y_En : am_Y := (R_En, [(68, .long (17)), (70, .long (46)), (72, .long (29)), (74, .long (11))], [(9, 3, 0, 2, false), (15, 3, 1, 2, false), (19, 3, 2, 2, false), (22, 3, 3, 2, false), (25, 3, 4, 2, false), (28, 3, 5, 2, false), (31, 3, 6, 2, false), (34, 3, 7, 2, false), (37, 3, 8, 2, false), (40, 3, 9, 2, false), (43, 3, 10, 0, false), (47, 3, 11, 0, false)], [(50, 66, 1, true), (57, 67, 2, true)])
theorem kY_En : am_kok Y_En tw_ := am_kB_ok (hs := [890, 891, 892, 893]) (by decide +kernel)
theorem fY_En : am_fok Y_En cl_c tw_ nw_ "FrameFinder" := am_fB_ok (hs := [228, 231, 234, 237, 239, 241, 243, 245, 247, 250, 253, 258]) (by decide +kernel)
theorem sY_En : am_sok Y_En (am_zs S_c) tw_ nw_ "FrameFinder" := am_sB_ok (hs := [879, 884]) (by decide +kernel)
set_option maxRecDepth 100000 in
theorem oY_En : am_okY S_c Y_En := ⟨kY_En, fY_En, sY_En⟩
def Y_Ur : am_Y := (R_Ur, [(71, .long (5)), (73, .long (8)), (115, .long (17))], [(9, 4, 0, 2, false), (15, 4, 1, 2, false), (22, 4, 2, 2, false), (31, 4, 3, 2, false), (35, 4, 4, 2, false), (49, 2, 2, 0, true), (53, 2, 1, 0, true), (67, 2, 3, 3, true), (83, 4, 5, 0, false), (86, 4, 6, 0, false), (89, 3, 10, 0, true), (103, 3, 1, 2, true), (111, 5, 1, 2, true), (121, 5, 3, 2, true), (124, 5, 5, 2, true), (127, 5, 4, 2, true), (130, 5, 6, 2, true), (141, 5, 2, 2, true)], [])
theorem kY_Ur : am_kok Y_Ur tw_ := am_kB_ok (hs := [791, 792, 863]) (by decide +kernel)
theorem fY_Ur : am_fok Y_Ur cl_c tw_ nw_ "FrameFinder" := am_fB_ok (hs := [332, 333, 334, 335, 336, 164, 159, 169, 337, 338, 256, 232, 301, 305, 309, 307, 311, 303]) (by decide +kernel)
theorem sY_Ur : am_sok Y_Ur (am_zs S_c) tw_ nw_ "FrameFinder" := am_sB_ok (hs := []) (by decide +kernel)
set_option maxRecDepth 100000 in
theorem oY_Ur : am_okY S_c Y_Ur := ⟨kY_Ur, fY_Ur, sY_Ur⟩
def Y_Ab : am_Y := (R_Ab, [(64, .long (33)), (75, .long (19)), (77, .long (23)), (79, .long (24)), (81, .long (27)), (83, .long (35)), (85, .long (11)), (87, .long (5)), (89, .long (6)), (91, .long (7)), (93, .long (13)), (95, .long (15)), (97, .long (25)), (99, .long (8)), (101, .long (14)), (103, .long (31)), (105, .long (37))], [(9, 5, 0, 2, false), (15, 5, 1, 2, false), (18, 5, 2, 2, false), (22, 5, 3, 2, false), (26, 5, 4, 2, false), (29, 5, 5, 2, false), (32, 5, 6, 2, false), (35, 5, 7, 0, false), (45, 2, 3, 3, true)], [])
theorem kY_Ab : am_kok Y_Ab tw_ := am_kB_ok (hs := [831, 840, 841, 842, 843, 844, 825, 826, 827, 828, 829, 830, 832, 836, 837, 838, 839]) (by decide +kernel)
theorem fY_Ab : am_fok Y_Ab cl_c tw_ nw_ "FrameFinder" := am_fB_ok (hs := [299, 300, 302, 304, 306, 308, 310, 312, 168]) (by decide +kernel)
theorem sY_Ab : am_sok Y_Ab (am_zs S_c) tw_ nw_ "FrameFinder" := am_sB_ok (hs := []) (by decide +kernel)
set_option maxRecDepth 100000 in
theorem oY_Ab : am_okY S_c Y_Ab := ⟨kY_Ab, fY_Ab, sY_Ab⟩
def Y_Ra : am_Y := (R_Ra, [], [(9, 6, 0, 2, false), (15, 6, 1, 2, false), (18, 6, 2, 2, false), (22, 6, 3, 2, false), (25, 6, 4, 0, false)], [])
theorem kY_Ra : am_kok Y_Ra tw_ := am_kB_ok (hs := []) (by decide +kernel)
theorem fY_Ra : am_fok Y_Ra cl_c tw_ nw_ "FrameFinder" := am_fB_ok (hs := [360, 361, 362, 363, 364]) (by decide +kernel)
theorem sY_Ra : am_sok Y_Ra (am_zs S_c) tw_ nw_ "FrameFinder" := am_sB_ok (hs := []) (by decide +kernel)
set_option maxRecDepth 100000 in
theorem oY_Ra : am_okY S_c Y_Ra := ⟨kY_Ra, fY_Ra, sY_Ra⟩
def Y_Va : am_Y := (R_Va, [(153, .long (46)), (155, .long (29)), (192, .long (3000))], [(9, 7, 0, 2, false), (15, 7, 1, 2, false), (19, 7, 2, 2, false), (28, 7, 3, 2, false), (32, 7, 4, 2, false), (35, 7, 6, 3, false), (39, 6, 4, 0, true), (45, 3, 11, 0, true), (50, 3, 8, 2, true), (54, 3, 10, 0, true), (87, 3, 5, 2, true), (91, 3, 4, 2, true), (98, 3, 2, 2, true), (147, 3, 7, 2, true), (150, 3, 0, 2, true), (157, 3, 3, 2, true), (160, 3, 6, 2, true), (163, 7, 5, 1, false), (174, 2, 3, 3, true), (189, 3, 9, 2, true)], [])
theorem kY_Va : am_kok Y_Va tw_ := am_kB_ok (hs := [971, 972, 943]) (by decide +kernel)
theorem fY_Va : am_fok Y_Va cl_c tw_ nw_ "FrameFinder" := am_fB_ok (hs := [386, 387, 388, 389, 390, 392, 365, 260, 248, 254, 242, 240, 235, 246, 230, 238, 244, 391, 173, 252]) (by decide +kernel)
theorem sY_Va : am_sok Y_Va (am_zs S_c) tw_ nw_ "FrameFinder" := am_sB_ok (hs := []) (by decide +kernel)
set_option maxRecDepth 100000 in
theorem oY_Va : am_okY S_c Y_Va := ⟨kY_Va, fY_Va, sY_Va⟩
def Y_Ro : am_Y := (R_Ro, [], [(9, 8, 0, 2, false), (15, 8, 1, 2, false), (18, 8, 2, 2, false), (22, 8, 3, 2, false), (26, 8, 4, 2, false), (29, 8, 5, 2, false), (32, 8, 6, 2, false), (35, 8, 7, 2, false), (38, 8, 8, 0, false)], [])
theorem kY_Ro : am_kok Y_Ro tw_ := am_kB_ok (hs := []) (by decide +kernel)
theorem fY_Ro : am_fok Y_Ro cl_c tw_ nw_ "FrameFinder" := am_fB_ok (hs := [414, 415, 417, 419, 420, 421, 422, 423, 424]) (by decide +kernel)
theorem sY_Ro : am_sok Y_Ro (am_zs S_c) tw_ nw_ "FrameFinder" := am_sB_ok (hs := []) (by decide +kernel)
set_option maxRecDepth 100000 in
theorem oY_Ro : am_okY S_c Y_Ro := ⟨kY_Ro, fY_Ro, sY_Ro⟩
def Y_Li : am_Y := (R_Li, [(88, .long (5)), (90, .long (8)), (140, .long (31)), (142, .long (11)), (144, .long (15))], [(9, 9, 5, 2, false), (15, 9, 3, 2, false), (19, 9, 0, 2, false), (23, 9, 1, 2, false), (27, 9, 2, 2, false), (36, 9, 4, 2, false), (45, 3, 11, 0, true), (55, 3, 8, 2, true), (58, 3, 9, 2, true), (79, 2, 3, 3, true), (83, 2, 2, 0, true), (85, 2, 1, 0, true), (107, 9, 8, 0, false), (110, 9, 9, 0, false), (113, 9, 10, 0, false), (116, 9, 11, 0, false), (126, 9, 6, 0, false), (137, 9, 7, 0, false), (168, 9, 12, 1, false), (172, 9, 13, 1, false), (175, 9, 14, 0, false)], [])
theorem kY_Li : am_kok Y_Li tw_ := am_kB_ok (hs := [1021, 1022, 1037, 1038, 1039]) (by decide +kernel)
theorem fY_Li : am_fok Y_Li cl_c tw_ nw_ "FrameFinder" := am_fB_ok (hs := [458, 456, 453, 454, 455, 457, 259, 249, 251, 170, 165, 160, 461, 462, 463, 464, 459, 460, 465, 466, 467]) (by decide +kernel)
theorem sY_Li : am_sok Y_Li (am_zs S_c) tw_ nw_ "FrameFinder" := am_sB_ok (hs := []) (by decide +kernel)
set_option maxRecDepth 100000 in
theorem oY_Li : am_okY S_c Y_Li := ⟨kY_Li, fY_Li, sY_Li⟩
def Y_Sy : am_Y := (R_Sy, [(71, .long (15)), (73, .long (2)), (75, .long (3))], [(9, 10, 2, 2, false), (15, 10, 3, 2, false), (19, 10, 4, 2, false), (23, 10, 5, 2, false), (26, 10, 0, 2, false), (35, 10, 1, 2, false), (39, 10, 6, 0, false), (49, 2, 2, 0, true), (52, 2, 1, 0, true), (81, 2, 3, 3, true)], [])
theorem kY_Sy : am_kok Y_Sy tw_ := am_kB_ok (hs := [1102, 1103, 1104]) (by decide +kernel)
theorem fY_Sy : am_fok Y_Sy cl_c tw_ nw_ "FrameFinder" := am_fB_ok (hs := [509, 511, 512, 513, 507, 508, 514, 163, 158, 172]) (by decide +kernel)
theorem sY_Sy : am_sok Y_Sy (am_zs S_c) tw_ nw_ "FrameFinder" := am_sB_ok (hs := []) (by decide +kernel)
set_option maxRecDepth 100000 in
theorem oY_Sy : am_okY S_c Y_Sy := ⟨kY_Sy, fY_Sy, sY_Sy⟩
def Y_Fr : am_Y := (R_Fr, [(79, .long (46)), (98, .long (29)), (107, .long (11))], [(9, 11, 5, 2, false), (15, 11, 6, 2, false), (18, 11, 7, 2, false), (21, 11, 8, 2, false), (24, 11, 9, 2, false), (27, 11, 10, 2, false), (30, 11, 0, 2, false), (34, 11, 1, 2, false), (38, 11, 2, 2, false), (42, 11, 3, 2, false), (46, 11, 4, 2, false), (50, 11, 11, 0, false), (67, 10, 2, 2, true), (72, 3, 10, 0, true), (75, 3, 0, 2, true), (104, 3, 1, 2, true), (113, 3, 2, 2, true), (125, 8, 1, 2, true), (131, 8, 2, 2, true)], [])
theorem kY_Fr : am_kok Y_Fr tw_ := am_kB_ok (hs := [1199, 1216, 1221]) (by decide +kernel)
theorem fY_Fr : am_fok Y_Fr cl_c tw_ nw_ "FrameFinder" := am_fB_ok (hs := [542, 543, 545, 547, 549, 551, 537, 538, 539, 540, 541, 553, 510, 255, 229, 233, 236, 416, 418]) (by decide +kernel)
theorem sY_Fr : am_sok Y_Fr (am_zs S_c) tw_ nw_ "FrameFinder" := am_sB_ok (hs := []) (by decide +kernel)
set_option maxRecDepth 100000 in
theorem oY_Fr : am_okY S_c Y_Fr := ⟨kY_Fr, fY_Fr, sY_Fr⟩
def Y_Mo : am_Y := (R_Mo, [(7, .long (7016440498326168622)), (9, .long (508508136034)), (11, .long (7592901250629592110)), (13, .long (7300718)), (15, .long (8313477191008871470)), (17, .long (29300)), (19, .long (7809074032743375918)), (21, .long (32216186215558761)), (23, .long (7310299210293670516)), (25, .long (29556)), (27, .long (7496804)), (29, .long (8241419596970943534)), (31, .long (32497661360498542)), (33, .long (6647401)), (35, .long (27691700398420782)), (37, .long (27691700481979182)), (181, .long (-1)), (195, .long (282584257676671)), (197, .long (64)), (199, .long (24)), (205, .long (255)), (207, .long (8)), (235, .long (33)), (248, .long (2)), (273, .long (17)), (282, .long (5)), (297, .long (3000)), (371, .long (31)), (373, .long (11)), (375, .long (15)), (380, .long (30)), (392, .long (9)), (409, .long (10)), (411, .long (200)), (444, .long (-9223372036854775808))], [(39, 0, 0, 2, false), (45, 0, 2, 2, false), (49, 0, 10, 2, false), (53, 0, 11, 2, false), (56, 0, 12, 2, false), (60, 0, 14, 2, false), (63, 0, 15, 2, false), (66, 0, 16, 2, false), (69, 0, 17, 2, false), (72, 0, 18, 2, false), (75, 0, 19, 2, false), (78, 0, 20, 2, false), (81, 0, 24, 2, false), (84, 0, 25, 2, false), (87, 0, 26, 2, false), (90, 0, 27, 2, false), (93, 0, 28, 2, false), (96, 0, 29, 2, false), (99, 0, 30, 2, false), (102, 0, 31, 2, false), (105, 0, 32, 2, false), (108, 0, 34, 2, false), (111, 0, 35, 2, false), (114, 0, 36, 2, false), (117, 0, 39, 2, false), (120, 0, 40, 2, false), (123, 0, 41, 2, false), (126, 0, 42, 2, false), (129, 0, 43, 2, false), (132, 0, 44, 2, false), (135, 0, 45, 2, false), (138, 0, 46, 2, false), (141, 0, 58, 2, false), (144, 0, 1, 0, false), (148, 0, 3, 0, false), (154, 0, 5, 3, false), (158, 0, 56, 0, false), (161, 0, 55, 0, false), (164, 0, 8, 3, false), (167, 0, 6, 0, false), (170, 0, 7, 0, false), (213, 0, 9, 0, false), (237, 0, 13, 0, false), (257, 0, 22, 0, false), (260, 0, 23, 0, false), (263, 0, 21, 0, false), (313, 0, 37, 1, false), (340, 0, 33, 0, false), (359, 0, 47, 1, false), (362, 0, 48, 1, false), (365, 0, 49, 0, false), (368, 0, 38, 0, false), (394, 0, 50, 0, false), (397, 0, 53, 0, false), (400, 0, 52, 0, false), (406, 0, 51, 0, false), (423, 0, 54, 0, false), (441, 0, 4, 0, false), (449, 0, 59, 1, false), (470, 0, 57, 0, false)], [])
theorem kY_Mo : am_kok Y_Mo tw_ := am_kB_ok (hs := [1269, 1270, 1271, 1272, 1273, 1274, 1275, 1276, 1277, 1278, 1279, 1280, 1281, 1282, 1283, 1284, 1551, 1498, 1499, 1500, 1521, 1508, 1564, 1556, 1569, 1534, 1625, 1682, 1683, 1684, 1685, 1706, 1672, 1673, 1737]) (by decide +kernel)
theorem fY_Mo : am_fok Y_Mo cl_m tw_ nw_ "FrameFinderModel" := am_fB_ok (hs := [1285, 1287, 1295, 1296, 1297, 1299, 1300, 1301, 1302, 1303, 1304, 1305, 1309, 1310, 1311, 1312, 1313, 1314, 1315, 1316, 1317, 1319, 1320, 1321, 1324, 1325, 1326, 1327, 1328, 1329, 1330, 1331, 1343, 1286, 1288, 1290, 1341, 1340, 1293, 1291, 1292, 1294, 1298, 1307, 1308, 1306, 1322, 1318, 1332, 1333, 1334, 1323, 1335, 1338, 1337, 1336, 1339, 1289, 1344, 1342]) (by decide +kernel)
theorem sY_Mo : am_sok Y_Mo (am_zs S_m) tw_ nw_ "FrameFinderModel" := am_sB_ok (hs := []) (by decide +kernel)
set_option maxRecDepth 100000 in
theorem oY_Mo : am_okY S_m Y_Mo := ⟨kY_Mo, fY_Mo, sY_Mo⟩
