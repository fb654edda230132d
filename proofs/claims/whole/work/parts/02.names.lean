abbrev R_Main : String := "SheetPrinter"
def F_Main : u_T := fun k => match k with
  | 0 => ("SheetPrinter", "dpi", "I", true)
  | 1 => ("SheetPrinter", "tape", "[B", true)
  | 2 => ("SheetPrinter", "page", "LSheetPrinter$Page;", true)
  | 3 => ("SheetPrinter", "sheet", "LSheetPrinter$Sheet;", true)
  | 4 => ("SheetPrinter", "fonts", "LSheetPrinter$FontShelf;", true)
  | 5 => ("SheetPrinter", "macros", "LSheetPrinter$Macros;", true)
  | 6 => ("SheetPrinter", "raster", "LSheetPrinter$Raster;", true)
  | 7 => ("SheetPrinter", "interpreter", "LSheetPrinter$Interpreter;", true)
  | 8 => ("SheetPrinter", "picture", "LSheetPrinter$PictureFile;", true)
  | 9 => ("SheetPrinter", "coder", "LSheetPrinter$Coder;", true)
  | 10 => ("SheetPrinter", "reader", "LSheetPrinter$LineReader;", true)
  | 11 => ("SheetPrinter", "file", "LSheetPrinter$OutFile;", false)
  | 12 => ("SheetPrinter", "shown", "LSheetPrinter$OutFile;", false)
  | 13 => ("SheetPrinter", "taped", "I", false)
  | 14 => ("SheetPrinter", "fault", "I", false)
  | 15 => ("SheetPrinter", "ended", "I", false)
  | 16 => ("SheetPrinter", "overruns", "I", false)
  | _ => ("SheetPrinter", "pictures", "I", false)
def t_Main : Nat → FieldType := fun k => match k with
  | 0 => .int
  | 1 => (.array .byte)
  | 2 => (.object "SheetPrinter$Page")
  | 3 => (.object "SheetPrinter$Sheet")
  | 4 => (.object "SheetPrinter$FontShelf")
  | 5 => (.object "SheetPrinter$Macros")
  | 6 => (.object "SheetPrinter$Raster")
  | 7 => (.object "SheetPrinter$Interpreter")
  | 8 => (.object "SheetPrinter$PictureFile")
  | 9 => (.object "SheetPrinter$Coder")
  | 10 => (.object "SheetPrinter$LineReader")
  | 11 => (.object "SheetPrinter$OutFile")
  | 12 => (.object "SheetPrinter$OutFile")
  | 13 => .int
  | 14 => .int
  | 15 => .int
  | 16 => .int
  | _ => .int
theorem no_Main : ∀ a, a < 18 → ∀ b, b < 18 → a ≠ b → (F_Main a).2.1 ≠ (F_Main b).2.1 := by decide +kernel
theorem to_Main : ∀ k, k < 18 → parseFieldDescriptor (F_Main k).2.2.1 = some (t_Main k) := by decide +kernel
abbrev R_Ref : String := "SheetPrinterModel"
def F_Ref : u_T := fun k => match k with
  | 0 => ("SheetPrinterModel", "thrown", "I", false)
  | 1 => ("SheetPrinterModel", "dpi", "I", true)
  | 2 => ("SheetPrinterModel", "desk", "LSheetPrinterModel$Desk;", true)
  | 3 => ("SheetPrinterModel", "shelf", "LSheetPrinterModel$Shelf;", true)
  | 4 => ("SheetPrinterModel", "macros", "LSheetPrinterModel$Macros;", true)
  | 5 => ("SheetPrinterModel", "sheet", "LSheetPrinterModel$Sheet;", true)
  | 6 => ("SheetPrinterModel", "lines", "LSheetPrinterModel$Lines;", true)
  | 7 => ("SheetPrinterModel", "view", "LSheetPrinterModel$Lines;", true)
  | 8 => ("SheetPrinterModel", "job", "LSheetPrinterModel$Pictures;", false)
  | 9 => ("SheetPrinterModel", "shown", "LSheetPrinterModel$Pictures;", false)
  | 10 => ("SheetPrinterModel", "part", "LSheetPrinterModel$Pictures;", true)
  | 11 => ("SheetPrinterModel", "tape", "[B", true)
  | 12 => ("SheetPrinterModel", "onTape", "I", false)
  | 13 => ("SheetPrinterModel", "fault", "I", false)
  | 14 => ("SheetPrinterModel", "jobs", "I", false)
  | 15 => ("SheetPrinterModel", "comeTo", "I", false)
  | 16 => ("SheetPrinterModel", "overruns", "I", false)
  | 17 => ("SheetPrinterModel", "pages", "[I", false)
  | 18 => ("SheetPrinterModel", "shownPages", "[I", false)
  | 19 => ("SheetPrinterModel", "viewPage", "I", false)
  | 20 => ("SheetPrinterModel", "viewLine", "I", false)
  | 21 => ("SheetPrinterModel", "ruleWide", "I", false)
  | 22 => ("SheetPrinterModel", "ruleHigh", "I", false)
  | 23 => ("SheetPrinterModel", "pattern", "I", false)
  | 24 => ("SheetPrinterModel", "resolution", "I", false)
  | 25 => ("SheetPrinterModel", "nextWidth", "I", false)
  | 26 => ("SheetPrinterModel", "nextHeight", "I", false)
  | 27 => ("SheetPrinterModel", "method", "I", false)
  | 28 => ("SheetPrinterModel", "open", "Z", false)
  | 29 => ("SheetPrinterModel", "rasterX", "I", false)
  | 30 => ("SheetPrinterModel", "rasterY", "I", false)
  | 31 => ("SheetPrinterModel", "rasterWidth", "I", false)
  | 32 => ("SheetPrinterModel", "rasterHeight", "I", false)
  | 33 => ("SheetPrinterModel", "scale", "I", false)
  | 34 => ("SheetPrinterModel", "row", "I", false)
  | 35 => ("SheetPrinterModel", "length", "I", false)
  | 36 => ("SheetPrinterModel", "seed", "[I", true)
  | 37 => ("SheetPrinterModel", "fresh", "[I", true)
  | 38 => ("SheetPrinterModel", "macroId", "I", false)
  | 39 => ("SheetPrinterModel", "had", "I", false)
  | 40 => ("SheetPrinterModel", "xMany", "I", false)
  | 41 => ("SheetPrinterModel", "xWhat", "[I", true)
  | 42 => ("SheetPrinterModel", "xId", "[I", true)
  | 43 => ("SheetPrinterModel", "toDo", "[I", true)
  | 44 => ("SheetPrinterModel", "toDoId", "[I", true)
  | 45 => ("SheetPrinterModel", "bytes1", "[B", true)
  | _ => ("SheetPrinterModel", "bytes2", "[B", true)
def t_Ref : Nat → FieldType := fun k => match k with
  | 0 => .int
  | 1 => .int
  | 2 => (.object "SheetPrinterModel$Desk")
  | 3 => (.object "SheetPrinterModel$Shelf")
  | 4 => (.object "SheetPrinterModel$Macros")
  | 5 => (.object "SheetPrinterModel$Sheet")
  | 6 => (.object "SheetPrinterModel$Lines")
  | 7 => (.object "SheetPrinterModel$Lines")
  | 8 => (.object "SheetPrinterModel$Pictures")
  | 9 => (.object "SheetPrinterModel$Pictures")
  | 10 => (.object "SheetPrinterModel$Pictures")
  | 11 => (.array .byte)
  | 12 => .int
  | 13 => .int
  | 14 => .int
  | 15 => .int
  | 16 => .int
  | 17 => (.array .int)
  | 18 => (.array .int)
  | 19 => .int
  | 20 => .int
  | 21 => .int
  | 22 => .int
  | 23 => .int
  | 24 => .int
  | 25 => .int
  | 26 => .int
  | 27 => .int
  | 28 => .boolean
  | 29 => .int
  | 30 => .int
  | 31 => .int
  | 32 => .int
  | 33 => .int
  | 34 => .int
  | 35 => .int
  | 36 => (.array .int)
  | 37 => (.array .int)
  | 38 => .int
  | 39 => .int
  | 40 => .int
  | 41 => (.array .int)
  | 42 => (.array .int)
  | 43 => (.array .int)
  | 44 => (.array .int)
  | 45 => (.array .byte)
  | _ => (.array .byte)
theorem no_Ref : ∀ a, a < 47 → ∀ b, b < 47 → a ≠ b → (F_Ref a).2.1 ≠ (F_Ref b).2.1 := by decide +kernel
theorem to_Ref : ∀ k, k < 47 → parseFieldDescriptor (F_Ref k).2.2.1 = some (t_Ref k) := by decide +kernel
abbrev R_Coder : String := "SheetPrinter$Coder"
def F_Coder : u_T := fun k => match k with
  | 0 => ("SheetPrinter$Coder", "file", "LSheetPrinter$OutFile;", false)
  | 1 => ("SheetPrinter$Coder", "width", "I", false)
  | 2 => ("SheetPrinter$Coder", "start", "I", false)
  | 3 => ("SheetPrinter$Coder", "at", "I", false)
  | 4 => ("SheetPrinter$Coder", "held", "I", false)
  | 5 => ("SheetPrinter$Coder", "heldBits", "I", false)
  | 6 => ("SheetPrinter$Coder", "full", "Z", false)
  | 7 => ("SheetPrinter$Coder", "above", "[I", false)
  | 8 => ("SheetPrinter$Coder", "aboveCount", "I", false)
  | 9 => ("SheetPrinter$Coder", "line", "[I", false)
  | _ => ("SheetPrinter$Coder", "lineCount", "I", false)
def t_Coder : Nat → FieldType := fun k => match k with
  | 0 => (.object "SheetPrinter$OutFile")
  | 1 => .int
  | 2 => .int
  | 3 => .int
  | 4 => .int
  | 5 => .int
  | 6 => .boolean
  | 7 => (.array .int)
  | 8 => .int
  | 9 => (.array .int)
  | _ => .int
theorem no_Coder : ∀ a, a < 11 → ∀ b, b < 11 → a ≠ b → (F_Coder a).2.1 ≠ (F_Coder b).2.1 := by decide +kernel
theorem to_Coder : ∀ k, k < 11 → parseFieldDescriptor (F_Coder k).2.2.1 = some (t_Coder k) := by decide +kernel
abbrev R_FontShelf : String := "SheetPrinter$FontShelf"
def F_FontShelf : u_T := fun k => match k with
  | 0 => ("SheetPrinter$FontShelf", "ids", "[I", true)
  | 1 => ("SheetPrinter$FontShelf", "attributes", "[I", true)
  | 2 => ("SheetPrinter$FontShelf", "permanent", "[Z", true)
  | 3 => ("SheetPrinter$FontShelf", "fonts", "I", false)
  | 4 => ("SheetPrinter$FontShelf", "glyphs", "[I", true)
  | 5 => ("SheetPrinter$FontShelf", "glyphCount", "I", false)
  | 6 => ("SheetPrinter$FontShelf", "dots", "[B", true)
  | 7 => ("SheetPrinter$FontShelf", "used", "I", false)
  | 8 => ("SheetPrinter$FontShelf", "wishes", "[I", true)
  | 9 => ("SheetPrinter$FontShelf", "pins", "[I", true)
  | 10 => ("SheetPrinter$FontShelf", "id", "I", false)
  | 11 => ("SheetPrinter$FontShelf", "code", "I", false)
  | 12 => ("SheetPrinter$FontShelf", "chosen", "[I", true)
  | 13 => ("SheetPrinter$FontShelf", "chosenKnown", "Z", false)
  | 14 => ("SheetPrinter$FontShelf", "left", "[Z", true)
  | _ => ("SheetPrinter$FontShelf", "coming", "[I", true)
def t_FontShelf : Nat → FieldType := fun k => match k with
  | 0 => (.array .int)
  | 1 => (.array .int)
  | 2 => (.array .boolean)
  | 3 => .int
  | 4 => (.array .int)
  | 5 => .int
  | 6 => (.array .byte)
  | 7 => .int
  | 8 => (.array .int)
  | 9 => (.array .int)
  | 10 => .int
  | 11 => .int
  | 12 => (.array .int)
  | 13 => .boolean
  | 14 => (.array .boolean)
  | _ => (.array .int)
theorem no_FontShelf : ∀ a, a < 16 → ∀ b, b < 16 → a ≠ b → (F_FontShelf a).2.1 ≠ (F_FontShelf b).2.1 := by decide +kernel
theorem to_FontShelf : ∀ k, k < 16 → parseFieldDescriptor (F_FontShelf k).2.2.1 = some (t_FontShelf k) := by decide +kernel
abbrev R_Interpreter : String := "SheetPrinter$Interpreter"
def F_Interpreter : u_T := fun k => match k with
  | 0 => ("SheetPrinter$Interpreter", "tape", "[B", true)
  | 1 => ("SheetPrinter$Interpreter", "page", "LSheetPrinter$Page;", true)
  | 2 => ("SheetPrinter$Interpreter", "sheet", "LSheetPrinter$Sheet;", true)
  | 3 => ("SheetPrinter$Interpreter", "fonts", "LSheetPrinter$FontShelf;", true)
  | 4 => ("SheetPrinter$Interpreter", "macros", "LSheetPrinter$Macros;", true)
  | 5 => ("SheetPrinter$Interpreter", "raster", "LSheetPrinter$Raster;", true)
  | 6 => ("SheetPrinter$Interpreter", "parser", "LSheetPrinter$Parser;", true)
  | 7 => ("SheetPrinter$Interpreter", "copies", "[B", true)
  | 8 => ("SheetPrinter$Interpreter", "level", "I", false)
  | 9 => ("SheetPrinter$Interpreter", "at", "[I", true)
  | 10 => ("SheetPrinter$Interpreter", "ends", "[I", true)
  | 11 => ("SheetPrinter$Interpreter", "called", "[Z", true)
  | 12 => ("SheetPrinter$Interpreter", "acts", "[I", true)
  | 13 => ("SheetPrinter$Interpreter", "actIds", "[I", true)
  | 14 => ("SheetPrinter$Interpreter", "actCount", "[I", true)
  | 15 => ("SheetPrinter$Interpreter", "actNext", "[I", true)
  | 16 => ("SheetPrinter$Interpreter", "ejecting", "Z", false)
  | 17 => ("SheetPrinter$Interpreter", "then", "I", false)
  | 18 => ("SheetPrinter$Interpreter", "thenNumber", "I", false)
  | _ => ("SheetPrinter$Interpreter", "thenStep", "I", false)
def t_Interpreter : Nat → FieldType := fun k => match k with
  | 0 => (.array .byte)
  | 1 => (.object "SheetPrinter$Page")
  | 2 => (.object "SheetPrinter$Sheet")
  | 3 => (.object "SheetPrinter$FontShelf")
  | 4 => (.object "SheetPrinter$Macros")
  | 5 => (.object "SheetPrinter$Raster")
  | 6 => (.object "SheetPrinter$Parser")
  | 7 => (.array .byte)
  | 8 => .int
  | 9 => (.array .int)
  | 10 => (.array .int)
  | 11 => (.array .boolean)
  | 12 => (.array .int)
  | 13 => (.array .int)
  | 14 => (.array .int)
  | 15 => (.array .int)
  | 16 => .boolean
  | 17 => .int
  | 18 => .int
  | _ => .int
theorem no_Interpreter : ∀ a, a < 20 → ∀ b, b < 20 → a ≠ b → (F_Interpreter a).2.1 ≠ (F_Interpreter b).2.1 := by decide +kernel
theorem to_Interpreter : ∀ k, k < 20 → parseFieldDescriptor (F_Interpreter k).2.2.1 = some (t_Interpreter k) := by decide +kernel
abbrev R_LineReader : String := "SheetPrinter$LineReader"
def F_LineReader : u_T := fun k => match k with
  | 0 => ("SheetPrinter$LineReader", "tree", "[I", true)
  | 1 => ("SheetPrinter$LineReader", "nodes", "I", false)
  | 2 => ("SheetPrinter$LineReader", "bytes", "[B", false)
  | 3 => ("SheetPrinter$LineReader", "at", "I", false)
  | 4 => ("SheetPrinter$LineReader", "end", "I", false)
  | 5 => ("SheetPrinter$LineReader", "turned", "Z", false)
  | 6 => ("SheetPrinter$LineReader", "above", "[I", false)
  | 7 => ("SheetPrinter$LineReader", "aboveCount", "I", false)
  | 8 => ("SheetPrinter$LineReader", "line", "[I", false)
  | 9 => ("SheetPrinter$LineReader", "lineCount", "I", false)
  | 10 => ("SheetPrinter$LineReader", "width", "I", false)
  | 11 => ("SheetPrinter$LineReader", "a", "I", false)
  | 12 => ("SheetPrinter$LineReader", "colour", "I", false)
  | 13 => ("SheetPrinter$LineReader", "over", "I", false)
  | _ => ("SheetPrinter$LineReader", "run", "I", false)
def t_LineReader : Nat → FieldType := fun k => match k with
  | 0 => (.array .int)
  | 1 => .int
  | 2 => (.array .byte)
  | 3 => .int
  | 4 => .int
  | 5 => .boolean
  | 6 => (.array .int)
  | 7 => .int
  | 8 => (.array .int)
  | 9 => .int
  | 10 => .int
  | 11 => .int
  | 12 => .int
  | 13 => .int
  | _ => .int
theorem no_LineReader : ∀ a, a < 15 → ∀ b, b < 15 → a ≠ b → (F_LineReader a).2.1 ≠ (F_LineReader b).2.1 := by decide +kernel
theorem to_LineReader : ∀ k, k < 15 → parseFieldDescriptor (F_LineReader k).2.2.1 = some (t_LineReader k) := by decide +kernel
abbrev R_Macros : String := "SheetPrinter$Macros"
def F_Macros : u_T := fun k => match k with
  | 0 => ("SheetPrinter$Macros", "ids", "[I", true)
  | 1 => ("SheetPrinter$Macros", "places", "[I", true)
  | 2 => ("SheetPrinter$Macros", "lengths", "[I", true)
  | 3 => ("SheetPrinter$Macros", "permanent", "[Z", true)
  | 4 => ("SheetPrinter$Macros", "count", "I", false)
  | 5 => ("SheetPrinter$Macros", "bytes", "[B", true)
  | 6 => ("SheetPrinter$Macros", "used", "I", false)
  | 7 => ("SheetPrinter$Macros", "had", "I", false)
  | 8 => ("SheetPrinter$Macros", "id", "I", false)
  | 9 => ("SheetPrinter$Macros", "reading", "Z", false)
  | 10 => ("SheetPrinter$Macros", "readingId", "I", false)
  | 11 => ("SheetPrinter$Macros", "collected", "[B", true)
  | 12 => ("SheetPrinter$Macros", "collectedCount", "I", false)
  | 13 => ("SheetPrinter$Macros", "matched", "I", false)
  | 14 => ("SheetPrinter$Macros", "saidActs", "[I", true)
  | 15 => ("SheetPrinter$Macros", "saidIds", "[I", true)
  | _ => ("SheetPrinter$Macros", "said", "I", false)
def t_Macros : Nat → FieldType := fun k => match k with
  | 0 => (.array .int)
  | 1 => (.array .int)
  | 2 => (.array .int)
  | 3 => (.array .boolean)
  | 4 => .int
  | 5 => (.array .byte)
  | 6 => .int
  | 7 => .int
  | 8 => .int
  | 9 => .boolean
  | 10 => .int
  | 11 => (.array .byte)
  | 12 => .int
  | 13 => .int
  | 14 => (.array .int)
  | 15 => (.array .int)
  | _ => .int
theorem no_Macros : ∀ a, a < 17 → ∀ b, b < 17 → a ≠ b → (F_Macros a).2.1 ≠ (F_Macros b).2.1 := by decide +kernel
theorem to_Macros : ∀ k, k < 17 → parseFieldDescriptor (F_Macros k).2.2.1 = some (t_Macros k) := by decide +kernel
abbrev R_OutFile : String := "SheetPrinter$OutFile"
def F_OutFile : u_T := fun k => match k with
  | 0 => ("SheetPrinter$OutFile", "bytes", "[B", true)
  | 1 => ("SheetPrinter$OutFile", "table", "[I", true)
  | 2 => ("SheetPrinter$OutFile", "length", "I", false)
  | 3 => ("SheetPrinter$OutFile", "pages", "I", false)
  | _ => ("SheetPrinter$OutFile", "link", "I", false)
def t_OutFile : Nat → FieldType := fun k => match k with
  | 0 => (.array .byte)
  | 1 => (.array .int)
  | 2 => .int
  | 3 => .int
  | _ => .int
theorem no_OutFile : ∀ a, a < 5 → ∀ b, b < 5 → a ≠ b → (F_OutFile a).2.1 ≠ (F_OutFile b).2.1 := by decide +kernel
theorem to_OutFile : ∀ k, k < 5 → parseFieldDescriptor (F_OutFile k).2.2.1 = some (t_OutFile k) := by decide +kernel
abbrev R_Page : String := "SheetPrinter$Page"
def F_Page : u_T := fun k => match k with
  | 0 => ("SheetPrinter$Page", "dpi", "I", true)
  | 1 => ("SheetPrinter$Page", "size", "I", false)
  | 2 => ("SheetPrinter$Page", "orientation", "I", false)
  | 3 => ("SheetPrinter$Page", "copies", "I", false)
  | 4 => ("SheetPrinter$Page", "top", "I", false)
  | 5 => ("SheetPrinter$Page", "length", "I", false)
  | 6 => ("SheetPrinter$Page", "left", "I", false)
  | 7 => ("SheetPrinter$Page", "right", "I", false)
  | 8 => ("SheetPrinter$Page", "stepAcross", "I", false)
  | 9 => ("SheetPrinter$Page", "stepDown", "I", false)
  | 10 => ("SheetPrinter$Page", "x", "I", false)
  | 11 => ("SheetPrinter$Page", "y", "I", false)
  | 12 => ("SheetPrinter$Page", "wrap", "Z", false)
  | 13 => ("SheetPrinter$Page", "skip", "Z", false)
  | 14 => ("SheetPrinter$Page", "lineEnd", "I", false)
  | 15 => ("SheetPrinter$Page", "font", "I", false)
  | 16 => ("SheetPrinter$Page", "stack", "[I", true)
  | 17 => ("SheetPrinter$Page", "stacked", "I", false)
  | _ => ("SheetPrinter$Page", "kept", "[I", true)
def t_Page : Nat → FieldType := fun k => match k with
  | 0 => .int
  | 1 => .int
  | 2 => .int
  | 3 => .int
  | 4 => .int
  | 5 => .int
  | 6 => .int
  | 7 => .int
  | 8 => .int
  | 9 => .int
  | 10 => .int
  | 11 => .int
  | 12 => .boolean
  | 13 => .boolean
  | 14 => .int
  | 15 => .int
  | 16 => (.array .int)
  | 17 => .int
  | _ => (.array .int)
theorem no_Page : ∀ a, a < 19 → ∀ b, b < 19 → a ≠ b → (F_Page a).2.1 ≠ (F_Page b).2.1 := by decide +kernel
theorem to_Page : ∀ k, k < 19 → parseFieldDescriptor (F_Page k).2.2.1 = some (t_Page k) := by decide +kernel
abbrev R_Parser : String := "SheetPrinter$Parser"
def F_Parser : u_T := fun k => match k with
  | 0 => ("SheetPrinter$Parser", "mode", "I", false)
  | 1 => ("SheetPrinter$Parser", "taken", "I", false)
  | 2 => ("SheetPrinter$Parser", "family", "I", false)
  | 3 => ("SheetPrinter$Parser", "group", "I", false)
  | 4 => ("SheetPrinter$Parser", "end", "I", false)
  | 5 => ("SheetPrinter$Parser", "last", "Z", false)
  | 6 => ("SheetPrinter$Parser", "phase", "I", false)
  | 7 => ("SheetPrinter$Parser", "sign", "I", false)
  | 8 => ("SheetPrinter$Parser", "whole", "I", false)
  | 9 => ("SheetPrinter$Parser", "fraction", "I", false)
  | 10 => ("SheetPrinter$Parser", "digitWorth", "I", false)
  | 11 => ("SheetPrinter$Parser", "value", "I", false)
  | 12 => ("SheetPrinter$Parser", "signed", "Z", false)
  | 13 => ("SheetPrinter$Parser", "dataLeft", "I", false)
  | 14 => ("SheetPrinter$Parser", "data", "[B", true)
  | _ => ("SheetPrinter$Parser", "dataCount", "I", false)
def t_Parser : Nat → FieldType := fun k => match k with
  | 0 => .int
  | 1 => .int
  | 2 => .int
  | 3 => .int
  | 4 => .int
  | 5 => .boolean
  | 6 => .int
  | 7 => .int
  | 8 => .int
  | 9 => .int
  | 10 => .int
  | 11 => .int
  | 12 => .boolean
  | 13 => .int
  | 14 => (.array .byte)
  | _ => .int
theorem no_Parser : ∀ a, a < 16 → ∀ b, b < 16 → a ≠ b → (F_Parser a).2.1 ≠ (F_Parser b).2.1 := by decide +kernel
theorem to_Parser : ∀ k, k < 16 → parseFieldDescriptor (F_Parser k).2.2.1 = some (t_Parser k) := by decide +kernel
abbrev R_PictureFile : String := "SheetPrinter$PictureFile"
def F_PictureFile : u_T := fun k => match k with
  | 0 => ("SheetPrinter$PictureFile", "bytes", "[B", true)
  | 1 => ("SheetPrinter$PictureFile", "length", "I", false)
  | 2 => ("SheetPrinter$PictureFile", "highFirst", "Z", false)
  | 3 => ("SheetPrinter$PictureFile", "next", "J", false)
  | 4 => ("SheetPrinter$PictureFile", "stripsBefore", "J", false)
  | 5 => ("SheetPrinter$PictureFile", "types", "[I", true)
  | 6 => ("SheetPrinter$PictureFile", "counts", "[I", true)
  | _ => ("SheetPrinter$PictureFile", "places", "[I", true)
def t_PictureFile : Nat → FieldType := fun k => match k with
  | 0 => (.array .byte)
  | 1 => .int
  | 2 => .boolean
  | 3 => .long
  | 4 => .long
  | 5 => (.array .int)
  | 6 => (.array .int)
  | _ => (.array .int)
theorem no_PictureFile : ∀ a, a < 8 → ∀ b, b < 8 → a ≠ b → (F_PictureFile a).2.1 ≠ (F_PictureFile b).2.1 := by decide +kernel
theorem to_PictureFile : ∀ k, k < 8 → parseFieldDescriptor (F_PictureFile k).2.2.1 = some (t_PictureFile k) := by decide +kernel
abbrev R_Raster : String := "SheetPrinter$Raster"
def F_Raster : u_T := fun k => match k with
  | 0 => ("SheetPrinter$Raster", "dpi", "I", true)
  | 1 => ("SheetPrinter$Raster", "open", "Z", false)
  | 2 => ("SheetPrinter$Raster", "x", "I", false)
  | 3 => ("SheetPrinter$Raster", "y", "I", false)
  | 4 => ("SheetPrinter$Raster", "scale", "I", false)
  | 5 => ("SheetPrinter$Raster", "row", "I", false)
  | 6 => ("SheetPrinter$Raster", "width", "I", false)
  | 7 => ("SheetPrinter$Raster", "height", "I", false)
  | 8 => ("SheetPrinter$Raster", "rowBytes", "I", false)
  | 9 => ("SheetPrinter$Raster", "seed", "[B", true)
  | 10 => ("SheetPrinter$Raster", "resolution", "I", false)
  | 11 => ("SheetPrinter$Raster", "method", "I", false)
  | 12 => ("SheetPrinter$Raster", "nextWidth", "I", false)
  | _ => ("SheetPrinter$Raster", "nextHeight", "I", false)
def t_Raster : Nat → FieldType := fun k => match k with
  | 0 => .int
  | 1 => .boolean
  | 2 => .int
  | 3 => .int
  | 4 => .int
  | 5 => .int
  | 6 => .int
  | 7 => .int
  | 8 => .int
  | 9 => (.array .byte)
  | 10 => .int
  | 11 => .int
  | 12 => .int
  | _ => .int
theorem no_Raster : ∀ a, a < 14 → ∀ b, b < 14 → a ≠ b → (F_Raster a).2.1 ≠ (F_Raster b).2.1 := by decide +kernel
theorem to_Raster : ∀ k, k < 14 → parseFieldDescriptor (F_Raster k).2.2.1 = some (t_Raster k) := by decide +kernel
abbrev R_Sheet : String := "SheetPrinter$Sheet"
def F_Sheet : u_T := fun k => match k with
  | 0 => ("SheetPrinter$Sheet", "page", "LSheetPrinter$Page;", true)
  | 1 => ("SheetPrinter$Sheet", "marks", "[I", true)
  | 2 => ("SheetPrinter$Sheet", "count", "I", false)
  | 3 => ("SheetPrinter$Sheet", "dots", "[B", true)
  | 4 => ("SheetPrinter$Sheet", "used", "I", false)
  | 5 => ("SheetPrinter$Sheet", "overrun", "Z", false)
  | 6 => ("SheetPrinter$Sheet", "due", "Z", false)
  | 7 => ("SheetPrinter$Sheet", "band", "[J", true)
  | 8 => ("SheetPrinter$Sheet", "bandLines", "I", true)
  | 9 => ("SheetPrinter$Sheet", "bandWords", "I", false)
  | 10 => ("SheetPrinter$Sheet", "ink", "I", false)
  | 11 => ("SheetPrinter$Sheet", "inkNumber", "I", false)
  | 12 => ("SheetPrinter$Sheet", "inkOpaque", "Z", false)
  | 13 => ("SheetPrinter$Sheet", "sourceOpaque", "Z", false)
  | 14 => ("SheetPrinter$Sheet", "ruleWidth", "I", false)
  | 15 => ("SheetPrinter$Sheet", "ruleHeight", "I", false)
  | _ => ("SheetPrinter$Sheet", "pattern", "I", false)
def t_Sheet : Nat → FieldType := fun k => match k with
  | 0 => (.object "SheetPrinter$Page")
  | 1 => (.array .int)
  | 2 => .int
  | 3 => (.array .byte)
  | 4 => .int
  | 5 => .boolean
  | 6 => .boolean
  | 7 => (.array .long)
  | 8 => .int
  | 9 => .int
  | 10 => .int
  | 11 => .int
  | 12 => .boolean
  | 13 => .boolean
  | 14 => .int
  | 15 => .int
  | _ => .int
theorem no_Sheet : ∀ a, a < 17 → ∀ b, b < 17 → a ≠ b → (F_Sheet a).2.1 ≠ (F_Sheet b).2.1 := by decide +kernel
theorem to_Sheet : ∀ k, k < 17 → parseFieldDescriptor (F_Sheet k).2.2.1 = some (t_Sheet k) := by decide +kernel
abbrev R_mDesk : String := "SheetPrinterModel$Desk"
def F_mDesk : u_T := fun k => match k with
  | 0 => ("SheetPrinterModel$Desk", "thrown", "I", false)
  | 1 => ("SheetPrinterModel$Desk", "state", "[I", true)
  | 2 => ("SheetPrinterModel$Desk", "kept", "[I", true)
  | 3 => ("SheetPrinterModel$Desk", "isKept", "[Z", true)
  | 4 => ("SheetPrinterModel$Desk", "size", "I", false)
  | 5 => ("SheetPrinterModel$Desk", "orientation", "I", false)
  | 6 => ("SheetPrinterModel$Desk", "copies", "I", false)
  | 7 => ("SheetPrinterModel$Desk", "width", "I", false)
  | 8 => ("SheetPrinterModel$Desk", "height", "I", false)
  | 9 => ("SheetPrinterModel$Desk", "steps", "[I", true)
  | 10 => ("SheetPrinterModel$Desk", "phase", "I", false)
  | 11 => ("SheetPrinterModel$Desk", "family", "I", false)
  | 12 => ("SheetPrinterModel$Desk", "group", "I", false)
  | 13 => ("SheetPrinterModel$Desk", "part", "I", false)
  | 14 => ("SheetPrinterModel$Desk", "signed", "Z", false)
  | 15 => ("SheetPrinterModel$Desk", "negative", "Z", false)
  | 16 => ("SheetPrinterModel$Desk", "whole", "I", false)
  | 17 => ("SheetPrinterModel$Desk", "behind", "I", false)
  | 18 => ("SheetPrinterModel$Desk", "places", "I", false)
  | 19 => ("SheetPrinterModel$Desk", "dataLeft", "I", false)
  | 20 => ("SheetPrinterModel$Desk", "last", "Z", false)
  | 21 => ("SheetPrinterModel$Desk", "dataTo", "I", false)
  | 22 => ("SheetPrinterModel$Desk", "bytesCame", "I", false)
  | 23 => ("SheetPrinterModel$Desk", "came", "Z", false)
  | 24 => ("SheetPrinterModel$Desk", "cameX", "I", false)
  | 25 => ("SheetPrinterModel$Desk", "cameY", "I", false)
  | 26 => ("SheetPrinterModel$Desk", "glyphs", "I", false)
  | 27 => ("SheetPrinterModel$Desk", "allGlyphs", "I", false)
  | 28 => ("SheetPrinterModel$Desk", "touched", "Z", false)
  | 29 => ("SheetPrinterModel$Desk", "glyph", "[I", true)
  | 30 => ("SheetPrinterModel$Desk", "pages", "I", false)
  | 31 => ("SheetPrinterModel$Desk", "page", "[I", true)
  | 32 => ("SheetPrinterModel$Desk", "others", "I", false)
  | 33 => ("SheetPrinterModel$Desk", "other", "[I", true)
  | 34 => ("SheetPrinterModel$Desk", "stored", "I", false)
  | _ => ("SheetPrinterModel$Desk", "store", "[B", true)
def t_mDesk : Nat → FieldType := fun k => match k with
  | 0 => .int
  | 1 => (.array .int)
  | 2 => (.array .int)
  | 3 => (.array .boolean)
  | 4 => .int
  | 5 => .int
  | 6 => .int
  | 7 => .int
  | 8 => .int
  | 9 => (.array .int)
  | 10 => .int
  | 11 => .int
  | 12 => .int
  | 13 => .int
  | 14 => .boolean
  | 15 => .boolean
  | 16 => .int
  | 17 => .int
  | 18 => .int
  | 19 => .int
  | 20 => .boolean
  | 21 => .int
  | 22 => .int
  | 23 => .boolean
  | 24 => .int
  | 25 => .int
  | 26 => .int
  | 27 => .int
  | 28 => .boolean
  | 29 => (.array .int)
  | 30 => .int
  | 31 => (.array .int)
  | 32 => .int
  | 33 => (.array .int)
  | 34 => .int
  | _ => (.array .byte)
theorem no_mDesk : ∀ a, a < 36 → ∀ b, b < 36 → a ≠ b → (F_mDesk a).2.1 ≠ (F_mDesk b).2.1 := by decide +kernel
theorem to_mDesk : ∀ k, k < 36 → parseFieldDescriptor (F_mDesk k).2.2.1 = some (t_mDesk k) := by decide +kernel
abbrev R_mLines : String := "SheetPrinterModel$Lines"
def F_mLines : u_T := fun k => match k with
  | 0 => ("SheetPrinterModel$Lines", "whiteRests", "[I", true)
  | 1 => ("SheetPrinterModel$Lines", "blackRests", "[I", true)
  | 2 => ("SheetPrinterModel$Lines", "whiteBlocks", "[I", true)
  | 3 => ("SheetPrinterModel$Lines", "blackBlocks", "[I", true)
  | 4 => ("SheetPrinterModel$Lines", "blocks", "[I", true)
  | 5 => ("SheetPrinterModel$Lines", "modes", "[I", true)
  | 6 => ("SheetPrinterModel$Lines", "width", "I", false)
  | 7 => ("SheetPrinterModel$Lines", "line", "[Z", true)
  | 8 => ("SheetPrinterModel$Lines", "above", "[Z", true)
  | 9 => ("SheetPrinterModel$Lines", "out", "[B", true)
  | 10 => ("SheetPrinterModel$Lines", "bits", "J", false)
  | 11 => ("SheetPrinterModel$Lines", "from", "[B", false)
  | 12 => ("SheetPrinterModel$Lines", "place", "I", false)
  | 13 => ("SheetPrinterModel$Lines", "bytes", "I", false)
  | 14 => ("SheetPrinterModel$Lines", "turned", "Z", false)
  | 15 => ("SheetPrinterModel$Lines", "at", "I", false)
  | 16 => ("SheetPrinterModel$Lines", "fault", "I", false)
  | 17 => ("SheetPrinterModel$Lines", "ended", "Z", false)
  | 18 => ("SheetPrinterModel$Lines", "turns", "Z", false)
  | 19 => ("SheetPrinterModel$Lines", "readLine", "[Z", true)
  | _ => ("SheetPrinterModel$Lines", "readAbove", "[Z", true)
def t_mLines : Nat → FieldType := fun k => match k with
  | 0 => (.array .int)
  | 1 => (.array .int)
  | 2 => (.array .int)
  | 3 => (.array .int)
  | 4 => (.array .int)
  | 5 => (.array .int)
  | 6 => .int
  | 7 => (.array .boolean)
  | 8 => (.array .boolean)
  | 9 => (.array .byte)
  | 10 => .long
  | 11 => (.array .byte)
  | 12 => .int
  | 13 => .int
  | 14 => .boolean
  | 15 => .int
  | 16 => .int
  | 17 => .boolean
  | 18 => .boolean
  | 19 => (.array .boolean)
  | _ => (.array .boolean)
theorem no_mLines : ∀ a, a < 21 → ∀ b, b < 21 → a ≠ b → (F_mLines a).2.1 ≠ (F_mLines b).2.1 := by decide +kernel
theorem to_mLines : ∀ k, k < 21 → parseFieldDescriptor (F_mLines k).2.2.1 = some (t_mLines k) := by decide +kernel
abbrev R_mMacros : String := "SheetPrinterModel$Macros"
def F_mMacros : u_T := fun k => match k with
  | 0 => ("SheetPrinterModel$Macros", "count", "I", false)
  | 1 => ("SheetPrinterModel$Macros", "ids", "[I", true)
  | 2 => ("SheetPrinterModel$Macros", "permanent", "[Z", true)
  | 3 => ("SheetPrinterModel$Macros", "lengths", "[I", true)
  | 4 => ("SheetPrinterModel$Macros", "used", "I", false)
  | 5 => ("SheetPrinterModel$Macros", "store", "[B", true)
  | 6 => ("SheetPrinterModel$Macros", "reading", "Z", false)
  | 7 => ("SheetPrinterModel$Macros", "id", "I", false)
  | 8 => ("SheetPrinterModel$Macros", "length", "I", false)
  | 9 => ("SheetPrinterModel$Macros", "matched", "I", false)
  | _ => ("SheetPrinterModel$Macros", "buffer", "[B", true)
def t_mMacros : Nat → FieldType := fun k => match k with
  | 0 => .int
  | 1 => (.array .int)
  | 2 => (.array .boolean)
  | 3 => (.array .int)
  | 4 => .int
  | 5 => (.array .byte)
  | 6 => .boolean
  | 7 => .int
  | 8 => .int
  | 9 => .int
  | _ => (.array .byte)
theorem no_mMacros : ∀ a, a < 11 → ∀ b, b < 11 → a ≠ b → (F_mMacros a).2.1 ≠ (F_mMacros b).2.1 := by decide +kernel
theorem to_mMacros : ∀ k, k < 11 → parseFieldDescriptor (F_mMacros k).2.2.1 = some (t_mMacros k) := by decide +kernel
abbrev R_mPictures : String := "SheetPrinterModel$Pictures"
def F_mPictures : u_T := fun k => match k with
  | 0 => ("SheetPrinterModel$Pictures", "thrown", "I", false)
  | 1 => ("SheetPrinterModel$Pictures", "file", "[B", true)
  | 2 => ("SheetPrinterModel$Pictures", "size", "I", false)
  | 3 => ("SheetPrinterModel$Pictures", "making", "Z", false)
  | 4 => ("SheetPrinterModel$Pictures", "open", "Z", false)
  | 5 => ("SheetPrinterModel$Pictures", "order", "I", false)
  | 6 => ("SheetPrinterModel$Pictures", "made", "I", false)
  | 7 => ("SheetPrinterModel$Pictures", "link", "I", false)
  | 8 => ("SheetPrinterModel$Pictures", "width", "I", false)
  | 9 => ("SheetPrinterModel$Pictures", "height", "I", false)
  | 10 => ("SheetPrinterModel$Pictures", "rows", "I", false)
  | 11 => ("SheetPrinterModel$Pictures", "across", "I", false)
  | 12 => ("SheetPrinterModel$Pictures", "down", "I", false)
  | 13 => ("SheetPrinterModel$Pictures", "strips", "I", false)
  | 14 => ("SheetPrinterModel$Pictures", "done", "I", false)
  | 15 => ("SheetPrinterModel$Pictures", "from", "I", false)
  | 16 => ("SheetPrinterModel$Pictures", "length", "I", false)
  | 17 => ("SheetPrinterModel$Pictures", "places", "[I", true)
  | 18 => ("SheetPrinterModel$Pictures", "lengths", "[I", true)
  | 19 => ("SheetPrinterModel$Pictures", "wasOrder", "I", false)
  | 20 => ("SheetPrinterModel$Pictures", "pages", "I", false)
  | 21 => ("SheetPrinterModel$Pictures", "numbers", "[J", true)
  | 22 => ("SheetPrinterModel$Pictures", "firstStrip", "[I", true)
  | 23 => ("SheetPrinterModel$Pictures", "stripPlace", "[I", true)
  | 24 => ("SheetPrinterModel$Pictures", "stripLength", "[I", true)
  | 25 => ("SheetPrinterModel$Pictures", "fault", "I", false)
  | 26 => ("SheetPrinterModel$Pictures", "faultPage", "I", false)
  | 27 => ("SheetPrinterModel$Pictures", "faultTag", "I", false)
  | 28 => ("SheetPrinterModel$Pictures", "faultStrip", "I", false)
  | _ => ("SheetPrinterModel$Pictures", "entry", "[I", true)
def t_mPictures : Nat → FieldType := fun k => match k with
  | 0 => .int
  | 1 => (.array .byte)
  | 2 => .int
  | 3 => .boolean
  | 4 => .boolean
  | 5 => .int
  | 6 => .int
  | 7 => .int
  | 8 => .int
  | 9 => .int
  | 10 => .int
  | 11 => .int
  | 12 => .int
  | 13 => .int
  | 14 => .int
  | 15 => .int
  | 16 => .int
  | 17 => (.array .int)
  | 18 => (.array .int)
  | 19 => .int
  | 20 => .int
  | 21 => (.array .long)
  | 22 => (.array .int)
  | 23 => (.array .int)
  | 24 => (.array .int)
  | 25 => .int
  | 26 => .int
  | 27 => .int
  | 28 => .int
  | _ => (.array .int)
theorem no_mPictures : ∀ a, a < 30 → ∀ b, b < 30 → a ≠ b → (F_mPictures a).2.1 ≠ (F_mPictures b).2.1 := by decide +kernel
theorem to_mPictures : ∀ k, k < 30 → parseFieldDescriptor (F_mPictures k).2.2.1 = some (t_mPictures k) := by decide +kernel
abbrev R_mSheet : String := "SheetPrinterModel$Sheet"
def F_mSheet : u_T := fun k => match k with
  | 0 => ("SheetPrinterModel$Sheet", "stride", "I", true)
  | 1 => ("SheetPrinterModel$Sheet", "dots", "[J", true)
  | 2 => ("SheetPrinterModel$Sheet", "wide", "I", false)
  | 3 => ("SheetPrinterModel$Sheet", "high", "I", false)
  | 4 => ("SheetPrinterModel$Sheet", "orientation", "I", false)
  | 5 => ("SheetPrinterModel$Sheet", "marks", "I", false)
  | 6 => ("SheetPrinterModel$Sheet", "bytes", "I", false)
  | 7 => ("SheetPrinterModel$Sheet", "overrun", "Z", false)
  | 8 => ("SheetPrinterModel$Sheet", "ink", "I", false)
  | 9 => ("SheetPrinterModel$Sheet", "value", "I", false)
  | 10 => ("SheetPrinterModel$Sheet", "sourceOpaque", "Z", false)
  | _ => ("SheetPrinterModel$Sheet", "inkOpaque", "Z", false)
def t_mSheet : Nat → FieldType := fun k => match k with
  | 0 => .int
  | 1 => (.array .long)
  | 2 => .int
  | 3 => .int
  | 4 => .int
  | 5 => .int
  | 6 => .int
  | 7 => .boolean
  | 8 => .int
  | 9 => .int
  | 10 => .boolean
  | _ => .boolean
theorem no_mSheet : ∀ a, a < 12 → ∀ b, b < 12 → a ≠ b → (F_mSheet a).2.1 ≠ (F_mSheet b).2.1 := by decide +kernel
theorem to_mSheet : ∀ k, k < 12 → parseFieldDescriptor (F_mSheet k).2.2.1 = some (t_mSheet k) := by decide +kernel
abbrev R_mShelf : String := "SheetPrinterModel$Shelf"
def F_mShelf : u_T := fun k => match k with
  | 0 => ("SheetPrinterModel$Shelf", "thrown", "I", false)
  | 1 => ("SheetPrinterModel$Shelf", "fonts", "I", false)
  | 2 => ("SheetPrinterModel$Shelf", "ids", "[I", true)
  | 3 => ("SheetPrinterModel$Shelf", "attributes", "[I", true)
  | 4 => ("SheetPrinterModel$Shelf", "permanent", "[Z", true)
  | 5 => ("SheetPrinterModel$Shelf", "glyphs", "I", false)
  | 6 => ("SheetPrinterModel$Shelf", "glyph", "[I", true)
  | 7 => ("SheetPrinterModel$Shelf", "used", "I", false)
  | 8 => ("SheetPrinterModel$Shelf", "store", "[B", true)
  | 9 => ("SheetPrinterModel$Shelf", "draft", "[I", true)
  | 10 => ("SheetPrinterModel$Shelf", "wishes", "[I", true)
  | 11 => ("SheetPrinterModel$Shelf", "pins", "[I", true)
  | 12 => ("SheetPrinterModel$Shelf", "id", "I", false)
  | 13 => ("SheetPrinterModel$Shelf", "code", "I", false)
  | 14 => ("SheetPrinterModel$Shelf", "loading", "Z", false)
  | 15 => ("SheetPrinterModel$Shelf", "coming", "[I", true)
  | 16 => ("SheetPrinterModel$Shelf", "need", "I", false)
  | 17 => ("SheetPrinterModel$Shelf", "came", "I", false)
  | 18 => ("SheetPrinterModel$Shelf", "bytes", "[B", true)
  | _ => ("SheetPrinterModel$Shelf", "left", "[Z", true)
def t_mShelf : Nat → FieldType := fun k => match k with
  | 0 => .int
  | 1 => .int
  | 2 => (.array .int)
  | 3 => (.array .int)
  | 4 => (.array .boolean)
  | 5 => .int
  | 6 => (.array .int)
  | 7 => .int
  | 8 => (.array .byte)
  | 9 => (.array .int)
  | 10 => (.array .int)
  | 11 => (.array .int)
  | 12 => .int
  | 13 => .int
  | 14 => .boolean
  | 15 => (.array .int)
  | 16 => .int
  | 17 => .int
  | 18 => (.array .byte)
  | _ => (.array .boolean)
theorem no_mShelf : ∀ a, a < 20 → ∀ b, b < 20 → a ≠ b → (F_mShelf a).2.1 ≠ (F_mShelf b).2.1 := by decide +kernel
theorem to_mShelf : ∀ k, k < 20 → parseFieldDescriptor (F_mShelf k).2.2.1 = some (t_mShelf k) := by decide +kernel
abbrev R_Law : String := "SheetPrinterLaw"
abbrev R_JObject : String := "java/lang/Object"
abbrev R_JException : String := "java/lang/Exception"
abbrev R_JIllegalArgumentException : String := "java/lang/IllegalArgumentException"
abbrev R_JIllegalStateException : String := "java/lang/IllegalStateException"
abbrev R_JIndexOutOfBoundsException : String := "java/lang/IndexOutOfBoundsException"
abbrev R_JMath : String := "java/lang/Math"
abbrev R_JRuntimeException : String := "java/lang/RuntimeException"
abbrev R_JSystem : String := "java/lang/System"
abbrev R_JThrowable : String := "java/lang/Throwable"
abbrev R_JArrays : String := "java/util/Arrays"
abbrev vcl : List vw_C := [(R_Main, F_Main, 18), (R_Ref, F_Ref, 47), (R_Coder, F_Coder, 11), (R_FontShelf, F_FontShelf, 16), (R_Interpreter, F_Interpreter, 20), (R_LineReader, F_LineReader, 15), (R_Macros, F_Macros, 17), (R_OutFile, F_OutFile, 5), (R_Page, F_Page, 19), (R_Parser, F_Parser, 16), (R_PictureFile, F_PictureFile, 8), (R_Raster, F_Raster, 14), (R_Sheet, F_Sheet, 17), (R_mDesk, F_mDesk, 36), (R_mLines, F_mLines, 21), (R_mMacros, F_mMacros, 11), (R_mPictures, F_mPictures, 30), (R_mSheet, F_mSheet, 12), (R_mShelf, F_mShelf, 20)]
theorem in_1 : ∀ w ∈ tables_1_1, w ∈ lw_tbl := fun w h => List.mem_append_right _ (List.mem_append_left _ h)
theorem in_2 : ∀ w ∈ tables_1_2, w ∈ lw_tbl := fun w h => List.mem_append_right _ (List.mem_append_right _ (List.mem_append_left _ h))
theorem in_3 : ∀ w ∈ tables_1_3, w ∈ lw_tbl := fun w h => List.mem_append_right _ (List.mem_append_right _ (List.mem_append_right _ (List.mem_append_left _ h)))
theorem in_4 : ∀ w ∈ tables_1_4, w ∈ lw_tbl := fun w h => List.mem_append_right _ (List.mem_append_right _ (List.mem_append_right _ (List.mem_append_right _ (List.mem_append_left _ h))))
theorem in_5 : ∀ w ∈ tables_1_5, w ∈ lw_tbl := fun w h => List.mem_append_right _ (List.mem_append_right _ (List.mem_append_right _ (List.mem_append_right _ (List.mem_append_right _ (List.mem_append_left _ h)))))
theorem in_6 : ∀ w ∈ tables_1_6, w ∈ lw_tbl := fun w h => List.mem_append_right _ (List.mem_append_right _ (List.mem_append_right _ (List.mem_append_right _ (List.mem_append_right _ (List.mem_append_right _ (List.mem_append_left _ h))))))
theorem in_7 : ∀ w ∈ tables_1_7, w ∈ lw_tbl := fun w h => List.mem_append_right _ (List.mem_append_right _ (List.mem_append_right _ (List.mem_append_right _ (List.mem_append_right _ (List.mem_append_right _ (List.mem_append_right _ (List.mem_append_left _ h)))))))
theorem in_8 : ∀ w ∈ tables_1_8, w ∈ lw_tbl := fun w h => List.mem_append_right _ (List.mem_append_right _ (List.mem_append_right _ (List.mem_append_right _ (List.mem_append_right _ (List.mem_append_right _ (List.mem_append_right _ (List.mem_append_right _ (List.mem_append_left _ h))))))))
theorem in_9 : ∀ w ∈ tables_1_9, w ∈ lw_tbl := fun w h => List.mem_append_right _ (List.mem_append_right _ (List.mem_append_right _ (List.mem_append_right _ (List.mem_append_right _ (List.mem_append_right _ (List.mem_append_right _ (List.mem_append_right _ (List.mem_append_right _ (List.mem_append_left _ h)))))))))
theorem in_10 : ∀ w ∈ tables_1_10, w ∈ lw_tbl := fun w h => List.mem_append_right _ (List.mem_append_right _ (List.mem_append_right _ (List.mem_append_right _ (List.mem_append_right _ (List.mem_append_right _ (List.mem_append_right _ (List.mem_append_right _ (List.mem_append_right _ (List.mem_append_right _ (List.mem_append_left _ h))))))))))
theorem in_11 : ∀ w ∈ tables_1_11, w ∈ lw_tbl := fun w h => List.mem_append_right _ (List.mem_append_right _ (List.mem_append_right _ (List.mem_append_right _ (List.mem_append_right _ (List.mem_append_right _ (List.mem_append_right _ (List.mem_append_right _ (List.mem_append_right _ (List.mem_append_right _ (List.mem_append_right _ (List.mem_append_left _ h)))))))))))
theorem in_12 : ∀ w ∈ tables_1_12, w ∈ lw_tbl := fun w h => List.mem_append_right _ (List.mem_append_right _ (List.mem_append_right _ (List.mem_append_right _ (List.mem_append_right _ (List.mem_append_right _ (List.mem_append_right _ (List.mem_append_right _ (List.mem_append_right _ (List.mem_append_right _ (List.mem_append_right _ (List.mem_append_right _ (List.mem_append_left _ h))))))))))))
theorem in_13 : ∀ w ∈ tables_1_13, w ∈ lw_tbl := fun w h => List.mem_append_right _ (List.mem_append_right _ (List.mem_append_right _ (List.mem_append_right _ (List.mem_append_right _ (List.mem_append_right _ (List.mem_append_right _ (List.mem_append_right _ (List.mem_append_right _ (List.mem_append_right _ (List.mem_append_right _ (List.mem_append_right _ (List.mem_append_right _ (List.mem_append_left _ h)))))))))))))
theorem in_14 : ∀ w ∈ tables_1_14, w ∈ lw_tbl := fun w h => List.mem_append_right _ (List.mem_append_right _ (List.mem_append_right _ (List.mem_append_right _ (List.mem_append_right _ (List.mem_append_right _ (List.mem_append_right _ (List.mem_append_right _ (List.mem_append_right _ (List.mem_append_right _ (List.mem_append_right _ (List.mem_append_right _ (List.mem_append_right _ (List.mem_append_right _ (h))))))))))))))
/-- the words that stay good behind a call -/
def gT : List Cond := lw_tbl.filter goodWord
theorem gT_in {w : Cond} (h : w ∈ lw_tbl) (hg : goodWord w = true) : w ∈ gT := List.mem_filter.mpr ⟨h, hg⟩
theorem gT_of {w : Cond} (h : w ∈ gT) : w ∈ lw_tbl := (List.mem_filter.mp h).1
theorem gAll : ∀ w ∈ gT, (w.onTables && w.keeps) = true ∨ ∃ ty, w = .arrayClass ty := fun w h => good_of_word (List.mem_filter.mp h).2
theorem gW {c : Cond} (hc : c ∈ gT) : GoodIn gT (c :: gT) := fun w h => by
  have h1 : w ∈ gT := (List.mem_cons.mp h).elim (fun e => by rw [e]; exact hc) id
  exact ⟨h1, gAll w h1⟩
theorem gV {own C : String} {idx : Nat} {y : MethodName} {ws : List Cond} (hw : GoodIn gT ws) (h1 : Cond.methodLink own idx y ∈ gT) (h2 : Cond.instanceMethod y ∈ gT) (h3 : Cond.selects C y y ∈ gT) (h4 : Cond.initialized C ∈ gT) : GoodIn gT (wsV own idx C y ws) := fun w h => by
  rcases List.mem_append.mp h with h | h
  · have h5 : w ∈ gT := by
      simp only [List.mem_cons, List.not_mem_nil, or_false] at h
      rcases h with rfl | rfl | rfl | rfl <;> assumption
    exact ⟨h5, gAll w h5⟩
  · exact hw w h
theorem gS {own : String} {idx : Nat} {y : MethodName} {ws : List Cond} (hw : GoodIn gT ws) (h1 : Cond.methodLink own idx y ∈ gT) (h2 : Cond.static y ∈ gT) (h3 : Cond.initialized y.cls ∈ gT) : GoodIn gT (va_wsS own idx y ws) := fun w h => by
  rcases List.mem_append.mp h with h | h
  · have h5 : w ∈ gT := by
      simp only [List.mem_cons, List.not_mem_nil, or_false] at h
      rcases h with rfl | rfl | rfl <;> assumption
    exact ⟨h5, gAll w h5⟩
  · exact hw w h
def tb_Page_ACROSS : Nat → Int32 := fun j => ([52200, 61200, 61200, 79200, 59528] : List Int32).getD j 0
def tb_Page_DOWN : Nat → Int32 := fun j => ([75600, 79200, 100800, 122400, 84189] : List Int32).getD j 0
def tb_FontShelf_FIRST_WISH : Nat → Int32 := fun j => ([277, 0, 1000, 1200, 0, 0, 3] : List Int32).getD j 0
def tb_FontShelf_MOST : Nat → Int32 := fun j => ([2047, 1, 57600, 99999, 32767, 7, 65535] : List Int32).getD j 0
def tb_FontShelf_LEAST : Nat → Int32 := fun j => ([0, 0, 1, 1, 0, (-7), 0] : List Int32).getD j 0
def tb_Macros_READING_ENDS : Nat → Int32 := fun j => ([27, 38, 102, 49, 88] : List Int32).getD j 0
def tb_PictureFile_TAGS : Nat → Int32 := fun j => ([256, 257, 259, 262, 266, 273, 278, 279, 282, 283, 296] : List Int32).getD j 0
def tb_Coder_SHIFTS : Nat → Int32 := fun j => ([130, 66, 10, 3, 11, 67, 131] : List Int32).getD j 0
def tb_Coder_WHITE_RESTS : Nat → Int32 := fun j => ([309, 71, 23, 24, 27, 28, 30, 31, 51, 52, 39, 40, 72, 67, 116, 117, 106, 107, 167, 140, 136, 151, 131, 132, 168, 171, 147, 164, 152, 258, 259, 282, 283, 274, 275, 276, 277, 278, 279, 296, 297, 298, 299, 300, 301, 260, 261, 266, 267, 338, 339, 340, 341, 292, 293, 344, 345, 346, 347, 330, 331, 306, 307, 308] : List Int32).getD j 0
def tb_Coder_WHITE_BLOCKS : Nat → Int32 := fun j => ([59, 50, 87, 183, 310, 311, 356, 357, 360, 359, 716, 717, 722, 723, 724, 725, 726, 727, 728, 729, 730, 731, 664, 665, 666, 88, 667] : List Int32).getD j 0
def tb_Coder_LONG_BLOCKS : Nat → Int32 := fun j => ([2056, 2060, 2061, 4114, 4115, 4116, 4117, 4118, 4119, 4124, 4125, 4126, 4127] : List Int32).getD j 0
def tb_Coder_BLACK_RESTS : Nat → Int32 := fun j => ([1079, 10, 7, 6, 11, 19, 18, 35, 69, 68, 132, 133, 135, 260, 263, 536, 1047, 1048, 1032, 2151, 2152, 2156, 2103, 2088, 2071, 2072, 4298, 4299, 4300, 4301, 4200, 4201, 4202, 4203, 4306, 4307, 4308, 4309, 4310, 4311, 4204, 4205, 4314, 4315, 4180, 4181, 4182, 4183, 4196, 4197, 4178, 4179, 4132, 4151, 4152, 4135, 4136, 4184, 4185, 4139, 4140, 4186, 4198, 4199] : List Int32).getD j 0
def tb_Coder_BLACK_BLOCKS : Nat → Int32 := fun j => ([1039, 4296, 4297, 4187, 4147, 4148, 4149, 8300, 8301, 8266, 8267, 8268, 8269, 8306, 8307, 8308, 8309, 8310, 8311, 8274, 8275, 8276, 8277, 8282, 8283, 8292, 8293] : List Int32).getD j 0
def tb_Page_SIZES : Nat → Int32 := fun j => ([1, 2, 3, 6, 26] : List Int32).getD j 0
def tb_FontShelf_SIZES : Nat → Int32 := fun j => ([2, 1, 2, 4, 2, 1, 2] : List Int32).getD j 0
def nwF : List (String × Nat × String × String × String × String) := [("SheetPrinterModel", 233, "SheetPrinterModel$Desk", "state", "[I", "SheetPrinterModel"), ("SheetPrinterModel", 190, "SheetPrinterModel$Desk", "size", "I", "SheetPrinterModel"), ("SheetPrinterModel", 205, "SheetPrinterModel$Desk", "orientation", "I", "SheetPrinterModel"), ("SheetPrinterModel", 224, "SheetPrinterModel$Desk", "phase", "I", "SheetPrinterModel"), ("SheetPrinterModel", 263, "SheetPrinterModel$Desk", "came", "Z", "SheetPrinterModel"), ("SheetPrinterModel", 384, "SheetPrinterModel$Desk", "cameX", "I", "SheetPrinterModel"), ("SheetPrinterModel", 390, "SheetPrinterModel$Desk", "cameY", "I", "SheetPrinterModel"), ("SheetPrinterModel", 257, "SheetPrinterModel$Desk", "pages", "I", "SheetPrinterModel"), ("SheetPrinterModel", 468, "SheetPrinterModel$Desk", "page", "[I", "SheetPrinterModel"), ("SheetPrinterModel", 269, "SheetPrinterModel$Desk", "others", "I", "SheetPrinterModel"), ("SheetPrinterModel", 272, "SheetPrinterModel$Desk", "other", "[I", "SheetPrinterModel"), ("SheetPrinterModel", 315, "SheetPrinterModel$Desk", "store", "[B", "SheetPrinterModel"), ("SheetPrinterModel", 374, "SheetPrinterModel$Shelf", "thrown", "I", "SheetPrinterModel"), ("SheetPrinterModel", 582, "SheetPrinterModel$Shelf", "fonts", "I", "SheetPrinterModel"), ("SheetPrinterModel", 240, "SheetPrinterModel$Shelf", "attributes", "[I", "SheetPrinterModel"), ("SheetPrinterModel", 585, "SheetPrinterModel$Shelf", "glyphs", "I", "SheetPrinterModel"), ("SheetPrinterModel", 246, "SheetPrinterModel$Shelf", "glyph", "[I", "SheetPrinterModel"), ("SheetPrinterModel", 365, "SheetPrinterModel$Shelf", "draft", "[I", "SheetPrinterModel"), ("SheetPrinterModel", 591, "SheetPrinterModel$Macros", "count", "I", "SheetPrinterModel"), ("SheetPrinterModel", 298, "SheetPrinterModel$Macros", "permanent", "[Z", "SheetPrinterModel"), ("SheetPrinterModel", 288, "SheetPrinterModel$Macros", "lengths", "[I", "SheetPrinterModel"), ("SheetPrinterModel", 594, "SheetPrinterModel$Macros", "used", "I", "SheetPrinterModel"), ("SheetPrinterModel", 305, "SheetPrinterModel$Macros", "store", "[B", "SheetPrinterModel"), ("SheetPrinterModel", 138, "SheetPrinterModel$Macros", "reading", "Z", "SheetPrinterModel"), ("SheetPrinterModel", 472, "SheetPrinterModel$Lines", "line", "[Z", "SheetPrinterModel"), ("SheetPrinterModel", 551, "SheetPrinterModel$Lines", "at", "I", "SheetPrinterModel"), ("SheetPrinterModel", 550, "SheetPrinterModel$Lines", "fault", "I", "SheetPrinterModel"), ("SheetPrinterModel", 557, "SheetPrinterModel$Lines", "readAbove", "[Z", "SheetPrinterModel"), ("SheetPrinterModel", 542, "SheetPrinterModel$Pictures", "file", "[B", "SheetPrinterModel"), ("SheetPrinterModel", 491, "SheetPrinterModel$Pictures", "size", "I", "SheetPrinterModel"), ("SheetPrinterModel", 219, "SheetPrinterModel$Pictures", "made", "I", "SheetPrinterModel"), ("SheetPrinterModel", 501, "SheetPrinterModel$Pictures", "from", "I", "SheetPrinterModel"), ("SheetPrinterModel", 196, "SheetPrinterModel$Sheet", "wide", "I", "SheetPrinterModel"), ("SheetPrinterModel", 202, "SheetPrinterModel$Sheet", "high", "I", "SheetPrinterModel"), ("SheetPrinterModel", 208, "SheetPrinterModel$Sheet", "orientation", "I", "SheetPrinterModel"), ("SheetPrinterModel", 577, "SheetPrinterModel$Sheet", "marks", "I", "SheetPrinterModel"), ("SheetPrinterModel", 580, "SheetPrinterModel$Sheet", "bytes", "I", "SheetPrinterModel"), ("SheetPrinterModel", 484, "SheetPrinterModel$Sheet", "overrun", "Z", "SheetPrinterModel"), ("SheetPrinterModel", 175, "SheetPrinterModel$Sheet", "ink", "I", "SheetPrinterModel"), ("SheetPrinterModel", 178, "SheetPrinterModel$Sheet", "value", "I", "SheetPrinterModel"), ("SheetPrinterModel", 181, "SheetPrinterModel$Sheet", "sourceOpaque", "Z", "SheetPrinterModel"), ("SheetPrinterModel", 184, "SheetPrinterModel$Sheet", "inkOpaque", "Z", "SheetPrinterModel")]
def nwM : List (String × Nat × MethodName × String) := [("SheetPrinter", 45, ⟨"SheetPrinter$Macros", "<init>", "()V"⟩, "SheetPrinter"), ("SheetPrinter$Interpreter", 11, ⟨"SheetPrinter$Parser", "<init>", "()V"⟩, "SheetPrinter"), ("SheetPrinter", 77, ⟨"SheetPrinter$OutFile", "<init>", "()V"⟩, "SheetPrinter"), ("SheetPrinterModel", 25, ⟨"SheetPrinterModel$Macros", "<init>", "()V"⟩, "SheetPrinterModel"), ("SheetPrinterModel", 193, ⟨"SheetPrinterModel$Desk", "across", "(I)I"⟩, "SheetPrinterModel"), ("SheetPrinterModel", 199, ⟨"SheetPrinterModel$Desk", "down", "(I)I"⟩, "SheetPrinterModel"), ("SheetPrinterModel", 554, ⟨"SheetPrinterModel$Lines", "next", "()I"⟩, "SheetPrinterModel"), ("SheetPrinterModel", 236, ⟨"SheetPrinterModel$Shelf", "chosenGlyph", "(II)I"⟩, "SheetPrinterModel"), ("SheetPrinterModel", 243, ⟨"SheetPrinterModel$Shelf", "choose", "(I)I"⟩, "SheetPrinterModel"), ("SheetPrinterModel", 396, ⟨"SheetPrinterModel$Shelf", "isBlack", "(III)Z"⟩, "SheetPrinterModel"), ("SheetPrinterModel", 447, ⟨"SheetPrinterModel$Desk", "setY", "(J)V"⟩, "SheetPrinterModel"), ("SheetPrinterModel", 362, ⟨"SheetPrinterModel$Shelf", "fits", "(II)Z"⟩, "SheetPrinterModel"), ("SheetPrinterModel", 560, ⟨"SheetPrinterModel$Desk", "ejectIfDue", "()V"⟩, "SheetPrinterModel")]
/-- links to private members of nest mates -/
def NW (U : State) : Prop := (∀ q ∈ nwF, va_Nw (.fieldLinkNest q.1 q.2.1 q.2.2.1 q.2.2.2.1 q.2.2.2.2.1 q.2.2.2.2.2) U) ∧ ∀ q ∈ nwM, va_Nw (.methodLinkNest q.1 q.2.1 q.2.2.1 q.2.2.2) U
theorem NW.same {u U : State} (h : u.vm = U.vm) (k : NW u) : NW U := ⟨fun q hq => va_Nw.same rfl h (k.1 q hq), fun q hq => va_Nw.same rfl h (k.2 q hq)⟩
theorem NW.moved {u U : State} (h : u.WarmedH U.vm) (k : NW u) : NW U := ⟨fun q hq => va_Nw.warmF h (k.1 q hq), fun q hq => va_Nw.warmM h (k.2 q hq)⟩
def xaW : List Cond := [(Jvm.Cond.castable "java/lang/IllegalArgumentException" "java/lang/IllegalArgumentException"), (Jvm.Cond.declares ({ cls := "java/lang/RuntimeException", name := "<init>", desc := "()V" } : Jvm.MethodName)), (Jvm.Cond.declares ({ cls := "java/lang/RuntimeException", name := "<init>", desc := "(Ljava/lang/String;)V" } : Jvm.MethodName)), (Jvm.Cond.declares ({ cls := "java/lang/Exception", name := "<init>", desc := "()V" } : Jvm.MethodName)), (Jvm.Cond.declares ({ cls := "java/lang/Exception", name := "<init>", desc := "(Ljava/lang/String;)V" } : Jvm.MethodName)), (Jvm.Cond.declares ({ cls := "java/lang/Throwable", name := "<init>", desc := "()V" } : Jvm.MethodName)), (Jvm.Cond.declares ({ cls := "java/lang/Throwable", name := "<init>", desc := "(Ljava/lang/String;)V" } : Jvm.MethodName)), (Jvm.Cond.castable "java/lang/IllegalStateException" "java/lang/IllegalStateException"), (Jvm.Cond.castable "java/lang/IndexOutOfBoundsException" "java/lang/IndexOutOfBoundsException")]
def xaS : List (String × Nat × String) := [("SheetPrinter", 112, "kind is 0 or 1, n is 1 to 20"), ("SheetPrinter", 122, "the job has failed"), ("SheetPrinter", 175, "no such page or number")]
/-- a static of reference kind, where it lies and how it is laid -/
def XZ (C n d : String) (A : Nat → Prop) (U : State) (H : Heap) : Prop := ∃ (cf : ClassId) (kf : Class) (fi : Nat) (f : Field) (a : Nat) (cell : Cell), U.vm.findClass C = some cf ∧ U.fieldFound? C n d = some (cf, kf, fi, f) ∧ f.isStatic = true ∧ kf.statics = some a ∧ kf.staticTypes[f.slot]? = some f.type ∧ H[a]? = some cell ∧ cell.vm.isStatics = true ∧ cell.cls = cf ∧ f.slot < cell.slots.size ∧ (∃ v : Value, cell.slots[f.slot]? = some v ∧ v.isRef = true) ∧ ¬ A a
theorem XZ.moved {C n d : String} {A : Nat → Prop} {u U : State} {H : Heap} (hvm : u.vm.Alike U.vm) (h : XZ C n d A u H) : XZ C n d A U H := by
  obtain ⟨cf, kf, fi, f, a, cell, h0, h1, h2, h3, h4, h5⟩ := h
  obtain ⟨k', hi', he⟩ := State.fieldFound?_setVm hvm h1
  exact ⟨cf, k', fi, f, a, cell, by rw [hvm.findClass]; exact h0, hi', h2, by rw [he]; exact h3, by rw [he]; exact h4, h5⟩
theorem XZ.kept {C n d : String} {A : Nat → Prop} {U : State} {H H1 : Heap} (h : XZ C n d A U H) (hq : ∀ a : Nat, a < H.size → ¬ A a → H1[a]? = H[a]?) : XZ C n d A U H1 := by
  obtain ⟨cf, kf, fi, f, a, cell, h0, h1, h2, h3, h4, h5, h6, h7, h8, h9, hA⟩ := h
  exact ⟨cf, kf, fi, f, a, cell, h0, h1, h2, h3, h4, by rw [hq a (Array.getElem?_eq_some_iff.mp h5).1 hA]; exact h5, h6, h7, h8, h9, hA⟩
theorem XZ.narrow {C n d : String} {A B : Nat → Prop} {U : State} {H : Heap} (h : XZ C n d A U H) (hAB : ∀ q, B q → A q) : XZ C n d B U H := by
  obtain ⟨cf, kf, fi, f, a, cell, h0, h1, h2, h3, h4, h5, h6, h7, h8, h9, hA⟩ := h
  exact ⟨cf, kf, fi, f, a, cell, h0, h1, h2, h3, h4, h5, h6, h7, h8, h9, fun z => hA (hAB a z)⟩
theorem XZ.lays {C n d : String} {A : Nat → Prop} {args : Array Value} {s : State} (h : XZ C n d A s s.heap) : (Cond.laysStatic C n d).before args s = true := by
  obtain ⟨cf, kf, fi, f, a, cell, h0, h1, h2, h3, h4, h5, h6, h7, h8, h9, hA⟩ := h
  simp [Cond.before, Cond.holds, Cond.value, h0, h1, h2, h3, h4, h5, h6, h7, h8]
theorem XZ.isRef {C n d : String} {A : Nat → Prop} {args : Array Value} {s : State} (h : XZ C n d A s s.heap) : (Cond.isRef (.static C n d)).before args s = true := by
  obtain ⟨cf, kf, fi, f, a, cell, h0, h1, h2, h3, h4, h5, h6, h7, h8, ⟨v, h9, hv⟩, hA⟩ := h
  have he : (Term.static C n d).eval args s none [] s = some v := by simp [Term.eval, State.fieldNamed?, h1, h2, h3, h5, h6, h9]
  simp only [Cond.before, Cond.holds, Cond.value, he]
  cases v <;> simp_all [Value.isRef]
theorem XZ.of {C n d : String} {A : Nat → Prop} {args : Array Value} {s : State} (hl : (Cond.laysStatic C n d).before args s = true) (h : (Cond.isRef (.static C n d)).before args s = true) (hA : ∀ a : Nat, a < s.heap.size → ¬ A a) : XZ C n d A s s.heap := by
  obtain ⟨c, k, i, f, a, cell, g1, g2, g3, g4, g5, g6, g7, g8, g9⟩ := Cond.laysStatic_spec hl
  have he : (Term.static C n d).eval args s none [] s = some cell.slots[f.slot] := by simp [Term.eval, State.fieldNamed?, g2, g3, g4, g5, g6, g8]
  refine ⟨c, k, i, f, a, cell, g1, g2, g3, g4, g9, g5, g6, g7, g8, ⟨cell.slots[f.slot], Array.getElem?_eq_getElem g8, ?_⟩, hA a (Array.getElem?_eq_some_iff.mp g5).1⟩
  simp only [Cond.before, Cond.holds, Cond.value, he] at h
  generalize cell.slots[f.slot] = v at h
  cases v <;> simp_all [Value.isRef]
/-- a string constant that has been resolved, a word on the tables alone -/
theorem xs_same {own text : String} {i : Nat} {a b : Array Value} {u U : State} (h : u.vm = U.vm) (k : (Cond.stringRef own i text).before a u = true) : (Cond.stringRef own i text).before b U = true := by
  simp only [Cond.before, Cond.holds, Cond.value, State.names, State.resolvedAt?, State.poolOf?, ← h] at k ⊢
  exact k
/-- what the throws ask beside the good words -/
def XF (A : Nat → Prop) (U : State) (H : Heap) : Prop := XZ "java/lang/Throwable" "UNASSIGNED_STACK" "[Ljava/lang/StackTraceElement;" A U H ∧ XZ "java/lang/Throwable" "SUPPRESSED_SENTINEL" "Ljava/util/List;" A U H ∧ (∀ w ∈ xaW, va_Nw w U) ∧ ∀ q ∈ xaS, va_Nw (.stringRef q.1 q.2.1 q.2.2) U
theorem xaW_tab : ∀ w ∈ xaW, w.onTables = true ∧ w.keepsFace = true := by decide +kernel
theorem XF.same {A : Nat → Prop} {u U : State} {H : Heap} (h : u.vm = U.vm) (k : XF A u H) : XF A U H := ⟨k.1.moved (by rw [h]; exact Vm.Alike.refl _), k.2.1.moved (by rw [h]; exact Vm.Alike.refl _), fun w hw => va_Nw.same (xaW_tab w hw).1 h (k.2.2.1 w hw), fun q hq => xs_same h (k.2.2.2 q hq)⟩
theorem XF.moved {A : Nat → Prop} {u U : State} {H : Heap} (h : u.WarmedH U.vm) (k : XF A u H) : XF A U H := ⟨k.1.moved h.alike, k.2.1.moved h.alike, fun w hw => va_tabs (xaW_tab w hw).1 (rfl : (u.setVm U.vm).vm = U.vm) (Cond.rides (args := #[]) h.wide (xaW_tab w hw).2 (k.2.2.1 w hw)), fun q hq => xs_same (rfl : (u.setVm U.vm).vm = U.vm) (Cond.stringRef_warmed (args := #[]) h (k.2.2.2 q hq))⟩
theorem XF.kept {A : Nat → Prop} {U : State} {H H1 : Heap} (h : XF A U H) (hq : ∀ a : Nat, a < H.size → ¬ A a → H1[a]? = H[a]?) : XF A U H1 := ⟨h.1.kept hq, h.2.1.kept hq, h.2.2⟩
theorem XF.narrow {A B : Nat → Prop} {U : State} {H : Heap} (h : XF A U H) (hAB : ∀ q, B q → A q) : XF B U H := ⟨h.1.narrow hAB, h.2.1.narrow hAB, h.2.2⟩
/-- the static tables: where they lie (tt), what they hold -/
def ST (tt : Nat → Nat) (A : Nat → Prop) (U : State) (H : Heap) : Prop :=
  (va_Z "SheetPrinter$Page" "ACROSS" "[I" (.ref (tt 0)) A U H ∧ va_T .int (tt 0) 5 (fun j => .int (tb_Page_ACROSS j)) A U H) ∧
  (va_Z "SheetPrinter$Page" "DOWN" "[I" (.ref (tt 1)) A U H ∧ va_T .int (tt 1) 5 (fun j => .int (tb_Page_DOWN j)) A U H) ∧
  (va_Z "SheetPrinter$FontShelf" "FIRST_WISH" "[I" (.ref (tt 2)) A U H ∧ va_T .int (tt 2) 7 (fun j => .int (tb_FontShelf_FIRST_WISH j)) A U H) ∧
  (va_Z "SheetPrinter$FontShelf" "MOST" "[I" (.ref (tt 3)) A U H ∧ va_T .int (tt 3) 7 (fun j => .int (tb_FontShelf_MOST j)) A U H) ∧
  (va_Z "SheetPrinter$FontShelf" "LEAST" "[I" (.ref (tt 4)) A U H ∧ va_T .int (tt 4) 7 (fun j => .int (tb_FontShelf_LEAST j)) A U H) ∧
  (va_Z "SheetPrinter$Macros" "READING_ENDS" "[B" (.ref (tt 5)) A U H ∧ va_T .byte (tt 5) 5 (fun j => .int (tb_Macros_READING_ENDS j)) A U H) ∧
  (va_Z "SheetPrinter$PictureFile" "TAGS" "[I" (.ref (tt 6)) A U H ∧ va_T .int (tt 6) 11 (fun j => .int (tb_PictureFile_TAGS j)) A U H) ∧
  (va_Z "SheetPrinter$Coder" "SHIFTS" "[I" (.ref (tt 7)) A U H ∧ va_T .int (tt 7) 7 (fun j => .int (tb_Coder_SHIFTS j)) A U H) ∧
  (va_Z "SheetPrinter$Coder" "WHITE_RESTS" "[I" (.ref (tt 8)) A U H ∧ va_T .int (tt 8) 64 (fun j => .int (tb_Coder_WHITE_RESTS j)) A U H) ∧
  (va_Z "SheetPrinter$Coder" "WHITE_BLOCKS" "[I" (.ref (tt 9)) A U H ∧ va_T .int (tt 9) 27 (fun j => .int (tb_Coder_WHITE_BLOCKS j)) A U H) ∧
  (va_Z "SheetPrinter$Coder" "LONG_BLOCKS" "[I" (.ref (tt 10)) A U H ∧ va_T .int (tt 10) 13 (fun j => .int (tb_Coder_LONG_BLOCKS j)) A U H) ∧
  (va_Z "SheetPrinter$Coder" "BLACK_RESTS" "[I" (.ref (tt 11)) A U H ∧ va_T .int (tt 11) 64 (fun j => .int (tb_Coder_BLACK_RESTS j)) A U H) ∧
  (va_Z "SheetPrinter$Coder" "BLACK_BLOCKS" "[I" (.ref (tt 12)) A U H ∧ va_T .int (tt 12) 27 (fun j => .int (tb_Coder_BLACK_BLOCKS j)) A U H) ∧
  (va_Z "SheetPrinter$Page" "SIZES" "[I" (.ref (tt 13)) A U H ∧ va_T .int (tt 13) 5 (fun j => .int (tb_Page_SIZES j)) A U H) ∧
  (va_Z "SheetPrinter$FontShelf" "SIZES" "[I" (.ref (tt 14)) A U H ∧ va_T .int (tt 14) 7 (fun j => .int (tb_FontShelf_SIZES j)) A U H)
/-- what every method may ask: the static tables, and the links to nest mates -/
def SF (tt : Nat → Nat) (A : Nat → Prop) (U : State) (H : Heap) : Prop := ST tt A U H ∧ NW U ∧ XF A U H
theorem ST.moved {tt : Nat → Nat} {A : Nat → Prop} {u U : State} {H : Heap} (hvm : u.vm.Alike U.vm) (h : ST tt A u H) : ST tt A U H := by
  obtain ⟨h0, h1, h2, h3, h4, h5, h6, h7, h8, h9, h10, h11, h12, h13, h14⟩ := h
  exact ⟨⟨h0.1.moved hvm, h0.2.moved hvm⟩, ⟨h1.1.moved hvm, h1.2.moved hvm⟩, ⟨h2.1.moved hvm, h2.2.moved hvm⟩, ⟨h3.1.moved hvm, h3.2.moved hvm⟩, ⟨h4.1.moved hvm, h4.2.moved hvm⟩, ⟨h5.1.moved hvm, h5.2.moved hvm⟩, ⟨h6.1.moved hvm, h6.2.moved hvm⟩, ⟨h7.1.moved hvm, h7.2.moved hvm⟩, ⟨h8.1.moved hvm, h8.2.moved hvm⟩, ⟨h9.1.moved hvm, h9.2.moved hvm⟩, ⟨h10.1.moved hvm, h10.2.moved hvm⟩, ⟨h11.1.moved hvm, h11.2.moved hvm⟩, ⟨h12.1.moved hvm, h12.2.moved hvm⟩, ⟨h13.1.moved hvm, h13.2.moved hvm⟩, ⟨h14.1.moved hvm, h14.2.moved hvm⟩⟩
theorem ST.kept {tt : Nat → Nat} {A : Nat → Prop} {U : State} {H H1 : Heap} (h : ST tt A U H) (hq : ∀ a : Nat, a < H.size → ¬ A a → H1[a]? = H[a]?) : ST tt A U H1 := by
  obtain ⟨h0, h1, h2, h3, h4, h5, h6, h7, h8, h9, h10, h11, h12, h13, h14⟩ := h
  exact ⟨⟨h0.1.kept hq, h0.2.kept hq⟩, ⟨h1.1.kept hq, h1.2.kept hq⟩, ⟨h2.1.kept hq, h2.2.kept hq⟩, ⟨h3.1.kept hq, h3.2.kept hq⟩, ⟨h4.1.kept hq, h4.2.kept hq⟩, ⟨h5.1.kept hq, h5.2.kept hq⟩, ⟨h6.1.kept hq, h6.2.kept hq⟩, ⟨h7.1.kept hq, h7.2.kept hq⟩, ⟨h8.1.kept hq, h8.2.kept hq⟩, ⟨h9.1.kept hq, h9.2.kept hq⟩, ⟨h10.1.kept hq, h10.2.kept hq⟩, ⟨h11.1.kept hq, h11.2.kept hq⟩, ⟨h12.1.kept hq, h12.2.kept hq⟩, ⟨h13.1.kept hq, h13.2.kept hq⟩, ⟨h14.1.kept hq, h14.2.kept hq⟩⟩
theorem ST.narrow {tt : Nat → Nat} {A B : Nat → Prop} {U : State} {H : Heap} (h : ST tt A U H) (hAB : ∀ q, B q → A q) : ST tt B U H := by
  obtain ⟨h0, h1, h2, h3, h4, h5, h6, h7, h8, h9, h10, h11, h12, h13, h14⟩ := h
  exact ⟨⟨h0.1.narrow hAB, h0.2.narrow hAB⟩, ⟨h1.1.narrow hAB, h1.2.narrow hAB⟩, ⟨h2.1.narrow hAB, h2.2.narrow hAB⟩, ⟨h3.1.narrow hAB, h3.2.narrow hAB⟩, ⟨h4.1.narrow hAB, h4.2.narrow hAB⟩, ⟨h5.1.narrow hAB, h5.2.narrow hAB⟩, ⟨h6.1.narrow hAB, h6.2.narrow hAB⟩, ⟨h7.1.narrow hAB, h7.2.narrow hAB⟩, ⟨h8.1.narrow hAB, h8.2.narrow hAB⟩, ⟨h9.1.narrow hAB, h9.2.narrow hAB⟩, ⟨h10.1.narrow hAB, h10.2.narrow hAB⟩, ⟨h11.1.narrow hAB, h11.2.narrow hAB⟩, ⟨h12.1.narrow hAB, h12.2.narrow hAB⟩, ⟨h13.1.narrow hAB, h13.2.narrow hAB⟩, ⟨h14.1.narrow hAB, h14.2.narrow hAB⟩⟩
theorem SF.same {tt : Nat → Nat} {A : Nat → Prop} {u U : State} {H : Heap} (hvm : u.vm = U.vm) (h : SF tt A u H) : SF tt A U H := ⟨h.1.moved (by rw [hvm]; exact Vm.Alike.refl _), h.2.1.same hvm, h.2.2.same hvm⟩
theorem SF.moved {tt : Nat → Nat} {A : Nat → Prop} {u U : State} {H : Heap} (hW : u.WarmedH U.vm) (h : SF tt A u H) : SF tt A U H := ⟨h.1.moved hW.alike, h.2.1.moved hW, h.2.2.moved hW⟩
theorem SF.kept {tt : Nat → Nat} {A : Nat → Prop} {U : State} {H H1 : Heap} (h : SF tt A U H) (hq : ∀ a : Nat, a < H.size → ¬ A a → H1[a]? = H[a]?) : SF tt A U H1 := ⟨h.1.kept hq, h.2.1, h.2.2.kept hq⟩
theorem SF.narrow {tt : Nat → Nat} {A B : Nat → Prop} {U : State} {H : Heap} (h : SF tt A U H) (hAB : ∀ q, B q → A q) : SF tt B U H := ⟨h.1.narrow hAB, h.2.1, h.2.2.narrow hAB⟩
theorem SF_p0 {tt : Nat → Nat} {A : Nat → Prop} {U : State} {H : Heap} (h : SF tt A U H) : va_Z "SheetPrinter$Page" "ACROSS" "[I" (.ref (tt 0)) A U H ∧ va_T .int (tt 0) 5 (fun j => .int (tb_Page_ACROSS j)) A U H := h.1.1
theorem SF_p1 {tt : Nat → Nat} {A : Nat → Prop} {U : State} {H : Heap} (h : SF tt A U H) : va_Z "SheetPrinter$Page" "DOWN" "[I" (.ref (tt 1)) A U H ∧ va_T .int (tt 1) 5 (fun j => .int (tb_Page_DOWN j)) A U H := h.1.2.1
theorem SF_p2 {tt : Nat → Nat} {A : Nat → Prop} {U : State} {H : Heap} (h : SF tt A U H) : va_Z "SheetPrinter$FontShelf" "FIRST_WISH" "[I" (.ref (tt 2)) A U H ∧ va_T .int (tt 2) 7 (fun j => .int (tb_FontShelf_FIRST_WISH j)) A U H := h.1.2.2.1
theorem SF_p3 {tt : Nat → Nat} {A : Nat → Prop} {U : State} {H : Heap} (h : SF tt A U H) : va_Z "SheetPrinter$FontShelf" "MOST" "[I" (.ref (tt 3)) A U H ∧ va_T .int (tt 3) 7 (fun j => .int (tb_FontShelf_MOST j)) A U H := h.1.2.2.2.1
theorem SF_p4 {tt : Nat → Nat} {A : Nat → Prop} {U : State} {H : Heap} (h : SF tt A U H) : va_Z "SheetPrinter$FontShelf" "LEAST" "[I" (.ref (tt 4)) A U H ∧ va_T .int (tt 4) 7 (fun j => .int (tb_FontShelf_LEAST j)) A U H := h.1.2.2.2.2.1
theorem SF_p5 {tt : Nat → Nat} {A : Nat → Prop} {U : State} {H : Heap} (h : SF tt A U H) : va_Z "SheetPrinter$Macros" "READING_ENDS" "[B" (.ref (tt 5)) A U H ∧ va_T .byte (tt 5) 5 (fun j => .int (tb_Macros_READING_ENDS j)) A U H := h.1.2.2.2.2.2.1
theorem SF_p6 {tt : Nat → Nat} {A : Nat → Prop} {U : State} {H : Heap} (h : SF tt A U H) : va_Z "SheetPrinter$PictureFile" "TAGS" "[I" (.ref (tt 6)) A U H ∧ va_T .int (tt 6) 11 (fun j => .int (tb_PictureFile_TAGS j)) A U H := h.1.2.2.2.2.2.2.1
theorem SF_p7 {tt : Nat → Nat} {A : Nat → Prop} {U : State} {H : Heap} (h : SF tt A U H) : va_Z "SheetPrinter$Coder" "SHIFTS" "[I" (.ref (tt 7)) A U H ∧ va_T .int (tt 7) 7 (fun j => .int (tb_Coder_SHIFTS j)) A U H := h.1.2.2.2.2.2.2.2.1
theorem SF_p8 {tt : Nat → Nat} {A : Nat → Prop} {U : State} {H : Heap} (h : SF tt A U H) : va_Z "SheetPrinter$Coder" "WHITE_RESTS" "[I" (.ref (tt 8)) A U H ∧ va_T .int (tt 8) 64 (fun j => .int (tb_Coder_WHITE_RESTS j)) A U H := h.1.2.2.2.2.2.2.2.2.1
theorem SF_p9 {tt : Nat → Nat} {A : Nat → Prop} {U : State} {H : Heap} (h : SF tt A U H) : va_Z "SheetPrinter$Coder" "WHITE_BLOCKS" "[I" (.ref (tt 9)) A U H ∧ va_T .int (tt 9) 27 (fun j => .int (tb_Coder_WHITE_BLOCKS j)) A U H := h.1.2.2.2.2.2.2.2.2.2.1
theorem SF_p10 {tt : Nat → Nat} {A : Nat → Prop} {U : State} {H : Heap} (h : SF tt A U H) : va_Z "SheetPrinter$Coder" "LONG_BLOCKS" "[I" (.ref (tt 10)) A U H ∧ va_T .int (tt 10) 13 (fun j => .int (tb_Coder_LONG_BLOCKS j)) A U H := h.1.2.2.2.2.2.2.2.2.2.2.1
theorem SF_p11 {tt : Nat → Nat} {A : Nat → Prop} {U : State} {H : Heap} (h : SF tt A U H) : va_Z "SheetPrinter$Coder" "BLACK_RESTS" "[I" (.ref (tt 11)) A U H ∧ va_T .int (tt 11) 64 (fun j => .int (tb_Coder_BLACK_RESTS j)) A U H := h.1.2.2.2.2.2.2.2.2.2.2.2.1
theorem SF_p12 {tt : Nat → Nat} {A : Nat → Prop} {U : State} {H : Heap} (h : SF tt A U H) : va_Z "SheetPrinter$Coder" "BLACK_BLOCKS" "[I" (.ref (tt 12)) A U H ∧ va_T .int (tt 12) 27 (fun j => .int (tb_Coder_BLACK_BLOCKS j)) A U H := h.1.2.2.2.2.2.2.2.2.2.2.2.2.1
theorem SF_p13 {tt : Nat → Nat} {A : Nat → Prop} {U : State} {H : Heap} (h : SF tt A U H) : va_Z "SheetPrinter$Page" "SIZES" "[I" (.ref (tt 13)) A U H ∧ va_T .int (tt 13) 5 (fun j => .int (tb_Page_SIZES j)) A U H := h.1.2.2.2.2.2.2.2.2.2.2.2.2.2.1
theorem SF_p14 {tt : Nat → Nat} {A : Nat → Prop} {U : State} {H : Heap} (h : SF tt A U H) : va_Z "SheetPrinter$FontShelf" "SIZES" "[I" (.ref (tt 14)) A U H ∧ va_T .int (tt 14) 7 (fun j => .int (tb_FontShelf_SIZES j)) A U H := h.1.2.2.2.2.2.2.2.2.2.2.2.2.2.2
theorem nf_0 {tt : Nat → Nat} {A : Nat → Prop} {U : State} {H : Heap} (h : SF tt A U H) : va_Nw (.fieldLinkNest "SheetPrinterModel" 233 "SheetPrinterModel$Desk" "state" "[I" "SheetPrinterModel") U := h.2.1.1 ("SheetPrinterModel", 233, "SheetPrinterModel$Desk", "state", "[I", "SheetPrinterModel") (List.mem_of_getElem? (i := 0) rfl)
theorem nf_1 {tt : Nat → Nat} {A : Nat → Prop} {U : State} {H : Heap} (h : SF tt A U H) : va_Nw (.fieldLinkNest "SheetPrinterModel" 190 "SheetPrinterModel$Desk" "size" "I" "SheetPrinterModel") U := h.2.1.1 ("SheetPrinterModel", 190, "SheetPrinterModel$Desk", "size", "I", "SheetPrinterModel") (List.mem_of_getElem? (i := 1) rfl)
theorem nf_2 {tt : Nat → Nat} {A : Nat → Prop} {U : State} {H : Heap} (h : SF tt A U H) : va_Nw (.fieldLinkNest "SheetPrinterModel" 205 "SheetPrinterModel$Desk" "orientation" "I" "SheetPrinterModel") U := h.2.1.1 ("SheetPrinterModel", 205, "SheetPrinterModel$Desk", "orientation", "I", "SheetPrinterModel") (List.mem_of_getElem? (i := 2) rfl)
theorem nf_3 {tt : Nat → Nat} {A : Nat → Prop} {U : State} {H : Heap} (h : SF tt A U H) : va_Nw (.fieldLinkNest "SheetPrinterModel" 224 "SheetPrinterModel$Desk" "phase" "I" "SheetPrinterModel") U := h.2.1.1 ("SheetPrinterModel", 224, "SheetPrinterModel$Desk", "phase", "I", "SheetPrinterModel") (List.mem_of_getElem? (i := 3) rfl)
theorem nf_4 {tt : Nat → Nat} {A : Nat → Prop} {U : State} {H : Heap} (h : SF tt A U H) : va_Nw (.fieldLinkNest "SheetPrinterModel" 263 "SheetPrinterModel$Desk" "came" "Z" "SheetPrinterModel") U := h.2.1.1 ("SheetPrinterModel", 263, "SheetPrinterModel$Desk", "came", "Z", "SheetPrinterModel") (List.mem_of_getElem? (i := 4) rfl)
theorem nf_5 {tt : Nat → Nat} {A : Nat → Prop} {U : State} {H : Heap} (h : SF tt A U H) : va_Nw (.fieldLinkNest "SheetPrinterModel" 384 "SheetPrinterModel$Desk" "cameX" "I" "SheetPrinterModel") U := h.2.1.1 ("SheetPrinterModel", 384, "SheetPrinterModel$Desk", "cameX", "I", "SheetPrinterModel") (List.mem_of_getElem? (i := 5) rfl)
theorem nf_6 {tt : Nat → Nat} {A : Nat → Prop} {U : State} {H : Heap} (h : SF tt A U H) : va_Nw (.fieldLinkNest "SheetPrinterModel" 390 "SheetPrinterModel$Desk" "cameY" "I" "SheetPrinterModel") U := h.2.1.1 ("SheetPrinterModel", 390, "SheetPrinterModel$Desk", "cameY", "I", "SheetPrinterModel") (List.mem_of_getElem? (i := 6) rfl)
theorem nf_7 {tt : Nat → Nat} {A : Nat → Prop} {U : State} {H : Heap} (h : SF tt A U H) : va_Nw (.fieldLinkNest "SheetPrinterModel" 257 "SheetPrinterModel$Desk" "pages" "I" "SheetPrinterModel") U := h.2.1.1 ("SheetPrinterModel", 257, "SheetPrinterModel$Desk", "pages", "I", "SheetPrinterModel") (List.mem_of_getElem? (i := 7) rfl)
theorem nf_8 {tt : Nat → Nat} {A : Nat → Prop} {U : State} {H : Heap} (h : SF tt A U H) : va_Nw (.fieldLinkNest "SheetPrinterModel" 468 "SheetPrinterModel$Desk" "page" "[I" "SheetPrinterModel") U := h.2.1.1 ("SheetPrinterModel", 468, "SheetPrinterModel$Desk", "page", "[I", "SheetPrinterModel") (List.mem_of_getElem? (i := 8) rfl)
theorem nf_9 {tt : Nat → Nat} {A : Nat → Prop} {U : State} {H : Heap} (h : SF tt A U H) : va_Nw (.fieldLinkNest "SheetPrinterModel" 269 "SheetPrinterModel$Desk" "others" "I" "SheetPrinterModel") U := h.2.1.1 ("SheetPrinterModel", 269, "SheetPrinterModel$Desk", "others", "I", "SheetPrinterModel") (List.mem_of_getElem? (i := 9) rfl)
theorem nf_10 {tt : Nat → Nat} {A : Nat → Prop} {U : State} {H : Heap} (h : SF tt A U H) : va_Nw (.fieldLinkNest "SheetPrinterModel" 272 "SheetPrinterModel$Desk" "other" "[I" "SheetPrinterModel") U := h.2.1.1 ("SheetPrinterModel", 272, "SheetPrinterModel$Desk", "other", "[I", "SheetPrinterModel") (List.mem_of_getElem? (i := 10) rfl)
theorem nf_11 {tt : Nat → Nat} {A : Nat → Prop} {U : State} {H : Heap} (h : SF tt A U H) : va_Nw (.fieldLinkNest "SheetPrinterModel" 315 "SheetPrinterModel$Desk" "store" "[B" "SheetPrinterModel") U := h.2.1.1 ("SheetPrinterModel", 315, "SheetPrinterModel$Desk", "store", "[B", "SheetPrinterModel") (List.mem_of_getElem? (i := 11) rfl)
theorem nf_12 {tt : Nat → Nat} {A : Nat → Prop} {U : State} {H : Heap} (h : SF tt A U H) : va_Nw (.fieldLinkNest "SheetPrinterModel" 374 "SheetPrinterModel$Shelf" "thrown" "I" "SheetPrinterModel") U := h.2.1.1 ("SheetPrinterModel", 374, "SheetPrinterModel$Shelf", "thrown", "I", "SheetPrinterModel") (List.mem_of_getElem? (i := 12) rfl)
theorem nf_13 {tt : Nat → Nat} {A : Nat → Prop} {U : State} {H : Heap} (h : SF tt A U H) : va_Nw (.fieldLinkNest "SheetPrinterModel" 582 "SheetPrinterModel$Shelf" "fonts" "I" "SheetPrinterModel") U := h.2.1.1 ("SheetPrinterModel", 582, "SheetPrinterModel$Shelf", "fonts", "I", "SheetPrinterModel") (List.mem_of_getElem? (i := 13) rfl)
theorem nf_14 {tt : Nat → Nat} {A : Nat → Prop} {U : State} {H : Heap} (h : SF tt A U H) : va_Nw (.fieldLinkNest "SheetPrinterModel" 240 "SheetPrinterModel$Shelf" "attributes" "[I" "SheetPrinterModel") U := h.2.1.1 ("SheetPrinterModel", 240, "SheetPrinterModel$Shelf", "attributes", "[I", "SheetPrinterModel") (List.mem_of_getElem? (i := 14) rfl)
theorem nf_15 {tt : Nat → Nat} {A : Nat → Prop} {U : State} {H : Heap} (h : SF tt A U H) : va_Nw (.fieldLinkNest "SheetPrinterModel" 585 "SheetPrinterModel$Shelf" "glyphs" "I" "SheetPrinterModel") U := h.2.1.1 ("SheetPrinterModel", 585, "SheetPrinterModel$Shelf", "glyphs", "I", "SheetPrinterModel") (List.mem_of_getElem? (i := 15) rfl)
theorem nf_16 {tt : Nat → Nat} {A : Nat → Prop} {U : State} {H : Heap} (h : SF tt A U H) : va_Nw (.fieldLinkNest "SheetPrinterModel" 246 "SheetPrinterModel$Shelf" "glyph" "[I" "SheetPrinterModel") U := h.2.1.1 ("SheetPrinterModel", 246, "SheetPrinterModel$Shelf", "glyph", "[I", "SheetPrinterModel") (List.mem_of_getElem? (i := 16) rfl)
theorem nf_17 {tt : Nat → Nat} {A : Nat → Prop} {U : State} {H : Heap} (h : SF tt A U H) : va_Nw (.fieldLinkNest "SheetPrinterModel" 365 "SheetPrinterModel$Shelf" "draft" "[I" "SheetPrinterModel") U := h.2.1.1 ("SheetPrinterModel", 365, "SheetPrinterModel$Shelf", "draft", "[I", "SheetPrinterModel") (List.mem_of_getElem? (i := 17) rfl)
theorem nf_18 {tt : Nat → Nat} {A : Nat → Prop} {U : State} {H : Heap} (h : SF tt A U H) : va_Nw (.fieldLinkNest "SheetPrinterModel" 591 "SheetPrinterModel$Macros" "count" "I" "SheetPrinterModel") U := h.2.1.1 ("SheetPrinterModel", 591, "SheetPrinterModel$Macros", "count", "I", "SheetPrinterModel") (List.mem_of_getElem? (i := 18) rfl)
theorem nf_19 {tt : Nat → Nat} {A : Nat → Prop} {U : State} {H : Heap} (h : SF tt A U H) : va_Nw (.fieldLinkNest "SheetPrinterModel" 298 "SheetPrinterModel$Macros" "permanent" "[Z" "SheetPrinterModel") U := h.2.1.1 ("SheetPrinterModel", 298, "SheetPrinterModel$Macros", "permanent", "[Z", "SheetPrinterModel") (List.mem_of_getElem? (i := 19) rfl)
theorem nf_20 {tt : Nat → Nat} {A : Nat → Prop} {U : State} {H : Heap} (h : SF tt A U H) : va_Nw (.fieldLinkNest "SheetPrinterModel" 288 "SheetPrinterModel$Macros" "lengths" "[I" "SheetPrinterModel") U := h.2.1.1 ("SheetPrinterModel", 288, "SheetPrinterModel$Macros", "lengths", "[I", "SheetPrinterModel") (List.mem_of_getElem? (i := 20) rfl)
theorem nf_21 {tt : Nat → Nat} {A : Nat → Prop} {U : State} {H : Heap} (h : SF tt A U H) : va_Nw (.fieldLinkNest "SheetPrinterModel" 594 "SheetPrinterModel$Macros" "used" "I" "SheetPrinterModel") U := h.2.1.1 ("SheetPrinterModel", 594, "SheetPrinterModel$Macros", "used", "I", "SheetPrinterModel") (List.mem_of_getElem? (i := 21) rfl)
theorem nf_22 {tt : Nat → Nat} {A : Nat → Prop} {U : State} {H : Heap} (h : SF tt A U H) : va_Nw (.fieldLinkNest "SheetPrinterModel" 305 "SheetPrinterModel$Macros" "store" "[B" "SheetPrinterModel") U := h.2.1.1 ("SheetPrinterModel", 305, "SheetPrinterModel$Macros", "store", "[B", "SheetPrinterModel") (List.mem_of_getElem? (i := 22) rfl)
theorem nf_23 {tt : Nat → Nat} {A : Nat → Prop} {U : State} {H : Heap} (h : SF tt A U H) : va_Nw (.fieldLinkNest "SheetPrinterModel" 138 "SheetPrinterModel$Macros" "reading" "Z" "SheetPrinterModel") U := h.2.1.1 ("SheetPrinterModel", 138, "SheetPrinterModel$Macros", "reading", "Z", "SheetPrinterModel") (List.mem_of_getElem? (i := 23) rfl)
theorem nf_24 {tt : Nat → Nat} {A : Nat → Prop} {U : State} {H : Heap} (h : SF tt A U H) : va_Nw (.fieldLinkNest "SheetPrinterModel" 472 "SheetPrinterModel$Lines" "line" "[Z" "SheetPrinterModel") U := h.2.1.1 ("SheetPrinterModel", 472, "SheetPrinterModel$Lines", "line", "[Z", "SheetPrinterModel") (List.mem_of_getElem? (i := 24) rfl)
theorem nf_25 {tt : Nat → Nat} {A : Nat → Prop} {U : State} {H : Heap} (h : SF tt A U H) : va_Nw (.fieldLinkNest "SheetPrinterModel" 551 "SheetPrinterModel$Lines" "at" "I" "SheetPrinterModel") U := h.2.1.1 ("SheetPrinterModel", 551, "SheetPrinterModel$Lines", "at", "I", "SheetPrinterModel") (List.mem_of_getElem? (i := 25) rfl)
theorem nf_26 {tt : Nat → Nat} {A : Nat → Prop} {U : State} {H : Heap} (h : SF tt A U H) : va_Nw (.fieldLinkNest "SheetPrinterModel" 550 "SheetPrinterModel$Lines" "fault" "I" "SheetPrinterModel") U := h.2.1.1 ("SheetPrinterModel", 550, "SheetPrinterModel$Lines", "fault", "I", "SheetPrinterModel") (List.mem_of_getElem? (i := 26) rfl)
theorem nf_27 {tt : Nat → Nat} {A : Nat → Prop} {U : State} {H : Heap} (h : SF tt A U H) : va_Nw (.fieldLinkNest "SheetPrinterModel" 557 "SheetPrinterModel$Lines" "readAbove" "[Z" "SheetPrinterModel") U := h.2.1.1 ("SheetPrinterModel", 557, "SheetPrinterModel$Lines", "readAbove", "[Z", "SheetPrinterModel") (List.mem_of_getElem? (i := 27) rfl)
theorem nf_28 {tt : Nat → Nat} {A : Nat → Prop} {U : State} {H : Heap} (h : SF tt A U H) : va_Nw (.fieldLinkNest "SheetPrinterModel" 542 "SheetPrinterModel$Pictures" "file" "[B" "SheetPrinterModel") U := h.2.1.1 ("SheetPrinterModel", 542, "SheetPrinterModel$Pictures", "file", "[B", "SheetPrinterModel") (List.mem_of_getElem? (i := 28) rfl)
theorem nf_29 {tt : Nat → Nat} {A : Nat → Prop} {U : State} {H : Heap} (h : SF tt A U H) : va_Nw (.fieldLinkNest "SheetPrinterModel" 491 "SheetPrinterModel$Pictures" "size" "I" "SheetPrinterModel") U := h.2.1.1 ("SheetPrinterModel", 491, "SheetPrinterModel$Pictures", "size", "I", "SheetPrinterModel") (List.mem_of_getElem? (i := 29) rfl)
theorem nf_30 {tt : Nat → Nat} {A : Nat → Prop} {U : State} {H : Heap} (h : SF tt A U H) : va_Nw (.fieldLinkNest "SheetPrinterModel" 219 "SheetPrinterModel$Pictures" "made" "I" "SheetPrinterModel") U := h.2.1.1 ("SheetPrinterModel", 219, "SheetPrinterModel$Pictures", "made", "I", "SheetPrinterModel") (List.mem_of_getElem? (i := 30) rfl)
theorem nf_31 {tt : Nat → Nat} {A : Nat → Prop} {U : State} {H : Heap} (h : SF tt A U H) : va_Nw (.fieldLinkNest "SheetPrinterModel" 501 "SheetPrinterModel$Pictures" "from" "I" "SheetPrinterModel") U := h.2.1.1 ("SheetPrinterModel", 501, "SheetPrinterModel$Pictures", "from", "I", "SheetPrinterModel") (List.mem_of_getElem? (i := 31) rfl)
theorem nf_32 {tt : Nat → Nat} {A : Nat → Prop} {U : State} {H : Heap} (h : SF tt A U H) : va_Nw (.fieldLinkNest "SheetPrinterModel" 196 "SheetPrinterModel$Sheet" "wide" "I" "SheetPrinterModel") U := h.2.1.1 ("SheetPrinterModel", 196, "SheetPrinterModel$Sheet", "wide", "I", "SheetPrinterModel") (List.mem_of_getElem? (i := 32) rfl)
theorem nf_33 {tt : Nat → Nat} {A : Nat → Prop} {U : State} {H : Heap} (h : SF tt A U H) : va_Nw (.fieldLinkNest "SheetPrinterModel" 202 "SheetPrinterModel$Sheet" "high" "I" "SheetPrinterModel") U := h.2.1.1 ("SheetPrinterModel", 202, "SheetPrinterModel$Sheet", "high", "I", "SheetPrinterModel") (List.mem_of_getElem? (i := 33) rfl)
theorem nf_34 {tt : Nat → Nat} {A : Nat → Prop} {U : State} {H : Heap} (h : SF tt A U H) : va_Nw (.fieldLinkNest "SheetPrinterModel" 208 "SheetPrinterModel$Sheet" "orientation" "I" "SheetPrinterModel") U := h.2.1.1 ("SheetPrinterModel", 208, "SheetPrinterModel$Sheet", "orientation", "I", "SheetPrinterModel") (List.mem_of_getElem? (i := 34) rfl)
theorem nf_35 {tt : Nat → Nat} {A : Nat → Prop} {U : State} {H : Heap} (h : SF tt A U H) : va_Nw (.fieldLinkNest "SheetPrinterModel" 577 "SheetPrinterModel$Sheet" "marks" "I" "SheetPrinterModel") U := h.2.1.1 ("SheetPrinterModel", 577, "SheetPrinterModel$Sheet", "marks", "I", "SheetPrinterModel") (List.mem_of_getElem? (i := 35) rfl)
theorem nf_36 {tt : Nat → Nat} {A : Nat → Prop} {U : State} {H : Heap} (h : SF tt A U H) : va_Nw (.fieldLinkNest "SheetPrinterModel" 580 "SheetPrinterModel$Sheet" "bytes" "I" "SheetPrinterModel") U := h.2.1.1 ("SheetPrinterModel", 580, "SheetPrinterModel$Sheet", "bytes", "I", "SheetPrinterModel") (List.mem_of_getElem? (i := 36) rfl)
theorem nf_37 {tt : Nat → Nat} {A : Nat → Prop} {U : State} {H : Heap} (h : SF tt A U H) : va_Nw (.fieldLinkNest "SheetPrinterModel" 484 "SheetPrinterModel$Sheet" "overrun" "Z" "SheetPrinterModel") U := h.2.1.1 ("SheetPrinterModel", 484, "SheetPrinterModel$Sheet", "overrun", "Z", "SheetPrinterModel") (List.mem_of_getElem? (i := 37) rfl)
theorem nf_38 {tt : Nat → Nat} {A : Nat → Prop} {U : State} {H : Heap} (h : SF tt A U H) : va_Nw (.fieldLinkNest "SheetPrinterModel" 175 "SheetPrinterModel$Sheet" "ink" "I" "SheetPrinterModel") U := h.2.1.1 ("SheetPrinterModel", 175, "SheetPrinterModel$Sheet", "ink", "I", "SheetPrinterModel") (List.mem_of_getElem? (i := 38) rfl)
theorem nf_39 {tt : Nat → Nat} {A : Nat → Prop} {U : State} {H : Heap} (h : SF tt A U H) : va_Nw (.fieldLinkNest "SheetPrinterModel" 178 "SheetPrinterModel$Sheet" "value" "I" "SheetPrinterModel") U := h.2.1.1 ("SheetPrinterModel", 178, "SheetPrinterModel$Sheet", "value", "I", "SheetPrinterModel") (List.mem_of_getElem? (i := 39) rfl)
theorem nf_40 {tt : Nat → Nat} {A : Nat → Prop} {U : State} {H : Heap} (h : SF tt A U H) : va_Nw (.fieldLinkNest "SheetPrinterModel" 181 "SheetPrinterModel$Sheet" "sourceOpaque" "Z" "SheetPrinterModel") U := h.2.1.1 ("SheetPrinterModel", 181, "SheetPrinterModel$Sheet", "sourceOpaque", "Z", "SheetPrinterModel") (List.mem_of_getElem? (i := 40) rfl)
theorem nf_41 {tt : Nat → Nat} {A : Nat → Prop} {U : State} {H : Heap} (h : SF tt A U H) : va_Nw (.fieldLinkNest "SheetPrinterModel" 184 "SheetPrinterModel$Sheet" "inkOpaque" "Z" "SheetPrinterModel") U := h.2.1.1 ("SheetPrinterModel", 184, "SheetPrinterModel$Sheet", "inkOpaque", "Z", "SheetPrinterModel") (List.mem_of_getElem? (i := 41) rfl)
theorem nm_0 {tt : Nat → Nat} {A : Nat → Prop} {U : State} {H : Heap} (h : SF tt A U H) : va_Nw (.methodLinkNest "SheetPrinter" 45 ⟨"SheetPrinter$Macros", "<init>", "()V"⟩ "SheetPrinter") U := h.2.1.2 ("SheetPrinter", 45, ⟨"SheetPrinter$Macros", "<init>", "()V"⟩, "SheetPrinter") (List.mem_of_getElem? (i := 0) rfl)
theorem nm_1 {tt : Nat → Nat} {A : Nat → Prop} {U : State} {H : Heap} (h : SF tt A U H) : va_Nw (.methodLinkNest "SheetPrinter$Interpreter" 11 ⟨"SheetPrinter$Parser", "<init>", "()V"⟩ "SheetPrinter") U := h.2.1.2 ("SheetPrinter$Interpreter", 11, ⟨"SheetPrinter$Parser", "<init>", "()V"⟩, "SheetPrinter") (List.mem_of_getElem? (i := 1) rfl)
theorem nm_2 {tt : Nat → Nat} {A : Nat → Prop} {U : State} {H : Heap} (h : SF tt A U H) : va_Nw (.methodLinkNest "SheetPrinter" 77 ⟨"SheetPrinter$OutFile", "<init>", "()V"⟩ "SheetPrinter") U := h.2.1.2 ("SheetPrinter", 77, ⟨"SheetPrinter$OutFile", "<init>", "()V"⟩, "SheetPrinter") (List.mem_of_getElem? (i := 2) rfl)
theorem nm_3 {tt : Nat → Nat} {A : Nat → Prop} {U : State} {H : Heap} (h : SF tt A U H) : va_Nw (.methodLinkNest "SheetPrinterModel" 25 ⟨"SheetPrinterModel$Macros", "<init>", "()V"⟩ "SheetPrinterModel") U := h.2.1.2 ("SheetPrinterModel", 25, ⟨"SheetPrinterModel$Macros", "<init>", "()V"⟩, "SheetPrinterModel") (List.mem_of_getElem? (i := 3) rfl)
theorem nm_4 {tt : Nat → Nat} {A : Nat → Prop} {U : State} {H : Heap} (h : SF tt A U H) : va_Nw (.methodLinkNest "SheetPrinterModel" 193 ⟨"SheetPrinterModel$Desk", "across", "(I)I"⟩ "SheetPrinterModel") U := h.2.1.2 ("SheetPrinterModel", 193, ⟨"SheetPrinterModel$Desk", "across", "(I)I"⟩, "SheetPrinterModel") (List.mem_of_getElem? (i := 4) rfl)
theorem nm_5 {tt : Nat → Nat} {A : Nat → Prop} {U : State} {H : Heap} (h : SF tt A U H) : va_Nw (.methodLinkNest "SheetPrinterModel" 199 ⟨"SheetPrinterModel$Desk", "down", "(I)I"⟩ "SheetPrinterModel") U := h.2.1.2 ("SheetPrinterModel", 199, ⟨"SheetPrinterModel$Desk", "down", "(I)I"⟩, "SheetPrinterModel") (List.mem_of_getElem? (i := 5) rfl)
theorem nm_6 {tt : Nat → Nat} {A : Nat → Prop} {U : State} {H : Heap} (h : SF tt A U H) : va_Nw (.methodLinkNest "SheetPrinterModel" 554 ⟨"SheetPrinterModel$Lines", "next", "()I"⟩ "SheetPrinterModel") U := h.2.1.2 ("SheetPrinterModel", 554, ⟨"SheetPrinterModel$Lines", "next", "()I"⟩, "SheetPrinterModel") (List.mem_of_getElem? (i := 6) rfl)
theorem nm_7 {tt : Nat → Nat} {A : Nat → Prop} {U : State} {H : Heap} (h : SF tt A U H) : va_Nw (.methodLinkNest "SheetPrinterModel" 236 ⟨"SheetPrinterModel$Shelf", "chosenGlyph", "(II)I"⟩ "SheetPrinterModel") U := h.2.1.2 ("SheetPrinterModel", 236, ⟨"SheetPrinterModel$Shelf", "chosenGlyph", "(II)I"⟩, "SheetPrinterModel") (List.mem_of_getElem? (i := 7) rfl)
theorem nm_8 {tt : Nat → Nat} {A : Nat → Prop} {U : State} {H : Heap} (h : SF tt A U H) : va_Nw (.methodLinkNest "SheetPrinterModel" 243 ⟨"SheetPrinterModel$Shelf", "choose", "(I)I"⟩ "SheetPrinterModel") U := h.2.1.2 ("SheetPrinterModel", 243, ⟨"SheetPrinterModel$Shelf", "choose", "(I)I"⟩, "SheetPrinterModel") (List.mem_of_getElem? (i := 8) rfl)
theorem nm_9 {tt : Nat → Nat} {A : Nat → Prop} {U : State} {H : Heap} (h : SF tt A U H) : va_Nw (.methodLinkNest "SheetPrinterModel" 396 ⟨"SheetPrinterModel$Shelf", "isBlack", "(III)Z"⟩ "SheetPrinterModel") U := h.2.1.2 ("SheetPrinterModel", 396, ⟨"SheetPrinterModel$Shelf", "isBlack", "(III)Z"⟩, "SheetPrinterModel") (List.mem_of_getElem? (i := 9) rfl)
theorem nm_10 {tt : Nat → Nat} {A : Nat → Prop} {U : State} {H : Heap} (h : SF tt A U H) : va_Nw (.methodLinkNest "SheetPrinterModel" 447 ⟨"SheetPrinterModel$Desk", "setY", "(J)V"⟩ "SheetPrinterModel") U := h.2.1.2 ("SheetPrinterModel", 447, ⟨"SheetPrinterModel$Desk", "setY", "(J)V"⟩, "SheetPrinterModel") (List.mem_of_getElem? (i := 10) rfl)
theorem nm_11 {tt : Nat → Nat} {A : Nat → Prop} {U : State} {H : Heap} (h : SF tt A U H) : va_Nw (.methodLinkNest "SheetPrinterModel" 362 ⟨"SheetPrinterModel$Shelf", "fits", "(II)Z"⟩ "SheetPrinterModel") U := h.2.1.2 ("SheetPrinterModel", 362, ⟨"SheetPrinterModel$Shelf", "fits", "(II)Z"⟩, "SheetPrinterModel") (List.mem_of_getElem? (i := 11) rfl)
theorem nm_12 {tt : Nat → Nat} {A : Nat → Prop} {U : State} {H : Heap} (h : SF tt A U H) : va_Nw (.methodLinkNest "SheetPrinterModel" 560 ⟨"SheetPrinterModel$Desk", "ejectIfDue", "()V"⟩ "SheetPrinterModel") U := h.2.1.2 ("SheetPrinterModel", 560, ⟨"SheetPrinterModel$Desk", "ejectIfDue", "()V"⟩, "SheetPrinterModel") (List.mem_of_getElem? (i := 12) rfl)
