/-! classes and fields of the program, by program (wip/whole/gen.py) out of what TURN printed -/
def mt_R0 : String := "InvariantDesk$Analysis"
def mt_T0 : u_T := fun k => match k with
  | 0 => ("InvariantDesk$Analysis", "known", "[LInvariantDesk$State;", true)
  | 1 => ("InvariantDesk$Analysis", "alarms", "[I", true)
  | 2 => ("InvariantDesk$Analysis", "work", "I", false)
  | 3 => ("InvariantDesk$Analysis", "tooMuch", "Z", false)
  | 4 => ("InvariantDesk$Analysis", "program", "LInvariantDesk$Program;", true)
  | 5 => ("InvariantDesk$Analysis", "effect", "LInvariantDesk$Effect;", true)
  | 6 => ("InvariantDesk$Analysis", "now", "LInvariantDesk$State;", false)
  | 7 => ("InvariantDesk$Analysis", "at", "I", false)
  | 8 => ("InvariantDesk$Analysis", "open", "[I", true)
  | 9 => ("InvariantDesk$Analysis", "opened", "I", false)
  | 10 => ("InvariantDesk$Analysis", "phase", "[I", true)
  | 11 => ("InvariantDesk$Analysis", "kept", "[LInvariantDesk$State;", true)
  | 12 => ("InvariantDesk$Analysis", "start", "[LInvariantDesk$State;", true)
  | 13 => ("InvariantDesk$Analysis", "head", "[LInvariantDesk$State;", true)
  | 14 => ("InvariantDesk$Analysis", "toldHead", "[LInvariantDesk$State;", true)
  | 15 => ("InvariantDesk$Analysis", "rounds", "[I", true)
  | _ => ("InvariantDesk$Analysis", "tries", "[I", true)
def mt_y0 : Nat → FieldType := fun k => match k with
  | 0 => .array (.object "InvariantDesk$State")
  | 1 => .array .int
  | 2 => .int
  | 3 => .boolean
  | 4 => .object "InvariantDesk$Program"
  | 5 => .object "InvariantDesk$Effect"
  | 6 => .object "InvariantDesk$State"
  | 7 => .int
  | 8 => .array .int
  | 9 => .int
  | 10 => .array .int
  | 11 => .array (.object "InvariantDesk$State")
  | 12 => .array (.object "InvariantDesk$State")
  | 13 => .array (.object "InvariantDesk$State")
  | 14 => .array (.object "InvariantDesk$State")
  | 15 => .array .int
  | _ => .array .int
def mt_R1 : String := "InvariantDesk$Effect"
def mt_T1 : u_T := fun k => match k with
  | 0 => ("InvariantDesk$Effect", "program", "LInvariantDesk$Program;", true)
  | 1 => ("InvariantDesk$Effect", "ranges", "LInvariantDesk$Ranges;", true)
  | 2 => ("InvariantDesk$Effect", "holds", "LInvariantDesk$State;", false)
  | 3 => ("InvariantDesk$Effect", "fails", "LInvariantDesk$State;", false)
  | 4 => ("InvariantDesk$Effect", "before", "LInvariantDesk$State;", false)
  | 5 => ("InvariantDesk$Effect", "aside", "[LInvariantDesk$State;", true)
  | 6 => ("InvariantDesk$Effect", "asides", "I", false)
  | 7 => ("InvariantDesk$Effect", "rows", "[J", true)
  | _ => ("InvariantDesk$Effect", "alarms", "I", false)
def mt_y1 : Nat → FieldType := fun k => match k with
  | 0 => .object "InvariantDesk$Program"
  | 1 => .object "InvariantDesk$Ranges"
  | 2 => .object "InvariantDesk$State"
  | 3 => .object "InvariantDesk$State"
  | 4 => .object "InvariantDesk$State"
  | 5 => .array (.object "InvariantDesk$State")
  | 6 => .int
  | 7 => .array .long
  | _ => .int
def mt_R2 : String := "InvariantDesk$Machine"
def mt_T2 : u_T := fun k => match k with
  | 0 => ("InvariantDesk$Machine", "program", "LInvariantDesk$Program;", true)
  | 1 => ("InvariantDesk$Machine", "inputs", "[I", true)
  | 2 => ("InvariantDesk$Machine", "given", "I", false)
  | 3 => ("InvariantDesk$Machine", "taken", "I", false)
  | 4 => ("InvariantDesk$Machine", "at", "I", false)
  | 5 => ("InvariantDesk$Machine", "done", "I", false)
  | 6 => ("InvariantDesk$Machine", "values", "[I", true)
  | 7 => ("InvariantDesk$Machine", "places", "[I", true)
  | 8 => ("InvariantDesk$Machine", "sizes", "[I", true)
  | 9 => ("InvariantDesk$Machine", "outside", "I", false)
  | 10 => ("InvariantDesk$Machine", "trap", "I", false)
  | 11 => ("InvariantDesk$Machine", "stack", "[I", true)
  | _ => ("InvariantDesk$Machine", "height", "I", false)
def mt_y2 : Nat → FieldType := fun k => match k with
  | 0 => .object "InvariantDesk$Program"
  | 1 => .array .int
  | 2 => .int
  | 3 => .int
  | 4 => .int
  | 5 => .int
  | 6 => .array .int
  | 7 => .array .int
  | 8 => .array .int
  | 9 => .int
  | 10 => .int
  | 11 => .array .int
  | _ => .int
def mt_R3 : String := "InvariantDesk$Parser"
def mt_T3 : u_T := fun k => match k with
  | 0 => ("InvariantDesk$Parser", "tokens", "LInvariantDesk$Tokens;", true)
  | 1 => ("InvariantDesk$Parser", "source", "LInvariantDesk$Source;", true)
  | 2 => ("InvariantDesk$Parser", "scope", "LInvariantDesk$Scope;", true)
  | 3 => ("InvariantDesk$Parser", "goals", "[I", true)
  | 4 => ("InvariantDesk$Parser", "waiting", "I", false)
  | 5 => ("InvariantDesk$Parser", "next", "I", false)
  | 6 => ("InvariantDesk$Parser", "depth", "I", false)
  | 7 => ("InvariantDesk$Parser", "fault", "I", false)
  | 8 => ("InvariantDesk$Parser", "now", "LInvariantDesk$Statement;", false)
  | 9 => ("InvariantDesk$Parser", "open", "[I", true)
  | 10 => ("InvariantDesk$Parser", "opened", "I", false)
  | 11 => ("InvariantDesk$Parser", "relation", "I", false)
  | 12 => ("InvariantDesk$Parser", "callPlace", "I", false)
  | _ => ("InvariantDesk$Parser", "callSettled", "Z", false)
def mt_y3 : Nat → FieldType := fun k => match k with
  | 0 => .object "InvariantDesk$Tokens"
  | 1 => .object "InvariantDesk$Source"
  | 2 => .object "InvariantDesk$Scope"
  | 3 => .array .int
  | 4 => .int
  | 5 => .int
  | 6 => .int
  | 7 => .int
  | 8 => .object "InvariantDesk$Statement"
  | 9 => .array .int
  | 10 => .int
  | 11 => .int
  | 12 => .int
  | _ => .boolean
def mt_R4 : String := "InvariantDesk$Program"
def mt_T4 : u_T := fun k => match k with
  | 0 => ("InvariantDesk$Program", "tokens", "LInvariantDesk$Tokens;", false)
  | 1 => ("InvariantDesk$Program", "source", "LInvariantDesk$Source;", false)
  | 2 => ("InvariantDesk$Program", "count", "I", false)
  | 3 => ("InvariantDesk$Program", "statements", "[LInvariantDesk$Statement;", true)
  | 4 => ("InvariantDesk$Program", "numberBase", "[I", true)
  | 5 => ("InvariantDesk$Program", "arrayBase", "[I", true)
  | 6 => ("InvariantDesk$Program", "caller", "[I", true)
  | 7 => ("InvariantDesk$Program", "owner", "[I", true)
  | 8 => ("InvariantDesk$Program", "elseAt", "[I", true)
  | 9 => ("InvariantDesk$Program", "after", "[I", true)
  | 10 => ("InvariantDesk$Program", "first", "[I", true)
  | 11 => ("InvariantDesk$Program", "other", "[I", true)
  | 12 => ("InvariantDesk$Program", "behind", "[I", true)
  | 13 => ("InvariantDesk$Program", "names", "[I", true)
  | 14 => ("InvariantDesk$Program", "open", "[I", true)
  | 15 => ("InvariantDesk$Program", "inElse", "[Z", true)
  | 16 => ("InvariantDesk$Program", "opened", "I", false)
  | 17 => ("InvariantDesk$Program", "calling", "I", false)
  | 18 => ("InvariantDesk$Program", "wrong", "I", false)
  | _ => ("InvariantDesk$Program", "wrongPlace", "I", false)
def mt_y4 : Nat → FieldType := fun k => match k with
  | 0 => .object "InvariantDesk$Tokens"
  | 1 => .object "InvariantDesk$Source"
  | 2 => .int
  | 3 => .array (.object "InvariantDesk$Statement")
  | 4 => .array .int
  | 5 => .array .int
  | 6 => .array .int
  | 7 => .array .int
  | 8 => .array .int
  | 9 => .array .int
  | 10 => .array .int
  | 11 => .array .int
  | 12 => .array .int
  | 13 => .array .int
  | 14 => .array .int
  | 15 => .array .boolean
  | 16 => .int
  | 17 => .int
  | 18 => .int
  | _ => .int
def mt_R5 : String := "InvariantDesk$Ranges"
def mt_T5 : u_T := fun k => match k with
  | 0 => ("InvariantDesk$Ranges", "source", "LInvariantDesk$Source;", false)
  | 1 => ("InvariantDesk$Ranges", "state", "LInvariantDesk$State;", false)
  | 2 => ("InvariantDesk$Ranges", "numberBase", "I", false)
  | 3 => ("InvariantDesk$Ranges", "arrayBase", "I", false)
  | 4 => ("InvariantDesk$Ranges", "alarms", "I", false)
  | 5 => ("InvariantDesk$Ranges", "low", "[J", true)
  | 6 => ("InvariantDesk$Ranges", "high", "[J", true)
  | 7 => ("InvariantDesk$Ranges", "named", "[I", true)
  | 8 => ("InvariantDesk$Ranges", "height", "I", false)
  | 9 => ("InvariantDesk$Ranges", "partLow", "[J", false)
  | 10 => ("InvariantDesk$Ranges", "partHigh", "[J", false)
  | 11 => ("InvariantDesk$Ranges", "signs", "[I", true)
  | 12 => ("InvariantDesk$Ranges", "free", "I", false)
  | 13 => ("InvariantDesk$Ranges", "mixed", "I", false)
  | 14 => ("InvariantDesk$Ranges", "formLow", "J", false)
  | 15 => ("InvariantDesk$Ranges", "formHigh", "J", false)
  | 16 => ("InvariantDesk$Ranges", "literals", "J", false)
  | 17 => ("InvariantDesk$Ranges", "othersLow", "J", false)
  | _ => ("InvariantDesk$Ranges", "othersHigh", "J", false)
def mt_y5 : Nat → FieldType := fun k => match k with
  | 0 => .object "InvariantDesk$Source"
  | 1 => .object "InvariantDesk$State"
  | 2 => .int
  | 3 => .int
  | 4 => .int
  | 5 => .array .long
  | 6 => .array .long
  | 7 => .array .int
  | 8 => .int
  | 9 => .array .long
  | 10 => .array .long
  | 11 => .array .int
  | 12 => .int
  | 13 => .int
  | 14 => .long
  | 15 => .long
  | 16 => .long
  | 17 => .long
  | _ => .long
def mt_R6 : String := "InvariantDesk$Scope"
def mt_T6 : u_T := fun k => match k with
  | 0 => ("InvariantDesk$Scope", "tokens", "LInvariantDesk$Tokens;", true)
  | 1 => ("InvariantDesk$Scope", "names", "[I", true)
  | 2 => ("InvariantDesk$Scope", "slots", "[I", true)
  | 3 => ("InvariantDesk$Scope", "sizes", "[I", true)
  | 4 => ("InvariantDesk$Scope", "count", "I", false)
  | 5 => ("InvariantDesk$Scope", "starts", "[I", true)
  | 6 => ("InvariantDesk$Scope", "blocks", "I", false)
  | 7 => ("InvariantDesk$Scope", "numbers", "I", false)
  | _ => ("InvariantDesk$Scope", "arrays", "I", false)
def mt_y6 : Nat → FieldType := fun k => match k with
  | 0 => .object "InvariantDesk$Tokens"
  | 1 => .array .int
  | 2 => .array .int
  | 3 => .array .int
  | 4 => .int
  | 5 => .array .int
  | 6 => .int
  | 7 => .int
  | _ => .int
def mt_R7 : String := "InvariantDesk$Source"
def mt_T7 : u_T := fun k => match k with
  | 0 => ("InvariantDesk$Source", "code", "[I", true)
  | 1 => ("InvariantDesk$Source", "codes", "I", false)
  | 2 => ("InvariantDesk$Source", "partEnd", "[I", true)
  | 3 => ("InvariantDesk$Source", "partTurned", "[I", true)
  | 4 => ("InvariantDesk$Source", "partSlot", "[I", true)
  | 5 => ("InvariantDesk$Source", "parts", "I", false)
  | 6 => ("InvariantDesk$Source", "sumCode", "[I", true)
  | 7 => ("InvariantDesk$Source", "sumPart", "[I", true)
  | 8 => ("InvariantDesk$Source", "sums", "I", false)
  | 9 => ("InvariantDesk$Source", "condKind", "[I", true)
  | 10 => ("InvariantDesk$Source", "condWith", "[I", true)
  | 11 => ("InvariantDesk$Source", "conds", "I", false)
  | 12 => ("InvariantDesk$Source", "statements", "[LInvariantDesk$Statement;", true)
  | 13 => ("InvariantDesk$Source", "count", "I", false)
  | 14 => ("InvariantDesk$Source", "heads", "[I", true)
  | _ => ("InvariantDesk$Source", "functions", "I", false)
def mt_y7 : Nat → FieldType := fun k => match k with
  | 0 => .array .int
  | 1 => .int
  | 2 => .array .int
  | 3 => .array .int
  | 4 => .array .int
  | 5 => .int
  | 6 => .array .int
  | 7 => .array .int
  | 8 => .int
  | 9 => .array .int
  | 10 => .array .int
  | 11 => .int
  | 12 => .array (.object "InvariantDesk$Statement")
  | 13 => .int
  | 14 => .array .int
  | _ => .int
def mt_R8 : String := "InvariantDesk$State"
def mt_T8 : u_T := fun k => match k with
  | 0 => ("InvariantDesk$State", "nothing", "Z", false)
  | 1 => ("InvariantDesk$State", "numbers", "I", false)
  | 2 => ("InvariantDesk$State", "arrays", "I", false)
  | 3 => ("InvariantDesk$State", "most", "[J", true)
  | 4 => ("InvariantDesk$State", "ends", "[J", true)
  | _ => ("InvariantDesk$State", "loose", "I", false)
def mt_y8 : Nat → FieldType := fun k => match k with
  | 0 => .boolean
  | 1 => .int
  | 2 => .int
  | 3 => .array .long
  | 4 => .array .long
  | _ => .int
def mt_R9 : String := "InvariantDesk$Statement"
def mt_T9 : u_T := fun k => match k with
  | 0 => ("InvariantDesk$Statement", "kind", "I", true)
  | 1 => ("InvariantDesk$Statement", "index", "I", true)
  | 2 => ("InvariantDesk$Statement", "place", "I", true)
  | 3 => ("InvariantDesk$Statement", "numbers", "I", true)
  | 4 => ("InvariantDesk$Statement", "arrays", "I", true)
  | 5 => ("InvariantDesk$Statement", "wrong", "I", false)
  | 6 => ("InvariantDesk$Statement", "wrongPlace", "I", false)
  | 7 => ("InvariantDesk$Statement", "name", "I", false)
  | 8 => ("InvariantDesk$Statement", "slot", "I", false)
  | 9 => ("InvariantDesk$Statement", "size", "I", false)
  | 10 => ("InvariantDesk$Statement", "sum", "I", false)
  | 11 => ("InvariantDesk$Statement", "sums", "I", false)
  | 12 => ("InvariantDesk$Statement", "cond", "I", false)
  | 13 => ("InvariantDesk$Statement", "condEnd", "I", false)
  | 14 => ("InvariantDesk$Statement", "called", "I", false)
  | 15 => ("InvariantDesk$Statement", "elseAt", "I", false)
  | _ => ("InvariantDesk$Statement", "after", "I", false)
def mt_y9 : Nat → FieldType := fun k => match k with
  | 0 => .int
  | 1 => .int
  | 2 => .int
  | 3 => .int
  | 4 => .int
  | 5 => .int
  | 6 => .int
  | 7 => .int
  | 8 => .int
  | 9 => .int
  | 10 => .int
  | 11 => .int
  | 12 => .int
  | 13 => .int
  | 14 => .int
  | 15 => .int
  | _ => .int
def mt_R10 : String := "InvariantDesk$Tokens"
def mt_T10 : u_T := fun k => match k with
  | 0 => ("InvariantDesk$Tokens", "text", "[B", true)
  | 1 => ("InvariantDesk$Tokens", "kinds", "[I", true)
  | 2 => ("InvariantDesk$Tokens", "places", "[I", true)
  | 3 => ("InvariantDesk$Tokens", "widths", "[I", true)
  | _ => ("InvariantDesk$Tokens", "count", "I", false)
def mt_y10 : Nat → FieldType := fun k => match k with
  | 0 => .array .byte
  | 1 => .array .int
  | 2 => .array .int
  | 3 => .array .int
  | _ => .int
def mt_R11 : String := "InvariantDesk"
def mt_T11 : u_T := fun k => match k with
  | 0 => ("InvariantDesk", "fed", "[B", true)
  | 1 => ("InvariantDesk", "fedBytes", "I", false)
  | 2 => ("InvariantDesk", "program", "LInvariantDesk$Program;", true)
  | 3 => ("InvariantDesk", "effect", "LInvariantDesk$Effect;", true)
  | 4 => ("InvariantDesk", "analysis", "LInvariantDesk$Analysis;", true)
  | 5 => ("InvariantDesk", "machine", "LInvariantDesk$Machine;", true)
  | 6 => ("InvariantDesk", "claims", "[LInvariantDesk$State;", true)
  | 7 => ("InvariantDesk", "ended", "Z", false)
  | 8 => ("InvariantDesk", "wrong", "I", false)
  | 9 => ("InvariantDesk", "wrongPlace", "I", false)
  | 10 => ("InvariantDesk", "claimed", "Z", false)
  | 11 => ("InvariantDesk", "judged", "Z", false)
  | 12 => ("InvariantDesk", "verdict", "I", false)
  | 13 => ("InvariantDesk", "line", "[B", false)
  | _ => ("InvariantDesk", "lineBytes", "I", false)
def mt_y11 : Nat → FieldType := fun k => match k with
  | 0 => .array .byte
  | 1 => .int
  | 2 => .object "InvariantDesk$Program"
  | 3 => .object "InvariantDesk$Effect"
  | 4 => .object "InvariantDesk$Analysis"
  | 5 => .object "InvariantDesk$Machine"
  | 6 => .array (.object "InvariantDesk$State")
  | 7 => .boolean
  | 8 => .int
  | 9 => .int
  | 10 => .boolean
  | 11 => .boolean
  | 12 => .int
  | 13 => .array .byte
  | _ => .int
def mt_R12 : String := "InvariantDeskModel$Analysis"
def mt_T12 : u_T := fun k => match k with
  | 0 => ("InvariantDeskModel$Analysis", "kinds", "[B", false)
  | 1 => ("InvariantDeskModel$Analysis", "values", "[I", false)
  | 2 => ("InvariantDeskModel$Analysis", "sizes", "[I", false)
  | 3 => ("InvariantDeskModel$Analysis", "nodes", "I", false)
  | 4 => ("InvariantDeskModel$Analysis", "known", "[LInvariantDeskModel$Known;", true)
  | 5 => ("InvariantDeskModel$Analysis", "claims", "[LInvariantDeskModel$Known;", true)
  | 6 => ("InvariantDeskModel$Analysis", "alarms", "[I", true)
  | 7 => ("InvariantDeskModel$Analysis", "points", "I", false)
  | 8 => ("InvariantDeskModel$Analysis", "work", "I", false)
  | 9 => ("InvariantDeskModel$Analysis", "much", "Z", false)
  | 10 => ("InvariantDeskModel$Analysis", "spare", "[LInvariantDeskModel$Known;", true)
  | 11 => ("InvariantDeskModel$Analysis", "spares", "I", false)
  | 12 => ("InvariantDeskModel$Analysis", "functions", "[I", false)
  | 13 => ("InvariantDeskModel$Analysis", "functionCount", "I", false)
  | 14 => ("InvariantDeskModel$Analysis", "function", "I", false)
  | 15 => ("InvariantDeskModel$Analysis", "names", "[I", true)
  | 16 => ("InvariantDeskModel$Analysis", "slots", "[I", true)
  | 17 => ("InvariantDeskModel$Analysis", "isArray", "[Z", true)
  | 18 => ("InvariantDeskModel$Analysis", "there", "I", false)
  | 19 => ("InvariantDeskModel$Analysis", "floor", "I", false)
  | 20 => ("InvariantDeskModel$Analysis", "numbers", "I", false)
  | 21 => ("InvariantDeskModel$Analysis", "arrays", "I", false)
  | 22 => ("InvariantDeskModel$Analysis", "target", "I", false)
  | 23 => ("InvariantDeskModel$Analysis", "now", "LInvariantDeskModel$Known;", false)
  | 24 => ("InvariantDeskModel$Analysis", "alarm", "I", false)
  | 25 => ("InvariantDeskModel$Analysis", "low", "J", false)
  | 26 => ("InvariantDeskModel$Analysis", "high", "J", false)
  | 27 => ("InvariantDeskModel$Analysis", "partNode", "[I", false)
  | 28 => ("InvariantDeskModel$Analysis", "partSign", "[I", false)
  | 29 => ("InvariantDeskModel$Analysis", "partSlot", "[I", false)
  | 30 => ("InvariantDeskModel$Analysis", "partFree", "[Z", false)
  | 31 => ("InvariantDeskModel$Analysis", "partLow", "[J", false)
  | 32 => ("InvariantDeskModel$Analysis", "partHigh", "[J", false)
  | 33 => ("InvariantDeskModel$Analysis", "partCount", "I", false)
  | 34 => ("InvariantDeskModel$Analysis", "checks", "Z", false)
  | 35 => ("InvariantDeskModel$Analysis", "broken", "I", false)
  | 36 => ("InvariantDeskModel$Analysis", "claimNumbers", "[I", true)
  | _ => ("InvariantDeskModel$Analysis", "claimArrays", "[I", true)
def mt_y12 : Nat → FieldType := fun k => match k with
  | 0 => .array .byte
  | 1 => .array .int
  | 2 => .array .int
  | 3 => .int
  | 4 => .array (.object "InvariantDeskModel$Known")
  | 5 => .array (.object "InvariantDeskModel$Known")
  | 6 => .array .int
  | 7 => .int
  | 8 => .int
  | 9 => .boolean
  | 10 => .array (.object "InvariantDeskModel$Known")
  | 11 => .int
  | 12 => .array .int
  | 13 => .int
  | 14 => .int
  | 15 => .array .int
  | 16 => .array .int
  | 17 => .array .boolean
  | 18 => .int
  | 19 => .int
  | 20 => .int
  | 21 => .int
  | 22 => .int
  | 23 => .object "InvariantDeskModel$Known"
  | 24 => .int
  | 25 => .long
  | 26 => .long
  | 27 => .array .int
  | 28 => .array .int
  | 29 => .array .int
  | 30 => .array .boolean
  | 31 => .array .long
  | 32 => .array .long
  | 33 => .int
  | 34 => .boolean
  | 35 => .int
  | 36 => .array .int
  | _ => .array .int
def mt_R13 : String := "InvariantDeskModel$Known"
def mt_T13 : u_T := fun k => match k with
  | 0 => ("InvariantDeskModel$Known", "none", "Z", false)
  | 1 => ("InvariantDeskModel$Known", "numbers", "I", false)
  | 2 => ("InvariantDeskModel$Known", "arrays", "I", false)
  | 3 => ("InvariantDeskModel$Known", "sums", "[J", true)
  | 4 => ("InvariantDeskModel$Known", "least", "[J", true)
  | 5 => ("InvariantDeskModel$Known", "greatest", "[J", true)
  | _ => ("InvariantDeskModel$Known", "rooms", "[I", true)
def mt_y13 : Nat → FieldType := fun k => match k with
  | 0 => .boolean
  | 1 => .int
  | 2 => .int
  | 3 => .array .long
  | 4 => .array .long
  | 5 => .array .long
  | _ => .array .int
def mt_R14 : String := "InvariantDeskModel"
def mt_T14 : u_T := fun k => match k with
  | 0 => ("InvariantDeskModel", "words", "[Ljava/lang/String;", true)
  | 1 => ("InvariantDeskModel", "bytes", "[I", true)
  | 2 => ("InvariantDeskModel", "size", "I", false)
  | 3 => ("InvariantDeskModel", "end", "I", false)
  | 4 => ("InvariantDeskModel", "token", "[I", true)
  | 5 => ("InvariantDeskModel", "place", "[I", true)
  | 6 => ("InvariantDeskModel", "length", "[I", true)
  | 7 => ("InvariantDeskModel", "tokens", "I", false)
  | 8 => ("InvariantDeskModel", "at", "I", false)
  | 9 => ("InvariantDeskModel", "bad", "Z", false)
  | 10 => ("InvariantDeskModel", "fault", "I", false)
  | 11 => ("InvariantDeskModel", "kindOf", "[I", true)
  | 12 => ("InvariantDeskModel", "placeOf", "[I", true)
  | 13 => ("InvariantDeskModel", "valueOf", "[I", true)
  | 14 => ("InvariantDeskModel", "firstOf", "[I", true)
  | 15 => ("InvariantDeskModel", "lastOf", "[I", true)
  | 16 => ("InvariantDeskModel", "nextOf", "[I", true)
  | 17 => ("InvariantDeskModel", "drafts", "I", false)
  | 18 => ("InvariantDeskModel", "pile", "[I", true)
  | 19 => ("InvariantDeskModel", "kind", "[B", true)
  | 20 => ("InvariantDeskModel", "where", "[I", true)
  | 21 => ("InvariantDeskModel", "value", "[I", true)
  | 22 => ("InvariantDeskModel", "whole", "[I", true)
  | 23 => ("InvariantDeskModel", "sizes", "[I", true)
  | 24 => ("InvariantDeskModel", "count", "I", false)
  | 25 => ("InvariantDeskModel", "letters", "[I", true)
  | 26 => ("InvariantDeskModel", "starts", "[I", true)
  | 27 => ("InvariantDeskModel", "names", "I", false)
  | 28 => ("InvariantDeskModel", "node", "[I", true)
  | 29 => ("InvariantDeskModel", "owner", "[I", true)
  | 30 => ("InvariantDeskModel", "ends", "[I", true)
  | 31 => ("InvariantDeskModel", "numbers", "[I", true)
  | 32 => ("InvariantDeskModel", "arrays", "[I", true)
  | 33 => ("InvariantDeskModel", "points", "I", false)
  | 34 => ("InvariantDeskModel", "meant", "[I", true)
  | 35 => ("InvariantDeskModel", "meantName", "[I", true)
  | 36 => ("InvariantDeskModel", "meantSlot", "[I", true)
  | 37 => ("InvariantDeskModel", "meantRoom", "[I", true)
  | 38 => ("InvariantDeskModel", "envName", "[I", true)
  | 39 => ("InvariantDeskModel", "envSlot", "[I", true)
  | 40 => ("InvariantDeskModel", "envRoom", "[I", true)
  | 41 => ("InvariantDeskModel", "envBlock", "[I", true)
  | 42 => ("InvariantDeskModel", "env", "I", false)
  | 43 => ("InvariantDeskModel", "base", "I", false)
  | 44 => ("InvariantDeskModel", "blocks", "I", false)
  | 45 => ("InvariantDeskModel", "liveNumbers", "I", false)
  | 46 => ("InvariantDeskModel", "liveArrays", "I", false)
  | 47 => ("InvariantDeskModel", "reason", "I", false)
  | 48 => ("InvariantDeskModel", "reasonPlace", "I", false)
  | 49 => ("InvariantDeskModel", "told", "I", false)
  | 50 => ("InvariantDeskModel", "numberNames", "[I", true)
  | 51 => ("InvariantDeskModel", "arrayNames", "[I", true)
  | 52 => ("InvariantDeskModel", "analysis", "LInvariantDeskModel$Analysis;", true)
  | 53 => ("InvariantDeskModel", "was", "LInvariantDeskModel$Known;", true)
  | 54 => ("InvariantDeskModel", "outside", "I", false)
  | 55 => ("InvariantDeskModel", "inductiveNow", "Z", false)
  | 56 => ("InvariantDeskModel", "line", "[I", true)
  | 57 => ("InvariantDeskModel", "lineSize", "I", false)
  | 58 => ("InvariantDeskModel", "draft", "[I", true)
  | 59 => ("InvariantDeskModel", "inputs", "[I", true)
  | 60 => ("InvariantDeskModel", "inputCount", "I", false)
  | 61 => ("InvariantDeskModel", "cells", "[I", true)
  | 62 => ("InvariantDeskModel", "rooms", "[I", true)
  | 63 => ("InvariantDeskModel", "sums", "[J", true)
  | 64 => ("InvariantDeskModel", "stands", "I", false)
  | 65 => ("InvariantDeskModel", "steps", "I", false)
  | 66 => ("InvariantDeskModel", "taken", "I", false)
  | 67 => ("InvariantDeskModel", "read", "I", false)
  | 68 => ("InvariantDeskModel", "trap", "I", false)
  | _ => ("InvariantDeskModel", "drafted", "I", false)
def mt_y14 : Nat → FieldType := fun k => match k with
  | 0 => .array (.object "java/lang/String")
  | 1 => .array .int
  | 2 => .int
  | 3 => .int
  | 4 => .array .int
  | 5 => .array .int
  | 6 => .array .int
  | 7 => .int
  | 8 => .int
  | 9 => .boolean
  | 10 => .int
  | 11 => .array .int
  | 12 => .array .int
  | 13 => .array .int
  | 14 => .array .int
  | 15 => .array .int
  | 16 => .array .int
  | 17 => .int
  | 18 => .array .int
  | 19 => .array .byte
  | 20 => .array .int
  | 21 => .array .int
  | 22 => .array .int
  | 23 => .array .int
  | 24 => .int
  | 25 => .array .int
  | 26 => .array .int
  | 27 => .int
  | 28 => .array .int
  | 29 => .array .int
  | 30 => .array .int
  | 31 => .array .int
  | 32 => .array .int
  | 33 => .int
  | 34 => .array .int
  | 35 => .array .int
  | 36 => .array .int
  | 37 => .array .int
  | 38 => .array .int
  | 39 => .array .int
  | 40 => .array .int
  | 41 => .array .int
  | 42 => .int
  | 43 => .int
  | 44 => .int
  | 45 => .int
  | 46 => .int
  | 47 => .int
  | 48 => .int
  | 49 => .int
  | 50 => .array .int
  | 51 => .array .int
  | 52 => .object "InvariantDeskModel$Analysis"
  | 53 => .object "InvariantDeskModel$Known"
  | 54 => .int
  | 55 => .boolean
  | 56 => .array .int
  | 57 => .int
  | 58 => .array .int
  | 59 => .array .int
  | 60 => .int
  | 61 => .array .int
  | 62 => .array .int
  | 63 => .array .long
  | 64 => .int
  | 65 => .int
  | 66 => .int
  | 67 => .int
  | 68 => .int
  | _ => .int
/-- the classes whose objects the heap holds -/
def mt_cl : List vw_C := [(mt_R0, mt_T0, 17), (mt_R1, mt_T1, 9), (mt_R2, mt_T2, 13), (mt_R3, mt_T3, 14), (mt_R4, mt_T4, 20), (mt_R5, mt_T5, 19), (mt_R6, mt_T6, 9), (mt_R7, mt_T7, 16), (mt_R8, mt_T8, 6), (mt_R9, mt_T9, 17), (mt_R10, mt_T10, 5), (mt_R11, mt_T11, 15), (mt_R12, mt_T12, 38), (mt_R13, mt_T13, 7), (mt_R14, mt_T14, 70)]
/-- types of fields, a class each -/
def mt_ty : List (Nat → FieldType) := [mt_y0, mt_y1, mt_y2, mt_y3, mt_y4, mt_y5, mt_y6, mt_y7, mt_y8, mt_y9, mt_y10, mt_y11, mt_y12, mt_y13, mt_y14]
/-- what a place of a cell holds: 0 an int, 1 a long, 2 a reference, 3 a boolean: by the class, then by the field -/
def mt_tcs : List (List Nat) := [[2, 2, 0, 3, 2, 2, 2, 0, 2, 0, 2, 2, 2, 2, 2, 2, 2], [2, 2, 2, 2, 2, 2, 0, 2, 0], [2, 2, 0, 0, 0, 0, 2, 2, 2, 0, 0, 2, 0], [2, 2, 2, 2, 0, 0, 0, 0, 2, 2, 0, 0, 0, 3], [2, 2, 0, 2, 2, 2, 2, 2, 2, 2, 2, 2, 2, 2, 2, 2, 0, 0, 0, 0], [2, 2, 0, 0, 0, 2, 2, 2, 0, 2, 2, 2, 0, 0, 1, 1, 1, 1, 1], [2, 2, 2, 2, 0, 2, 0, 0, 0], [2, 0, 2, 2, 2, 0, 2, 2, 0, 2, 2, 0, 2, 0, 2, 0], [3, 0, 0, 2, 2, 0], [0, 0, 0, 0, 0, 0, 0, 0, 0, 0, 0, 0, 0, 0, 0, 0, 0], [2, 2, 2, 2, 0], [2, 0, 2, 2, 2, 2, 2, 3, 0, 0, 3, 3, 0, 2, 0], [2, 2, 2, 0, 2, 2, 2, 0, 0, 3, 2, 0, 2, 0, 0, 2, 2, 2, 0, 0, 0, 0, 0, 2, 0, 1, 1, 2, 2, 2, 2, 2, 2, 0, 3, 0, 2, 2], [3, 0, 0, 2, 2, 2, 2], [2, 2, 0, 0, 2, 2, 2, 0, 0, 3, 0, 2, 2, 2, 2, 2, 2, 0, 2, 2, 2, 2, 2, 2, 0, 2, 2, 0, 2, 2, 2, 2, 2, 0, 2, 2, 2, 2, 2, 2, 2, 2, 0, 0, 0, 0, 0, 0, 0, 0, 2, 2, 2, 2, 0, 3, 2, 0, 2, 2, 0, 2, 2, 2, 0, 0, 0, 0, 0, 0]]
theorem mt_n0 : ∀ a, a < 17 → ∀ b, b < 17 → a ≠ b → (mt_T0 a).2.1 ≠ (mt_T0 b).2.1 := by decide +kernel
theorem mt_o0 : ∀ k, k < 17 → parseFieldDescriptor (mt_T0 k).2.2.1 = some (mt_y0 k) := by decide +kernel
theorem mt_i0 : ∀ w ∈ u_ws mt_R0 mt_T0 17, w ∈ tables_1 := by
  have h : u_ws mt_R0 mt_T0 17 = ([527, 529, 531, 533, 535, 537, 539, 541, 543, 545, 547, 549, 551, 553, 555, 557, 559] : List Nat).filterMap (fun i => tables_1[i]?) := by decide +kernel
  intro w hw
  rw [h] at hw
  obtain ⟨i, -, hi⟩ := List.mem_filterMap.mp hw
  exact List.mem_of_getElem? hi
theorem mt_n1 : ∀ a, a < 9 → ∀ b, b < 9 → a ≠ b → (mt_T1 a).2.1 ≠ (mt_T1 b).2.1 := by decide +kernel
theorem mt_o1 : ∀ k, k < 9 → parseFieldDescriptor (mt_T1 k).2.2.1 = some (mt_y1 k) := by decide +kernel
theorem mt_i1 : ∀ w ∈ u_ws mt_R1 mt_T1 9, w ∈ tables_1 := by
  have h : u_ws mt_R1 mt_T1 9 = ([476, 478, 480, 482, 484, 486, 488, 490, 492] : List Nat).filterMap (fun i => tables_1[i]?) := by decide +kernel
  intro w hw
  rw [h] at hw
  obtain ⟨i, -, hi⟩ := List.mem_filterMap.mp hw
  exact List.mem_of_getElem? hi
theorem mt_n2 : ∀ a, a < 13 → ∀ b, b < 13 → a ≠ b → (mt_T2 a).2.1 ≠ (mt_T2 b).2.1 := by decide +kernel
theorem mt_o2 : ∀ k, k < 13 → parseFieldDescriptor (mt_T2 k).2.2.1 = some (mt_y2 k) := by decide +kernel
theorem mt_i2 : ∀ w ∈ u_ws mt_R2 mt_T2 13, w ∈ tables_1 := by
  have h : u_ws mt_R2 mt_T2 13 = ([589, 591, 593, 595, 597, 599, 601, 603, 605, 607, 609, 611, 613] : List Nat).filterMap (fun i => tables_1[i]?) := by decide +kernel
  intro w hw
  rw [h] at hw
  obtain ⟨i, -, hi⟩ := List.mem_filterMap.mp hw
  exact List.mem_of_getElem? hi
theorem mt_n3 : ∀ a, a < 14 → ∀ b, b < 14 → a ≠ b → (mt_T3 a).2.1 ≠ (mt_T3 b).2.1 := by decide +kernel
theorem mt_o3 : ∀ k, k < 14 → parseFieldDescriptor (mt_T3 k).2.2.1 = some (mt_y3 k) := by decide +kernel
theorem mt_i3 : ∀ w ∈ u_ws mt_R3 mt_T3 14, w ∈ tables_1 := by
  have h : u_ws mt_R3 mt_T3 14 = ([1220, 1222, 1224, 1226, 1228, 1230, 1232, 1234, 1236, 1238, 1240, 1242, 1244, 1246] : List Nat).filterMap (fun i => tables_1[i]?) := by decide +kernel
  intro w hw
  rw [h] at hw
  obtain ⟨i, -, hi⟩ := List.mem_filterMap.mp hw
  exact List.mem_of_getElem? hi
theorem mt_n4 : ∀ a, a < 20 → ∀ b, b < 20 → a ≠ b → (mt_T4 a).2.1 ≠ (mt_T4 b).2.1 := by decide +kernel
theorem mt_o4 : ∀ k, k < 20 → parseFieldDescriptor (mt_T4 k).2.2.1 = some (mt_y4 k) := by decide +kernel
theorem mt_i4 : ∀ w ∈ u_ws mt_R4 mt_T4 20, w ∈ tables_1 := by
  have h : u_ws mt_R4 mt_T4 20 = ([307, 309, 311, 313, 315, 317, 319, 321, 323, 325, 327, 329, 331, 333, 335, 337, 339, 341, 343, 345] : List Nat).filterMap (fun i => tables_1[i]?) := by decide +kernel
  intro w hw
  rw [h] at hw
  obtain ⟨i, -, hi⟩ := List.mem_filterMap.mp hw
  exact List.mem_of_getElem? hi
theorem mt_n5 : ∀ a, a < 19 → ∀ b, b < 19 → a ≠ b → (mt_T5 a).2.1 ≠ (mt_T5 b).2.1 := by decide +kernel
theorem mt_o5 : ∀ k, k < 19 → parseFieldDescriptor (mt_T5 k).2.2.1 = some (mt_y5 k) := by decide +kernel
theorem mt_i5 : ∀ w ∈ u_ws mt_R5 mt_T5 19, w ∈ tables_1 := by
  have h : u_ws mt_R5 mt_T5 19 = ([385, 387, 389, 391, 393, 395, 397, 399, 401, 403, 405, 407, 409, 411, 413, 415, 417, 419, 421] : List Nat).filterMap (fun i => tables_1[i]?) := by decide +kernel
  intro w hw
  rw [h] at hw
  obtain ⟨i, -, hi⟩ := List.mem_filterMap.mp hw
  exact List.mem_of_getElem? hi
theorem mt_n6 : ∀ a, a < 9 → ∀ b, b < 9 → a ≠ b → (mt_T6 a).2.1 ≠ (mt_T6 b).2.1 := by decide +kernel
theorem mt_o6 : ∀ k, k < 9 → parseFieldDescriptor (mt_T6 k).2.2.1 = some (mt_y6 k) := by decide +kernel
theorem mt_i6 : ∀ w ∈ u_ws mt_R6 mt_T6 9, w ∈ tables_1 := by
  have h : u_ws mt_R6 mt_T6 9 = ([1186, 1188, 1190, 1192, 1194, 1196, 1198, 1200, 1202] : List Nat).filterMap (fun i => tables_1[i]?) := by decide +kernel
  intro w hw
  rw [h] at hw
  obtain ⟨i, -, hi⟩ := List.mem_filterMap.mp hw
  exact List.mem_of_getElem? hi
theorem mt_n7 : ∀ a, a < 16 → ∀ b, b < 16 → a ≠ b → (mt_T7 a).2.1 ≠ (mt_T7 b).2.1 := by decide +kernel
theorem mt_o7 : ∀ k, k < 16 → parseFieldDescriptor (mt_T7 k).2.2.1 = some (mt_y7 k) := by decide +kernel
theorem mt_i7 : ∀ w ∈ u_ws mt_R7 mt_T7 16, w ∈ tables_1 := by
  have h : u_ws mt_R7 mt_T7 16 = ([129, 131, 133, 135, 137, 139, 141, 143, 145, 147, 149, 151, 153, 155, 157, 159] : List Nat).filterMap (fun i => tables_1[i]?) := by decide +kernel
  intro w hw
  rw [h] at hw
  obtain ⟨i, -, hi⟩ := List.mem_filterMap.mp hw
  exact List.mem_of_getElem? hi
theorem mt_n8 : ∀ a, a < 6 → ∀ b, b < 6 → a ≠ b → (mt_T8 a).2.1 ≠ (mt_T8 b).2.1 := by decide +kernel
theorem mt_o8 : ∀ k, k < 6 → parseFieldDescriptor (mt_T8 k).2.2.1 = some (mt_y8 k) := by decide +kernel
theorem mt_i8 : ∀ w ∈ u_ws mt_R8 mt_T8 6, w ∈ tables_1 := by
  have h : u_ws mt_R8 mt_T8 6 = ([446, 448, 450, 452, 454, 456] : List Nat).filterMap (fun i => tables_1[i]?) := by decide +kernel
  intro w hw
  rw [h] at hw
  obtain ⟨i, -, hi⟩ := List.mem_filterMap.mp hw
  exact List.mem_of_getElem? hi
theorem mt_n9 : ∀ a, a < 17 → ∀ b, b < 17 → a ≠ b → (mt_T9 a).2.1 ≠ (mt_T9 b).2.1 := by decide +kernel
theorem mt_o9 : ∀ k, k < 17 → parseFieldDescriptor (mt_T9 k).2.2.1 = some (mt_y9 k) := by decide +kernel
theorem mt_i9 : ∀ w ∈ u_ws mt_R9 mt_T9 17, w ∈ tables_1 := by
  have h : u_ws mt_R9 mt_T9 17 = ([226, 228, 230, 232, 234, 236, 238, 240, 242, 244, 246, 248, 250, 252, 254, 256, 258] : List Nat).filterMap (fun i => tables_1[i]?) := by decide +kernel
  intro w hw
  rw [h] at hw
  obtain ⟨i, -, hi⟩ := List.mem_filterMap.mp hw
  exact List.mem_of_getElem? hi
theorem mt_n10 : ∀ a, a < 5 → ∀ b, b < 5 → a ≠ b → (mt_T10 a).2.1 ≠ (mt_T10 b).2.1 := by decide +kernel
theorem mt_o10 : ∀ k, k < 5 → parseFieldDescriptor (mt_T10 k).2.2.1 = some (mt_y10 k) := by decide +kernel
theorem mt_i10 : ∀ w ∈ u_ws mt_R10 mt_T10 5, w ∈ tables_1 := by
  have h : u_ws mt_R10 mt_T10 5 = ([71, 73, 75, 77, 79] : List Nat).filterMap (fun i => tables_1[i]?) := by decide +kernel
  intro w hw
  rw [h] at hw
  obtain ⟨i, -, hi⟩ := List.mem_filterMap.mp hw
  exact List.mem_of_getElem? hi
theorem mt_n11 : ∀ a, a < 15 → ∀ b, b < 15 → a ≠ b → (mt_T11 a).2.1 ≠ (mt_T11 b).2.1 := by decide +kernel
theorem mt_o11 : ∀ k, k < 15 → parseFieldDescriptor (mt_T11 k).2.2.1 = some (mt_y11 k) := by decide +kernel
theorem mt_i11 : ∀ w ∈ u_ws mt_R11 mt_T11 15, w ∈ tables_1 := by
  have h : u_ws mt_R11 mt_T11 15 = ([945, 947, 949, 951, 953, 955, 957, 959, 961, 963, 965, 967, 969, 971, 973] : List Nat).filterMap (fun i => tables_1[i]?) := by decide +kernel
  intro w hw
  rw [h] at hw
  obtain ⟨i, -, hi⟩ := List.mem_filterMap.mp hw
  exact List.mem_of_getElem? hi
theorem mt_n12 : ∀ a, a < 38 → ∀ b, b < 38 → a ≠ b → (mt_T12 a).2.1 ≠ (mt_T12 b).2.1 := by decide +kernel
theorem mt_o12 : ∀ k, k < 38 → parseFieldDescriptor (mt_T12 k).2.2.1 = some (mt_y12 k) := by decide +kernel
theorem mt_i12 : ∀ w ∈ u_ws mt_R12 mt_T12 38, w ∈ tables_1 := by
  have h : u_ws mt_R12 mt_T12 38 = ([1890, 1892, 1894, 1896, 1898, 1900, 1902, 1904, 1906, 1908, 1910, 1912, 1914, 1916, 1918, 1920, 1922, 1924, 1926, 1928, 1930, 1932, 1934, 1936, 1938, 1940, 1942, 1944, 1946, 1948, 1950, 1952, 1954, 1956, 1958, 1960, 1962, 1964] : List Nat).filterMap (fun i => tables_1[i]?) := by decide +kernel
  intro w hw
  rw [h] at hw
  obtain ⟨i, -, hi⟩ := List.mem_filterMap.mp hw
  exact List.mem_of_getElem? hi
theorem mt_n13 : ∀ a, a < 7 → ∀ b, b < 7 → a ≠ b → (mt_T13 a).2.1 ≠ (mt_T13 b).2.1 := by decide +kernel
theorem mt_o13 : ∀ k, k < 7 → parseFieldDescriptor (mt_T13 k).2.2.1 = some (mt_y13 k) := by decide +kernel
theorem mt_i13 : ∀ w ∈ u_ws mt_R13 mt_T13 7, w ∈ tables_1 := by
  have h : u_ws mt_R13 mt_T13 7 = ([1833, 1835, 1837, 1839, 1841, 1843, 1845] : List Nat).filterMap (fun i => tables_1[i]?) := by decide +kernel
  intro w hw
  rw [h] at hw
  obtain ⟨i, -, hi⟩ := List.mem_filterMap.mp hw
  exact List.mem_of_getElem? hi
theorem mt_n14 : ∀ a, a < 70 → ∀ b, b < 70 → a ≠ b → (mt_T14 a).2.1 ≠ (mt_T14 b).2.1 := by decide +kernel
theorem mt_o14 : ∀ k, k < 70 → parseFieldDescriptor (mt_T14 k).2.2.1 = some (mt_y14 k) := by decide +kernel
theorem mt_i14 : ∀ w ∈ u_ws mt_R14 mt_T14 70, w ∈ tables_1 := by
  have h : u_ws mt_R14 mt_T14 70 = ([2074, 2076, 2078, 2080, 2082, 2084, 2086, 2088, 2090, 2092, 2094, 2096, 2098, 2100, 2102, 2104, 2106, 2108, 2110, 2112, 2114, 2116, 2118, 2120, 2122, 2124, 2126, 2128, 2130, 2132, 2134, 2136, 2138, 2140, 2142, 2144, 2146, 2148, 2150, 2152, 2154, 2156, 2158, 2160, 2162, 2164, 2166, 2168, 2170, 2172, 2174, 2176, 2178, 2180, 2182, 2184, 2186, 2188, 2190, 2192, 2194, 2196, 2198, 2200, 2202, 2204, 2206, 2208, 2210, 2212] : List Nat).filterMap (fun i => tables_1[i]?) := by decide +kernel
  intro w hw
  rw [h] at hw
  obtain ⟨i, -, hi⟩ := List.mem_filterMap.mp hw
  exact List.mem_of_getElem? hi
theorem mt_cs (Pr : Nat → vw_C → Prop) (h0 : Pr 0 (mt_R0, mt_T0, 17)) (h1 : Pr 1 (mt_R1, mt_T1, 9)) (h2 : Pr 2 (mt_R2, mt_T2, 13)) (h3 : Pr 3 (mt_R3, mt_T3, 14)) (h4 : Pr 4 (mt_R4, mt_T4, 20)) (h5 : Pr 5 (mt_R5, mt_T5, 19)) (h6 : Pr 6 (mt_R6, mt_T6, 9)) (h7 : Pr 7 (mt_R7, mt_T7, 16)) (h8 : Pr 8 (mt_R8, mt_T8, 6)) (h9 : Pr 9 (mt_R9, mt_T9, 17)) (h10 : Pr 10 (mt_R10, mt_T10, 5)) (h11 : Pr 11 (mt_R11, mt_T11, 15)) (h12 : Pr 12 (mt_R12, mt_T12, 38)) (h13 : Pr 13 (mt_R13, mt_T13, 7)) (h14 : Pr 14 (mt_R14, mt_T14, 70)) : ∀ (ci : Nat) (q : vw_C), mt_cl[ci]? = some q → Pr ci q := by
  intro ci q hq
  match ci, hq with
  | 0, hq => cases hq; exact h0
  | 1, hq => cases hq; exact h1
  | 2, hq => cases hq; exact h2
  | 3, hq => cases hq; exact h3
  | 4, hq => cases hq; exact h4
  | 5, hq => cases hq; exact h5
  | 6, hq => cases hq; exact h6
  | 7, hq => cases hq; exact h7
  | 8, hq => cases hq; exact h8
  | 9, hq => cases hq; exact h9
  | 10, hq => cases hq; exact h10
  | 11, hq => cases hq; exact h11
  | 12, hq => cases hq; exact h12
  | 13, hq => cases hq; exact h13
  | 14, hq => cases hq; exact h14
  | k + 15, hq => simp [mt_cl] at hq
def mt_tf (ci : Nat) : Nat → FieldType := mt_ty.getD ci (fun _ => .int)
theorem mt_nn : ∀ (ci : Nat) (q : vw_C), mt_cl[ci]? = some q → ∀ a, a < q.2.2 → ∀ b, b < q.2.2 → a ≠ b → (q.2.1 a).2.1 ≠ (q.2.1 b).2.1 := mt_cs _ mt_n0 mt_n1 mt_n2 mt_n3 mt_n4 mt_n5 mt_n6 mt_n7 mt_n8 mt_n9 mt_n10 mt_n11 mt_n12 mt_n13 mt_n14
theorem mt_oo : ∀ (ci : Nat) (q : vw_C), mt_cl[ci]? = some q → ∀ k, k < q.2.2 → parseFieldDescriptor (q.2.1 k).2.2.1 = some (mt_tf ci k) := mt_cs _ mt_o0 mt_o1 mt_o2 mt_o3 mt_o4 mt_o5 mt_o6 mt_o7 mt_o8 mt_o9 mt_o10 mt_o11 mt_o12 mt_o13 mt_o14
theorem mt_ii : ∀ (ci : Nat) (q : vw_C), mt_cl[ci]? = some q → ∀ w ∈ u_ws q.1 q.2.1 q.2.2, w ∈ tables_1 := mt_cs _ mt_i0 mt_i1 mt_i2 mt_i3 mt_i4 mt_i5 mt_i6 mt_i7 mt_i8 mt_i9 mt_i10 mt_i11 mt_i12 mt_i13 mt_i14
theorem mt_lt {ci : Nat} {q : vw_C} (h : mt_cl[ci]? = some q) : ci < 15 := (List.getElem?_eq_some_iff.mp h).1
theorem mt_at {ci : Nat} (h : ci < 15) : ∃ q, mt_cl[ci]? = some q := ⟨_, List.getElem?_eq_getElem h⟩
/-- words that a call keeps, but not by the tables alone: private constructors of nest mates, arrays of references -/
def ms_nests : List (String × Nat × MethodName × String) := [("InvariantDesk$Effect", 11, ⟨"InvariantDesk$Ranges", "<init>", "()V"⟩, "InvariantDesk"), ("InvariantDesk$Effect", 20, ⟨"InvariantDesk$State", "<init>", "()V"⟩, "InvariantDesk"), ("InvariantDesk$Analysis", 21, ⟨"InvariantDesk$State", "<init>", "()V"⟩, "InvariantDesk"), ("InvariantDesk", 117, ⟨"InvariantDesk$State", "<init>", "()V"⟩, "InvariantDesk"), ("InvariantDeskModel$Analysis", 63, ⟨"InvariantDeskModel$Known", "<init>", "()V"⟩, "InvariantDeskModel"), ("InvariantDeskModel", 127, ⟨"InvariantDeskModel$Known", "<init>", "()V"⟩, "InvariantDeskModel")]
def ms_overs : List String := ["InvariantDesk$Statement", "InvariantDesk$State", "InvariantDeskModel$Known", "java/lang/String"]
def ms_nl : List Jvm.Cond := ms_nests.map (fun q => .methodLinkNest q.1 q.2.1 q.2.2.1 q.2.2.2) ++ ms_overs.map (fun C => .arrayOver (.object C))
/-- String constants: class, index, text, the number by which the small machine knows the String (its bytes: one more) -/
def mx_lk : List (String × Nat × String × Nat) := [("InvariantDesk", 285, "nothing", 3), ("InvariantDesk", 296, "all", 6), ("InvariantDesk", 327, " - ", 9), ("InvariantDesk", 329, " + ", 12), ("InvariantDesk", 331, " <= ", 15), ("InvariantDesk", 340, "[]", 18), ("InvariantDesk", 342, ", ", 21), ("InvariantDesk", 344, " in ", 24), ("InvariantDesk", 346, "..", 27), ("InvariantDesk$Tokens", 69, "(){}[],;=+-*/%<>!", 30), ("InvariantDesk$Tokens", 89, "fun", 33), ("InvariantDesk$Tokens", 95, "var", 36), ("InvariantDesk$Tokens", 97, "if", 39), ("InvariantDesk$Tokens", 99, "else", 42), ("InvariantDesk$Tokens", 101, "while", 45), ("InvariantDesk$Tokens", 103, "assert", 48), ("InvariantDesk$Tokens", 105, "return", 51), ("InvariantDesk$Tokens", 107, "any", 54), ("InvariantDeskModel", 153, "fun", 57), ("InvariantDeskModel", 155, "var", 60), ("InvariantDeskModel", 157, "if", 63), ("InvariantDeskModel", 159, "else", 66), ("InvariantDeskModel", 161, "while", 69), ("InvariantDeskModel", 163, "assert", 72), ("InvariantDeskModel", 165, "return", 75), ("InvariantDeskModel", 167, "any", 78), ("InvariantDeskModel", 553, ", ", 81), ("InvariantDeskModel", 570, " + ", 84), ("InvariantDeskModel", 572, " - ", 87), ("InvariantDeskModel", 574, " <= ", 90), ("InvariantDeskModel", 579, "nothing", 93), ("InvariantDeskModel", 580, " in ", 96), ("InvariantDeskModel", 585, "..", 99), ("InvariantDeskModel", 594, "[] in ", 102), ("InvariantDeskModel", 596, "all", 105)]
def mx_len : List Nat := [7, 3, 3, 3, 4, 2, 2, 4, 2, 17, 3, 3, 2, 4, 5, 6, 6, 3, 3, 3, 2, 4, 5, 6, 6, 3, 2, 3, 3, 4, 7, 4, 2, 6, 3]
def mx_byt : List (List Int32) := [[110, 111, 116, 104, 105, 110, 103], [97, 108, 108], [32, 45, 32], [32, 43, 32], [32, 60, 61, 32], [91, 93], [44, 32], [32, 105, 110, 32], [46, 46], [40, 41, 123, 125, 91, 93, 44, 59, 61, 43, 45, 42, 47, 37, 60, 62, 33], [102, 117, 110], [118, 97, 114], [105, 102], [101, 108, 115, 101], [119, 104, 105, 108, 101], [97, 115, 115, 101, 114, 116], [114, 101, 116, 117, 114, 110], [97, 110, 121], [102, 117, 110], [118, 97, 114], [105, 102], [101, 108, 115, 101], [119, 104, 105, 108, 101], [97, 115, 115, 101, 114, 116], [114, 101, 116, 117, 114, 110], [97, 110, 121], [44, 32], [32, 43, 32], [32, 45, 32], [32, 60, 61, 32], [110, 111, 116, 104, 105, 110, 103], [32, 105, 110, 32], [46, 46], [91, 93, 32, 105, 110, 32], [97, 108, 108]]
def mx_row : List Int32 := [0, 2, 4, 8, 12, 18, 24, 32, 40, 50, 60, 72, 84, 98, 112, 128, 144, 162, 180, 200, 220, 242, 264, 288]
