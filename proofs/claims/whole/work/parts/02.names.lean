def RC0 : String := "LineFrames"
def TC0 : u_T := fun k => match k with
  | 0 => ("LineFrames", "turn", "I", true)
  | 1 => ("LineFrames", "made", "LLineFrames$Picture;", true)
  | 2 => ("LineFrames", "written", "LLineFrames$Bytes;", true)
  | 3 => ("LineFrames", "came", "LLineFrames$Bytes;", true)
  | 4 => ("LineFrames", "writer", "LLineFrames$StreamWriter;", true)
  | _ => ("LineFrames", "reader", "LLineFrames$StreamReader;", true)
def tyC0 : Nat → FieldType := fun k => match k with
  | 0 => .int
  | 1 => .object "LineFrames$Picture"
  | 2 => .object "LineFrames$Bytes"
  | 3 => .object "LineFrames$Bytes"
  | 4 => .object "LineFrames$StreamWriter"
  | _ => .object "LineFrames$StreamReader"
theorem nmC0 : ∀ a, a < 6 → ∀ b, b < 6 → a ≠ b → (TC0 a).2.1 ≠ (TC0 b).2.1 := by decide +kernel
theorem tyC0_ok : ∀ k, k < 6 → parseFieldDescriptor (TC0 k).2.2.1 = some (tyC0 k) := by decide +kernel
def RC1 : String := "LineFrames$BitSink"
def TC1 : u_T := fun k => match k with
  | 0 => ("LineFrames$BitSink", "out", "LLineFrames$Bytes;", true)
  | 1 => ("LineFrames$BitSink", "current", "I", false)
  | _ => ("LineFrames$BitSink", "free", "I", false)
def tyC1 : Nat → FieldType := fun k => match k with
  | 0 => .object "LineFrames$Bytes"
  | 1 => .int
  | _ => .int
theorem nmC1 : ∀ a, a < 3 → ∀ b, b < 3 → a ≠ b → (TC1 a).2.1 ≠ (TC1 b).2.1 := by decide +kernel
theorem tyC1_ok : ∀ k, k < 3 → parseFieldDescriptor (TC1 k).2.2.1 = some (tyC1 k) := by decide +kernel
def RC2 : String := "LineFrames$BitSource"
def TC2 : u_T := fun k => match k with
  | 0 => ("LineFrames$BitSource", "in", "LLineFrames$Bytes;", true)
  | 1 => ("LineFrames$BitSource", "fault", "LLineFrames$Fault;", true)
  | 2 => ("LineFrames$BitSource", "next", "I", false)
  | 3 => ("LineFrames$BitSource", "current", "I", false)
  | _ => ("LineFrames$BitSource", "left", "I", false)
def tyC2 : Nat → FieldType := fun k => match k with
  | 0 => .object "LineFrames$Bytes"
  | 1 => .object "LineFrames$Fault"
  | 2 => .int
  | 3 => .int
  | _ => .int
theorem nmC2 : ∀ a, a < 5 → ∀ b, b < 5 → a ≠ b → (TC2 a).2.1 ≠ (TC2 b).2.1 := by decide +kernel
theorem tyC2_ok : ∀ k, k < 5 → parseFieldDescriptor (TC2 k).2.2.1 = some (tyC2 k) := by decide +kernel
def RC3 : String := "LineFrames$Bytes"
def TC3 : u_T := fun k => match k with
  | 0 => ("LineFrames$Bytes", "cells", "[I", true)
  | _ => ("LineFrames$Bytes", "size", "I", false)
def tyC3 : Nat → FieldType := fun k => match k with
  | 0 => .array .int
  | _ => .int
theorem nmC3 : ∀ a, a < 2 → ∀ b, b < 2 → a ≠ b → (TC3 a).2.1 ≠ (TC3 b).2.1 := by decide +kernel
theorem tyC3_ok : ∀ k, k < 2 → parseFieldDescriptor (TC3 k).2.2.1 = some (tyC3 k) := by decide +kernel
def RC4 : String := "LineFrames$Fault"
def TC4 : u_T := fun k => match k with
  | 0 => ("LineFrames$Fault", "number", "I", false)
  | _ => ("LineFrames$Fault", "place", "I", false)
def tyC4 : Nat → FieldType := fun k => match k with
  | 0 => .int
  | _ => .int
theorem nmC4 : ∀ a, a < 2 → ∀ b, b < 2 → a ≠ b → (TC4 a).2.1 ≠ (TC4 b).2.1 := by decide +kernel
theorem tyC4_ok : ∀ k, k < 2 → parseFieldDescriptor (TC4 k).2.2.1 = some (tyC4 k) := by decide +kernel
def RC5 : String := "LineFrames$Model"
def TC5 : u_T := fun k => match k with
  | 0 => ("LineFrames$Model", "samples", "LLineFrames$Row;", true)
  | 1 => ("LineFrames$Model", "sums", "LLineFrames$Row;", true)
  | 2 => ("LineFrames$Model", "counts", "LLineFrames$Row;", true)
  | 3 => ("LineFrames$Model", "top", "I", false)
  | 4 => ("LineFrames$Model", "near", "I", false)
  | 5 => ("LineFrames$Model", "step", "I", false)
  | 6 => ("LineFrames$Model", "range", "I", false)
  | 7 => ("LineFrames$Model", "reset", "I", false)
  | _ => ("LineFrames$Model", "start", "I", false)
def tyC5 : Nat → FieldType := fun k => match k with
  | 0 => .object "LineFrames$Row"
  | 1 => .object "LineFrames$Row"
  | 2 => .object "LineFrames$Row"
  | 3 => .int
  | 4 => .int
  | 5 => .int
  | 6 => .int
  | 7 => .int
  | _ => .int
theorem nmC5 : ∀ a, a < 9 → ∀ b, b < 9 → a ≠ b → (TC5 a).2.1 ≠ (TC5 b).2.1 := by decide +kernel
theorem tyC5_ok : ∀ k, k < 9 → parseFieldDescriptor (TC5 k).2.2.1 = some (tyC5 k) := by decide +kernel
def RC6 : String := "LineFrames$Notes"
def TC6 : u_T := fun k => match k with
  | 0 => ("LineFrames$Notes", "kinds", "LLineFrames$Row;", true)
  | 1 => ("LineFrames$Notes", "sizes", "LLineFrames$Row;", true)
  | 2 => ("LineFrames$Notes", "cells", "LLineFrames$Row;", true)
  | _ => ("LineFrames$Notes", "count", "I", false)
def tyC6 : Nat → FieldType := fun k => match k with
  | 0 => .object "LineFrames$Row"
  | 1 => .object "LineFrames$Row"
  | 2 => .object "LineFrames$Row"
  | _ => .int
theorem nmC6 : ∀ a, a < 4 → ∀ b, b < 4 → a ≠ b → (TC6 a).2.1 ≠ (TC6 b).2.1 := by decide +kernel
theorem tyC6_ok : ∀ k, k < 4 → parseFieldDescriptor (TC6 k).2.2.1 = some (tyC6 k) := by decide +kernel
def RC7 : String := "LineFrames$Picture"
def TC7 : u_T := fun k => match k with
  | 0 => ("LineFrames$Picture", "samples", "LLineFrames$Row;", true)
  | 1 => ("LineFrames$Picture", "presets", "LLineFrames$Row;", true)
  | 2 => ("LineFrames$Picture", "tabled", "LLineFrames$Row;", true)
  | 3 => ("LineFrames$Picture", "numbers", "LLineFrames$Row;", true)
  | 4 => ("LineFrames$Picture", "notes", "LLineFrames$Notes;", true)
  | 5 => ("LineFrames$Picture", "width", "I", false)
  | 6 => ("LineFrames$Picture", "height", "I", false)
  | 7 => ("LineFrames$Picture", "bits", "I", false)
  | _ => ("LineFrames$Picture", "components", "I", false)
def tyC7 : Nat → FieldType := fun k => match k with
  | 0 => .object "LineFrames$Row"
  | 1 => .object "LineFrames$Row"
  | 2 => .object "LineFrames$Row"
  | 3 => .object "LineFrames$Row"
  | 4 => .object "LineFrames$Notes"
  | 5 => .int
  | 6 => .int
  | 7 => .int
  | _ => .int
theorem nmC7 : ∀ a, a < 9 → ∀ b, b < 9 → a ≠ b → (TC7 a).2.1 ≠ (TC7 b).2.1 := by decide +kernel
theorem tyC7_ok : ∀ k, k < 9 → parseFieldDescriptor (TC7 k).2.2.1 = some (tyC7 k) := by decide +kernel
def RC8 : String := "LineFrames$Row"
def TC8 : u_T := fun k => match k with
  | _ => ("LineFrames$Row", "cells", "[I", true)
def tyC8 : Nat → FieldType := fun k => match k with
  | _ => .array .int
theorem nmC8 : ∀ a, a < 1 → ∀ b, b < 1 → a ≠ b → (TC8 a).2.1 ≠ (TC8 b).2.1 := by decide +kernel
theorem tyC8_ok : ∀ k, k < 1 → parseFieldDescriptor (TC8 k).2.2.1 = some (tyC8 k) := by decide +kernel
def RC9 : String := "LineFrames$StreamReader"
def TC9 : u_T := fun k => match k with
  | 0 => ("LineFrames$StreamReader", "in", "LLineFrames$Bytes;", true)
  | 1 => ("LineFrames$StreamReader", "got", "LLineFrames$Picture;", true)
  | 2 => ("LineFrames$StreamReader", "fault", "LLineFrames$Fault;", true)
  | 3 => ("LineFrames$StreamReader", "bits", "LLineFrames$BitSource;", true)
  | 4 => ("LineFrames$StreamReader", "model", "LLineFrames$Model;", true)
  | 5 => ("LineFrames$StreamReader", "scanned", "LLineFrames$Row;", true)
  | 6 => ("LineFrames$StreamReader", "next", "I", false)
  | 7 => ("LineFrames$StreamReader", "whole", "Z", false)
  | 8 => ("LineFrames$StreamReader", "first", "I", false)
  | 9 => ("LineFrames$StreamReader", "count", "I", false)
  | 10 => ("LineFrames$StreamReader", "near", "I", false)
  | 11 => ("LineFrames$StreamReader", "turn", "I", false)
  | 12 => ("LineFrames$StreamReader", "restarts", "I", false)
  | _ => ("LineFrames$StreamReader", "scans", "I", false)
def tyC9 : Nat → FieldType := fun k => match k with
  | 0 => .object "LineFrames$Bytes"
  | 1 => .object "LineFrames$Picture"
  | 2 => .object "LineFrames$Fault"
  | 3 => .object "LineFrames$BitSource"
  | 4 => .object "LineFrames$Model"
  | 5 => .object "LineFrames$Row"
  | 6 => .int
  | 7 => .boolean
  | 8 => .int
  | 9 => .int
  | 10 => .int
  | 11 => .int
  | 12 => .int
  | _ => .int
theorem nmC9 : ∀ a, a < 14 → ∀ b, b < 14 → a ≠ b → (TC9 a).2.1 ≠ (TC9 b).2.1 := by decide +kernel
theorem tyC9_ok : ∀ k, k < 14 → parseFieldDescriptor (TC9 k).2.2.1 = some (tyC9 k) := by decide +kernel
def RC10 : String := "LineFrames$StreamWriter"
def TC10 : u_T := fun k => match k with
  | 0 => ("LineFrames$StreamWriter", "picture", "LLineFrames$Picture;", true)
  | 1 => ("LineFrames$StreamWriter", "out", "LLineFrames$Bytes;", true)
  | 2 => ("LineFrames$StreamWriter", "model", "LLineFrames$Model;", true)
  | _ => ("LineFrames$StreamWriter", "bits", "LLineFrames$BitSink;", true)
def tyC10 : Nat → FieldType := fun k => match k with
  | 0 => .object "LineFrames$Picture"
  | 1 => .object "LineFrames$Bytes"
  | 2 => .object "LineFrames$Model"
  | _ => .object "LineFrames$BitSink"
theorem nmC10 : ∀ a, a < 4 → ∀ b, b < 4 → a ≠ b → (TC10 a).2.1 ≠ (TC10 b).2.1 := by decide +kernel
theorem tyC10_ok : ∀ k, k < 4 → parseFieldDescriptor (TC10 k).2.2.1 = some (tyC10 k) := by decide +kernel
def RC11 : String := "LineFramesModel"
def TC11 : u_T := fun k => match k with
  | 0 => ("LineFramesModel", "turn", "I", true)
  | 1 => ("LineFramesModel", "thrown", "I", false)
  | 2 => ("LineFramesModel", "width", "I", false)
  | 3 => ("LineFramesModel", "height", "I", false)
  | 4 => ("LineFramesModel", "bits", "I", false)
  | 5 => ("LineFramesModel", "components", "I", false)
  | 6 => ("LineFramesModel", "samples", "[I", true)
  | 7 => ("LineFramesModel", "hasTable", "[Z", true)
  | 8 => ("LineFramesModel", "tables", "[I", true)
  | 9 => ("LineFramesModel", "reset", "I", false)
  | 10 => ("LineFramesModel", "start", "I", false)
  | 11 => ("LineFramesModel", "restart", "I", false)
  | 12 => ("LineFramesModel", "notes", "I", false)
  | 13 => ("LineFramesModel", "noteKinds", "[I", true)
  | 14 => ("LineFramesModel", "noteSizes", "[I", true)
  | 15 => ("LineFramesModel", "noteBytes", "[I", true)
  | 16 => ("LineFramesModel", "written", "[I", true)
  | 17 => ("LineFramesModel", "writtenSize", "I", false)
  | 18 => ("LineFramesModel", "came", "[I", true)
  | 19 => ("LineFramesModel", "cameSize", "I", false)
  | 20 => ("LineFramesModel", "isRead", "Z", false)
  | 21 => ("LineFramesModel", "got", "[I", true)
  | 22 => ("LineFramesModel", "gotSamples", "[I", true)
  | 23 => ("LineFramesModel", "gotHasTable", "[Z", true)
  | 24 => ("LineFramesModel", "gotTables", "[I", true)
  | 25 => ("LineFramesModel", "gotKinds", "[I", true)
  | 26 => ("LineFramesModel", "gotSizes", "[I", true)
  | 27 => ("LineFramesModel", "gotBytes", "[I", true)
  | 28 => ("LineFramesModel", "fault", "I", false)
  | 29 => ("LineFramesModel", "place", "I", false)
  | 30 => ("LineFramesModel", "met", "I", false)
  | 31 => ("LineFramesModel", "whole", "I", false)
  | 32 => ("LineFramesModel", "p", "I", false)
  | 33 => ("LineFramesModel", "hasFrame", "Z", false)
  | 34 => ("LineFramesModel", "newWidth", "I", false)
  | 35 => ("LineFramesModel", "newHeight", "I", false)
  | 36 => ("LineFramesModel", "newBits", "I", false)
  | 37 => ("LineFramesModel", "newComponents", "I", false)
  | 38 => ("LineFramesModel", "newReset", "I", false)
  | 39 => ("LineFramesModel", "newStart", "I", false)
  | 40 => ("LineFramesModel", "newRestart", "I", false)
  | 41 => ("LineFramesModel", "newNotes", "I", false)
  | 42 => ("LineFramesModel", "newNear", "I", false)
  | 43 => ("LineFramesModel", "newTurn", "I", false)
  | 44 => ("LineFramesModel", "newSamples", "[I", true)
  | 45 => ("LineFramesModel", "newHasTable", "[Z", true)
  | 46 => ("LineFramesModel", "newTables", "[I", true)
  | 47 => ("LineFramesModel", "newKinds", "[I", true)
  | 48 => ("LineFramesModel", "newSizes", "[I", true)
  | 49 => ("LineFramesModel", "newBytes", "[I", true)
  | 50 => ("LineFramesModel", "hadScan", "[Z", true)
  | 51 => ("LineFramesModel", "told", "[I", true)
  | 52 => ("LineFramesModel", "sums", "[I", true)
  | 53 => ("LineFramesModel", "numbers", "[I", true)
  | 54 => ("LineFramesModel", "near", "I", false)
  | 55 => ("LineFramesModel", "top", "I", false)
  | 56 => ("LineFramesModel", "firstRow", "I", false)
  | 57 => ("LineFramesModel", "now", "I", false)
  | 58 => ("LineFramesModel", "used", "I", false)
  | 59 => ("LineFramesModel", "most", "I", false)
  | 60 => ("LineFramesModel", "next", "I", false)
  | 61 => ("LineFramesModel", "current", "I", false)
  | 62 => ("LineFramesModel", "left", "I", false)
  | 63 => ("LineFramesModel", "standsAt", "I", false)
  | _ => ("LineFramesModel", "isBehind", "Z", false)
def tyC11 : Nat → FieldType := fun k => match k with
  | 0 => .int
  | 1 => .int
  | 2 => .int
  | 3 => .int
  | 4 => .int
  | 5 => .int
  | 6 => .array .int
  | 7 => .array .boolean
  | 8 => .array .int
  | 9 => .int
  | 10 => .int
  | 11 => .int
  | 12 => .int
  | 13 => .array .int
  | 14 => .array .int
  | 15 => .array .int
  | 16 => .array .int
  | 17 => .int
  | 18 => .array .int
  | 19 => .int
  | 20 => .boolean
  | 21 => .array .int
  | 22 => .array .int
  | 23 => .array .boolean
  | 24 => .array .int
  | 25 => .array .int
  | 26 => .array .int
  | 27 => .array .int
  | 28 => .int
  | 29 => .int
  | 30 => .int
  | 31 => .int
  | 32 => .int
  | 33 => .boolean
  | 34 => .int
  | 35 => .int
  | 36 => .int
  | 37 => .int
  | 38 => .int
  | 39 => .int
  | 40 => .int
  | 41 => .int
  | 42 => .int
  | 43 => .int
  | 44 => .array .int
  | 45 => .array .boolean
  | 46 => .array .int
  | 47 => .array .int
  | 48 => .array .int
  | 49 => .array .int
  | 50 => .array .boolean
  | 51 => .array .int
  | 52 => .array .int
  | 53 => .array .int
  | 54 => .int
  | 55 => .int
  | 56 => .int
  | 57 => .int
  | 58 => .int
  | 59 => .int
  | 60 => .int
  | 61 => .int
  | 62 => .int
  | 63 => .int
  | _ => .boolean
theorem nmC11 : ∀ a, a < 65 → ∀ b, b < 65 → a ≠ b → (TC11 a).2.1 ≠ (TC11 b).2.1 := by decide +kernel
theorem tyC11_ok : ∀ k, k < 65 → parseFieldDescriptor (TC11 k).2.2.1 = some (tyC11 k) := by decide +kernel
abbrev vcl : List vw_C := [(RC0, TC0, 6), (RC1, TC1, 3), (RC2, TC2, 5), (RC3, TC3, 2), (RC4, TC4, 2), (RC5, TC5, 9), (RC6, TC6, 4), (RC7, TC7, 9), (RC8, TC8, 1), (RC9, TC9, 14), (RC10, TC10, 4), (RC11, TC11, 65)]
/-! the layout of the world: kinds (a class number, 100 int[], 101 boolean[], 102 long[]), lengths, targets -/
abbrev wN : Nat := 83
def wkdL : List Nat := [0, 7, 8, 100, 8, 100, 8, 100, 8, 100, 6, 8, 100, 8, 100, 8, 100, 3, 100, 3, 100, 10, 5, 8, 100, 8, 100, 8, 100, 1, 9, 7, 8, 100, 8, 100, 8, 100, 8, 100, 6, 8, 100, 8, 100, 8, 100, 4, 2, 5, 8, 100, 8, 100, 8, 100, 11, 100, 101, 100, 100, 100, 100, 100, 100, 100, 100, 101, 100, 100, 100, 100, 100, 101, 100, 100, 100, 100, 101, 100, 100, 100, 102]
def wlnL : List Nat := [0, 0, 0, 576, 0, 3, 0, 4, 0, 1024, 0, 0, 6, 0, 6, 0, 180, 0, 6000, 0, 6000, 0, 0, 0, 576, 0, 4, 0, 4, 0, 0, 0, 0, 576, 0, 3, 0, 4, 0, 1024, 0, 0, 6, 0, 6, 0, 180, 0, 0, 0, 0, 4, 0, 4, 0, 4, 0, 576, 4, 1024, 6, 6, 180, 9000, 6000, 10, 576, 4, 1024, 6, 6, 180, 576, 4, 1024, 6, 6, 180, 4, 576, 4, 4, 1]
def wtgL : List (List Nat) := [[0, 1, 17, 19, 21, 30], [2, 4, 6, 8, 10, 0, 0, 0, 0], [3], [], [5], [], [7], [], [9], [], [11, 13, 15, 0], [12], [], [14], [], [16], [], [18, 0], [], [20, 0], [], [1, 17, 22, 29], [23, 25, 27, 0, 0, 0, 0, 0, 0], [24], [], [26], [], [28], [], [17, 0, 0], [19, 31, 47, 48, 49, 54, 0, 0, 0, 0, 0, 0, 0, 0], [32, 34, 36, 38, 40, 0, 0, 0, 0], [33], [], [35], [], [37], [], [39], [], [41, 43, 45, 0], [42], [], [44], [], [46], [], [0, 0], [19, 47, 0, 0, 0], [32, 50, 52, 0, 0, 0, 0, 0, 0], [51], [], [53], [], [55], [], [0, 0, 0, 0, 0, 0, 57, 58, 59, 0, 0, 0, 0, 60, 61, 62, 63, 0, 64, 0, 0, 65, 66, 67, 68, 69, 70, 71, 0, 0, 0, 0, 0, 0, 0, 0, 0, 0, 0, 0, 0, 0, 0, 0, 72, 73, 74, 75, 76, 77, 78, 79, 80, 81, 0, 0, 0, 0, 0, 0, 0, 0, 0, 0, 0], [], [], [], [], [], [], [], [], [], [], [], [], [], [], [], [], [], [], [], [], [], [], [], [], [], []]
def wnfL : List Nat := [6, 3, 5, 2, 2, 9, 4, 9, 1, 14, 4, 65]
def wrfL : List (List Bool) := [[false, true, true, true, true, true], [true, false, false], [true, true, false, false, false], [true, false], [false, false], [true, true, true, false, false, false, false, false, false], [true, true, true, false], [true, true, true, true, true, false, false, false, false], [true], [true, true, true, true, true, true, false, false, false, false, false, false, false, false], [true, true, true, true], [false, false, false, false, false, false, true, true, true, false, false, false, false, true, true, true, true, false, true, false, false, true, true, true, true, true, true, true, false, false, false, false, false, false, false, false, false, false, false, false, false, false, false, false, true, true, true, true, true, true, true, true, true, true, false, false, false, false, false, false, false, false, false, false, false]]
def wkd (k : Nat) : Nat := wkdL.getD k 0
def wln (k : Nat) : Nat := wlnL.getD k 0
def wtg (k j : Nat) : Nat := (wtgL.getD k []).getD j 0
def wnf (c : Nat) : Nat := wnfL.getD c 0
def wrf (c j : Nat) : Bool := (wrfL.getD c []).getD j false
def strL : List (String × Nat × String) := [("LineFrames", 63, "no such picture"), ("LineFrames", 273, "there is no picture"), ("LineFrames", 84, "no such sample"), ("LineFrames", 91, "no value of a sample"), ("LineFrames", 115, "no such preset"), ("LineFrames", 123, "no such component"), ("LineFrames", 126, "no sample, or no number that it may stand for"), ("LineFrames", 142, "no kind of a note"), ("LineFrames", 156, "no room for a note"), ("LineFrames", 165, "no such note"), ("LineFrames", 278, "no byte"), ("LineFrames", 173, "no room in the note"), ("LineFrames", 178, "no such NEAR"), ("LineFrames", 188, "no such byte was written"), ("LineFrames", 194, "no room for a byte"), ("LineFrames", 199, "fewer than no bytes"), ("LineFrames", 201, "no room for so many bytes"), ("LineFrames", 203, "no such byte came"), ("LineFrames", 276, "nothing was read"), ("LineFrames", 253, "no such note, or no such byte of it")]
