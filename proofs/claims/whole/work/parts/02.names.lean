def nestHost : String := "HalftoneRegions"
def R_C : String := "HalftoneRegions$Codes"
def T_C : u_T := fun k => match k with
  | _ => ("HalftoneRegions$Codes", "bits", "[I", true)
def ty_C : Nat → FieldType := fun k => match k with
  | _ => .array .int
theorem nm_C : ∀ a, a < 1 → ∀ b, b < 1 → a ≠ b → (T_C a).2.1 ≠ (T_C b).2.1 := by decide +kernel
theorem ty_C_ok : ∀ k, k < 1 → parseFieldDescriptor (T_C k).2.2.1 = some (ty_C k) := by decide +kernel
theorem in_C : ∀ w ∈ u_ws R_C T_C 1, w ∈ lw_tbl := by decide +kernel
theorem gd_C : (u_ws R_C T_C 1).all goodWord = true := by decide +kernel
def R_F : String := "HalftoneRegions$Forecast"
def T_F : u_T := fun k => match k with
  | 0 => ("HalftoneRegions$Forecast", "states", "[I", true)
  | _ => ("HalftoneRegions$Forecast", "uses", "[I", true)
def ty_F : Nat → FieldType := fun k => match k with
  | 0 => .array .int
  | _ => .array .int
theorem nm_F : ∀ a, a < 2 → ∀ b, b < 2 → a ≠ b → (T_F a).2.1 ≠ (T_F b).2.1 := by decide +kernel
theorem ty_F_ok : ∀ k, k < 2 → parseFieldDescriptor (T_F k).2.2.1 = some (ty_F k) := by decide +kernel
theorem in_F : ∀ w ∈ u_ws R_F T_F 2, w ∈ lw_tbl := by decide +kernel
theorem gd_F : (u_ws R_F T_F 2).all goodWord = true := by decide +kernel
def R_L : String := "HalftoneRegions$Lattice"
def T_L : u_T := fun k => match k with
  | 0 => ("HalftoneRegions$Lattice", "greys", "[I", true)
  | 1 => ("HalftoneRegions$Lattice", "columns", "I", false)
  | 2 => ("HalftoneRegions$Lattice", "rows", "I", false)
  | 3 => ("HalftoneRegions$Lattice", "gx", "I", false)
  | 4 => ("HalftoneRegions$Lattice", "gy", "I", false)
  | 5 => ("HalftoneRegions$Lattice", "dx", "I", false)
  | _ => ("HalftoneRegions$Lattice", "dy", "I", false)
def ty_L : Nat → FieldType := fun k => match k with
  | 0 => .array .int
  | 1 => .int
  | 2 => .int
  | 3 => .int
  | 4 => .int
  | 5 => .int
  | _ => .int
theorem nm_L : ∀ a, a < 7 → ∀ b, b < 7 → a ≠ b → (T_L a).2.1 ≠ (T_L b).2.1 := by decide +kernel
theorem ty_L_ok : ∀ k, k < 7 → parseFieldDescriptor (T_L k).2.2.1 = some (ty_L k) := by decide +kernel
theorem in_L : ∀ w ∈ u_ws R_L T_L 7, w ∈ lw_tbl := by decide +kernel
theorem gd_L : (u_ws R_L T_L 7).all goodWord = true := by decide +kernel
def R_P : String := "HalftoneRegions$Pace"
def T_P : u_T := fun k => match k with
  | 0 => ("HalftoneRegions$Pace", "sum", "I", false)
  | _ => ("HalftoneRegions$Pace", "number", "I", false)
def ty_P : Nat → FieldType := fun k => match k with
  | 0 => .int
  | _ => .int
theorem nm_P : ∀ a, a < 2 → ∀ b, b < 2 → a ≠ b → (T_P a).2.1 ≠ (T_P b).2.1 := by decide +kernel
theorem ty_P_ok : ∀ k, k < 2 → parseFieldDescriptor (T_P k).2.2.1 = some (ty_P k) := by decide +kernel
theorem in_P : ∀ w ∈ u_ws R_P T_P 2, w ∈ lw_tbl := by decide +kernel
theorem gd_P : (u_ws R_P T_P 2).all goodWord = true := by decide +kernel
def R_B : String := "HalftoneRegions$PatternSet"
def T_B : u_T := fun k => match k with
  | 0 => ("HalftoneRegions$PatternSet", "cells", "[J", true)
  | 1 => ("HalftoneRegions$PatternSet", "width", "I", false)
  | 2 => ("HalftoneRegions$PatternSet", "height", "I", false)
  | _ => ("HalftoneRegions$PatternSet", "many", "I", false)
def ty_B : Nat → FieldType := fun k => match k with
  | 0 => .array .long
  | 1 => .int
  | 2 => .int
  | _ => .int
theorem nm_B : ∀ a, a < 4 → ∀ b, b < 4 → a ≠ b → (T_B a).2.1 ≠ (T_B b).2.1 := by decide +kernel
theorem ty_B_ok : ∀ k, k < 4 → parseFieldDescriptor (T_B k).2.2.1 = some (ty_B k) := by decide +kernel
theorem in_B : ∀ w ∈ u_ws R_B T_B 4, w ∈ lw_tbl := by decide +kernel
theorem gd_B : (u_ws R_B T_B 4).all goodWord = true := by decide +kernel
def R_R : String := "HalftoneRegions$RunReader"
def T_R : u_T := fun k => match k with
  | 0 => ("HalftoneRegions$RunReader", "bytes", "[B", true)
  | 1 => ("HalftoneRegions$RunReader", "pace", "LHalftoneRegions$Pace;", true)
  | 2 => ("HalftoneRegions$RunReader", "came", "I", false)
  | 3 => ("HalftoneRegions$RunReader", "bits", "I", false)
  | 4 => ("HalftoneRegions$RunReader", "left", "I", false)
  | 5 => ("HalftoneRegions$RunReader", "ahead", "I", false)
  | 6 => ("HalftoneRegions$RunReader", "runs", "I", false)
  | _ => ("HalftoneRegions$RunReader", "refused", "I", false)
def ty_R : Nat → FieldType := fun k => match k with
  | 0 => .array .byte
  | 1 => .object "HalftoneRegions$Pace"
  | 2 => .int
  | 3 => .int
  | 4 => .int
  | 5 => .int
  | 6 => .int
  | _ => .int
theorem nm_R : ∀ a, a < 8 → ∀ b, b < 8 → a ≠ b → (T_R a).2.1 ≠ (T_R b).2.1 := by decide +kernel
theorem ty_R_ok : ∀ k, k < 8 → parseFieldDescriptor (T_R k).2.2.1 = some (ty_R k) := by decide +kernel
theorem in_R : ∀ w ∈ u_ws R_R T_R 8, w ∈ lw_tbl := by decide +kernel
theorem gd_R : (u_ws R_R T_R 8).all goodWord = true := by decide +kernel
def R_W : String := "HalftoneRegions$RunWriter"
def T_W : u_T := fun k => match k with
  | 0 => ("HalftoneRegions$RunWriter", "bytes", "[B", true)
  | 1 => ("HalftoneRegions$RunWriter", "pace", "LHalftoneRegions$Pace;", true)
  | 2 => ("HalftoneRegions$RunWriter", "bits", "I", false)
  | 3 => ("HalftoneRegions$RunWriter", "run", "I", false)
  | _ => ("HalftoneRegions$RunWriter", "runs", "I", false)
def ty_W : Nat → FieldType := fun k => match k with
  | 0 => .array .byte
  | 1 => .object "HalftoneRegions$Pace"
  | 2 => .int
  | 3 => .int
  | _ => .int
theorem nm_W : ∀ a, a < 5 → ∀ b, b < 5 → a ≠ b → (T_W a).2.1 ≠ (T_W b).2.1 := by decide +kernel
theorem ty_W_ok : ∀ k, k < 5 → parseFieldDescriptor (T_W k).2.2.1 = some (ty_W k) := by decide +kernel
theorem in_W : ∀ w ∈ u_ws R_W T_W 5, w ∈ lw_tbl := by decide +kernel
theorem gd_W : (u_ws R_W T_W 5).all goodWord = true := by decide +kernel
def R_S : String := "HalftoneRegions$Sheet"
def T_S : u_T := fun k => match k with
  | 0 => ("HalftoneRegions$Sheet", "lines", "[I", true)
  | _ => ("HalftoneRegions$Sheet", "mask", "I", true)
def ty_S : Nat → FieldType := fun k => match k with
  | 0 => .array .int
  | _ => .int
theorem nm_S : ∀ a, a < 2 → ∀ b, b < 2 → a ≠ b → (T_S a).2.1 ≠ (T_S b).2.1 := by decide +kernel
theorem ty_S_ok : ∀ k, k < 2 → parseFieldDescriptor (T_S k).2.2.1 = some (ty_S k) := by decide +kernel
theorem in_S : ∀ w ∈ u_ws R_S T_S 2, w ∈ lw_tbl := by decide +kernel
theorem gd_S : (u_ws R_S T_S 2).all goodWord = true := by decide +kernel
def R_H : String := "HalftoneRegions"
def T_H : u_T := fun k => match k with
  | 0 => ("HalftoneRegions", "width", "I", true)
  | 1 => ("HalftoneRegions", "height", "I", true)
  | 2 => ("HalftoneRegions", "paper", "LHalftoneRegions$Sheet;", true)
  | 3 => ("HalftoneRegions", "region", "LHalftoneRegions$Sheet;", true)
  | 4 => ("HalftoneRegions", "book", "LHalftoneRegions$PatternSet;", true)
  | 5 => ("HalftoneRegions", "lattice", "LHalftoneRegions$Lattice;", true)
  | 6 => ("HalftoneRegions", "codes", "LHalftoneRegions$Codes;", true)
  | 7 => ("HalftoneRegions", "forecast", "LHalftoneRegions$Forecast;", true)
  | 8 => ("HalftoneRegions", "writer", "LHalftoneRegions$RunWriter;", true)
  | 9 => ("HalftoneRegions", "reader", "LHalftoneRegions$RunReader;", true)
  | 10 => ("HalftoneRegions", "nearest", "[I", true)
  | 11 => ("HalftoneRegions", "operator", "I", false)
  | 12 => ("HalftoneRegions", "background", "I", false)
  | 13 => ("HalftoneRegions", "skipping", "I", false)
  | _ => ("HalftoneRegions", "runs", "I", false)
def ty_H : Nat → FieldType := fun k => match k with
  | 0 => .int
  | 1 => .int
  | 2 => .object "HalftoneRegions$Sheet"
  | 3 => .object "HalftoneRegions$Sheet"
  | 4 => .object "HalftoneRegions$PatternSet"
  | 5 => .object "HalftoneRegions$Lattice"
  | 6 => .object "HalftoneRegions$Codes"
  | 7 => .object "HalftoneRegions$Forecast"
  | 8 => .object "HalftoneRegions$RunWriter"
  | 9 => .object "HalftoneRegions$RunReader"
  | 10 => .array .int
  | 11 => .int
  | 12 => .int
  | 13 => .int
  | _ => .int
theorem nm_H : ∀ a, a < 15 → ∀ b, b < 15 → a ≠ b → (T_H a).2.1 ≠ (T_H b).2.1 := by decide +kernel
theorem ty_H_ok : ∀ k, k < 15 → parseFieldDescriptor (T_H k).2.2.1 = some (ty_H k) := by decide +kernel
theorem in_H : ∀ w ∈ u_ws R_H T_H 15, w ∈ lw_tbl := by decide +kernel
theorem gd_H : (u_ws R_H T_H 15).all goodWord = true := by decide +kernel
def R_M : String := "HalftoneRegionsModel"
def T_M : u_T := fun k => match k with
  | 0 => ("HalftoneRegionsModel", "code", "I", false)
  | 1 => ("HalftoneRegionsModel", "width", "I", true)
  | 2 => ("HalftoneRegionsModel", "height", "I", true)
  | 3 => ("HalftoneRegionsModel", "page", "[Z", true)
  | 4 => ("HalftoneRegionsModel", "region", "[Z", true)
  | 5 => ("HalftoneRegionsModel", "patternWidth", "I", false)
  | 6 => ("HalftoneRegionsModel", "patternHeight", "I", false)
  | 7 => ("HalftoneRegionsModel", "many", "I", false)
  | 8 => ("HalftoneRegionsModel", "cells", "[Z", true)
  | 9 => ("HalftoneRegionsModel", "columns", "I", false)
  | 10 => ("HalftoneRegionsModel", "rows", "I", false)
  | 11 => ("HalftoneRegionsModel", "gx", "I", false)
  | 12 => ("HalftoneRegionsModel", "gy", "I", false)
  | 13 => ("HalftoneRegionsModel", "dx", "I", false)
  | 14 => ("HalftoneRegionsModel", "dy", "I", false)
  | 15 => ("HalftoneRegionsModel", "greys", "[I", true)
  | 16 => ("HalftoneRegionsModel", "operator", "I", false)
  | 17 => ("HalftoneRegionsModel", "background", "I", false)
  | 18 => ("HalftoneRegionsModel", "skips", "I", false)
  | 19 => ("HalftoneRegionsModel", "written", "[Z", true)
  | 20 => ("HalftoneRegionsModel", "bits", "I", false)
  | 21 => ("HalftoneRegionsModel", "made", "I", false)
  | 22 => ("HalftoneRegionsModel", "came", "[I", true)
  | 23 => ("HalftoneRegionsModel", "cameBytes", "I", false)
  | 24 => ("HalftoneRegionsModel", "states", "[I", true)
  | 25 => ("HalftoneRegionsModel", "counts", "[I", true)
  | 26 => ("HalftoneRegionsModel", "here", "[Z", true)
  | 27 => ("HalftoneRegionsModel", "above", "[Z", true)
  | 28 => ("HalftoneRegionsModel", "fresh", "[I", true)
  | 29 => ("HalftoneRegionsModel", "sum", "I", false)
  | 30 => ("HalftoneRegionsModel", "number", "I", false)
  | 31 => ("HalftoneRegionsModel", "runs", "I", false)
  | 32 => ("HalftoneRegionsModel", "at", "I", false)
  | 33 => ("HalftoneRegionsModel", "left", "I", false)
  | 34 => ("HalftoneRegionsModel", "loaded", "Z", false)
  | 35 => ("HalftoneRegionsModel", "ended", "Z", false)
  | 36 => ("HalftoneRegionsModel", "toCome", "I", false)
  | _ => ("HalftoneRegionsModel", "beyond", "Z", false)
def ty_M : Nat → FieldType := fun k => match k with
  | 0 => .int
  | 1 => .int
  | 2 => .int
  | 3 => .array .boolean
  | 4 => .array .boolean
  | 5 => .int
  | 6 => .int
  | 7 => .int
  | 8 => .array .boolean
  | 9 => .int
  | 10 => .int
  | 11 => .int
  | 12 => .int
  | 13 => .int
  | 14 => .int
  | 15 => .array .int
  | 16 => .int
  | 17 => .int
  | 18 => .int
  | 19 => .array .boolean
  | 20 => .int
  | 21 => .int
  | 22 => .array .int
  | 23 => .int
  | 24 => .array .int
  | 25 => .array .int
  | 26 => .array .boolean
  | 27 => .array .boolean
  | 28 => .array .int
  | 29 => .int
  | 30 => .int
  | 31 => .int
  | 32 => .int
  | 33 => .int
  | 34 => .boolean
  | 35 => .boolean
  | 36 => .int
  | _ => .boolean
theorem nm_M : ∀ a, a < 38 → ∀ b, b < 38 → a ≠ b → (T_M a).2.1 ≠ (T_M b).2.1 := by decide +kernel
theorem ty_M_ok : ∀ k, k < 38 → parseFieldDescriptor (T_M k).2.2.1 = some (ty_M k) := by decide +kernel
theorem in_M : ∀ w ∈ u_ws R_M T_M 38, w ∈ lw_tbl := by decide +kernel
theorem gd_M : (u_ws R_M T_M 38).all goodWord = true := by decide +kernel
abbrev classes : List vw_C := [(R_C, T_C, 1), (R_F, T_F, 2), (R_L, T_L, 7), (R_P, T_P, 2), (R_B, T_B, 4), (R_R, T_R, 8), (R_W, T_W, 5), (R_S, T_S, 2), (R_H, T_H, 15), (R_M, T_M, 38)]
def gw : List Jvm.Cond := lw_tbl.filter goodWord
theorem gw_in {w : Jvm.Cond} (h : w ∈ lw_tbl) (hg : goodWord w = true) : w ∈ gw := List.mem_filter.mpr ⟨h, hg⟩
def clsOK (r : vw_C) : Prop := (∀ w ∈ u_ws r.1 r.2.1 r.2.2, w ∈ gw) ∧ (∀ a, a < r.2.2 → ∀ b, b < r.2.2 → a ≠ b → (r.2.1 a).2.1 ≠ (r.2.1 b).2.1) ∧ (∃ ty : Nat → FieldType, ∀ k, k < r.2.2 → parseFieldDescriptor (r.2.1 k).2.2.1 = some (ty k))
theorem cls_all : ∀ (ci : Nat) (r : vw_C), classes[ci]? = some r → clsOK r := by
  intro ci r h
  match ci, h with
  | 0, h => cases h; exact ⟨fun w hw => gw_in (in_C w hw) (List.all_eq_true.mp gd_C w hw), nm_C, ty_C, ty_C_ok⟩
  | 1, h => cases h; exact ⟨fun w hw => gw_in (in_F w hw) (List.all_eq_true.mp gd_F w hw), nm_F, ty_F, ty_F_ok⟩
  | 2, h => cases h; exact ⟨fun w hw => gw_in (in_L w hw) (List.all_eq_true.mp gd_L w hw), nm_L, ty_L, ty_L_ok⟩
  | 3, h => cases h; exact ⟨fun w hw => gw_in (in_P w hw) (List.all_eq_true.mp gd_P w hw), nm_P, ty_P, ty_P_ok⟩
  | 4, h => cases h; exact ⟨fun w hw => gw_in (in_B w hw) (List.all_eq_true.mp gd_B w hw), nm_B, ty_B, ty_B_ok⟩
  | 5, h => cases h; exact ⟨fun w hw => gw_in (in_R w hw) (List.all_eq_true.mp gd_R w hw), nm_R, ty_R, ty_R_ok⟩
  | 6, h => cases h; exact ⟨fun w hw => gw_in (in_W w hw) (List.all_eq_true.mp gd_W w hw), nm_W, ty_W, ty_W_ok⟩
  | 7, h => cases h; exact ⟨fun w hw => gw_in (in_S w hw) (List.all_eq_true.mp gd_S w hw), nm_S, ty_S, ty_S_ok⟩
  | 8, h => cases h; exact ⟨fun w hw => gw_in (in_H w hw) (List.all_eq_true.mp gd_H w hw), nm_H, ty_H, ty_H_ok⟩
  | 9, h => cases h; exact ⟨fun w hw => gw_in (in_M w hw) (List.all_eq_true.mp gd_M w hw), nm_M, ty_M, ty_M_ok⟩
  | k + 10, h => simp [classes] at h
