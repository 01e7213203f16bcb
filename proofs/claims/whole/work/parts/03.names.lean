abbrev R_B : String := "BeamDrawer"
def F_B : u_T := fun k => match k with
  | 0 => ("BeamDrawer", "registers", "[I", true)
  | 1 => ("BeamDrawer", "oldShapes", "[I", true)
  | 2 => ("BeamDrawer", "places", "[I", true)
  | 3 => ("BeamDrawer", "colours", "[I", true)
  | 4 => ("BeamDrawer", "meetings", "[I", true)
  | 5 => ("BeamDrawer", "timer", "LBeamDrawer$Timer;", true)
  | 6 => ("BeamDrawer", "oldBall", "I", false)
  | 7 => ("BeamDrawer", "clock", "I", false)
  | 8 => ("BeamDrawer", "line", "I", false)
  | _ => ("BeamDrawer", "drawn", "I", false)
def ft_B : Nat → FieldType := fun k => match k with
  | 0 => .array .int
  | 1 => .array .int
  | 2 => .array .int
  | 3 => .array .int
  | 4 => .array .int
  | 5 => .object "BeamDrawer$Timer"
  | 6 => .int
  | 7 => .int
  | 8 => .int
  | _ => .int
theorem n_B : ∀ a, a < 10 → ∀ b, b < 10 → a ≠ b → (F_B a).2.1 ≠ (F_B b).2.1 := by decide +kernel
theorem ft_B_ok : ∀ k, k < 10 → parseFieldDescriptor (F_B k).2.2.1 = some (ft_B k) := by decide +kernel
theorem in_B : ∀ w ∈ u_ws R_B F_B 10, w ∈ TB := by
  intro w hw
  have h : (u_ws R_B F_B 10).all (fun w => decide (w ∈ tables_1) && kGood w) = true := by decide +kernel
  have h1 := List.all_eq_true.mp h w hw
  simp only [Bool.and_eq_true, decide_eq_true_eq] at h1
  exact kTB (List.mem_append_right _ h1.1) h1.2
abbrev R_T : String := "BeamDrawer$Timer"
def F_T : u_T := fun k => match k with
  | 0 => ("BeamDrawer$Timer", "value", "I", false)
  | 1 => ("BeamDrawer$Timer", "interval", "I", false)
  | 2 => ("BeamDrawer$Timer", "clocksLeft", "I", false)
  | _ => ("BeamDrawer$Timer", "rung", "Z", false)
def ft_T : Nat → FieldType := fun k => match k with
  | 0 => .int
  | 1 => .int
  | 2 => .int
  | _ => .boolean
theorem n_T : ∀ a, a < 4 → ∀ b, b < 4 → a ≠ b → (F_T a).2.1 ≠ (F_T b).2.1 := by decide +kernel
theorem ft_T_ok : ∀ k, k < 4 → parseFieldDescriptor (F_T k).2.2.1 = some (ft_T k) := by decide +kernel
theorem in_T : ∀ w ∈ u_ws R_T F_T 4, w ∈ TB := by
  intro w hw
  have h : (u_ws R_T F_T 4).all (fun w => decide (w ∈ tables_1) && kGood w) = true := by decide +kernel
  have h1 := List.all_eq_true.mp h w hw
  simp only [Bool.and_eq_true, decide_eq_true_eq] at h1
  exact kTB (List.mem_append_right _ h1.1) h1.2
abbrev R_M : String := "BeamDrawerModel"
def F_M : u_T := fun k => match k with
  | 0 => ("BeamDrawerModel", "thrown", "I", false)
  | 1 => ("BeamDrawerModel", "registers", "[I", true)
  | 2 => ("BeamDrawerModel", "places", "[I", true)
  | 3 => ("BeamDrawerModel", "shapes", "[I", true)
  | 4 => ("BeamDrawerModel", "olds", "[I", true)
  | 5 => ("BeamDrawerModel", "ball", "Z", false)
  | 6 => ("BeamDrawerModel", "oldBall", "Z", false)
  | 7 => ("BeamDrawerModel", "meetings", "[Z", true)
  | 8 => ("BeamDrawerModel", "pixels", "[I", true)
  | 9 => ("BeamDrawerModel", "here", "[Z", true)
  | 10 => ("BeamDrawerModel", "clock", "I", false)
  | 11 => ("BeamDrawerModel", "line", "I", false)
  | 12 => ("BeamDrawerModel", "drawn", "I", false)
  | 13 => ("BeamDrawerModel", "value", "I", false)
  | 14 => ("BeamDrawerModel", "interval", "I", false)
  | 15 => ("BeamDrawerModel", "passed", "I", false)
  | _ => ("BeamDrawerModel", "rung", "Z", false)
def ft_M : Nat → FieldType := fun k => match k with
  | 0 => .int
  | 1 => .array .int
  | 2 => .array .int
  | 3 => .array .int
  | 4 => .array .int
  | 5 => .boolean
  | 6 => .boolean
  | 7 => .array .boolean
  | 8 => .array .int
  | 9 => .array .boolean
  | 10 => .int
  | 11 => .int
  | 12 => .int
  | 13 => .int
  | 14 => .int
  | 15 => .int
  | _ => .boolean
theorem n_M : ∀ a, a < 17 → ∀ b, b < 17 → a ≠ b → (F_M a).2.1 ≠ (F_M b).2.1 := by decide +kernel
theorem ft_M_ok : ∀ k, k < 17 → parseFieldDescriptor (F_M k).2.2.1 = some (ft_M k) := by decide +kernel
theorem in_M : ∀ w ∈ u_ws R_M F_M 17, w ∈ TB := by
  intro w hw
  have h : (u_ws R_M F_M 17).all (fun w => decide (w ∈ tables_1) && kGood w) = true := by decide +kernel
  have h1 := List.all_eq_true.mp h w hw
  simp only [Bool.and_eq_true, decide_eq_true_eq] at h1
  exact kTB (List.mem_append_right _ h1.1) h1.2
abbrev R_L : String := "BeamDrawerLaw"
abbrev R_JM : String := "java/lang/Math"
abbrev R_JI : String := "java/lang/Integer"
abbrev R_JA : String := "java/util/Arrays"
abbrev R_JO : String := "java/lang/Object"
