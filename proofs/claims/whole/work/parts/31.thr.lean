/-! what a throw needs of the tables -/
abbrev kNSE : String := "java/util/NoSuchElementException"
abbrev kIAE : String := "java/lang/IllegalArgumentException"
abbrev kSup : List String := ["java/lang/RuntimeException", "java/lang/Exception"]
theorem kat_of {L : List Cond} (h : L.all (fun w => decide (w ∈ tables_1) && kGood w) = true) : ∀ w ∈ L, w ∈ TB := by
  intro w hw
  have h1 := List.all_eq_true.mp h w hw
  simp only [Bool.and_eq_true, decide_eq_true_eq] at h1
  exact kTB (List.mem_append_right _ h1.1) h1.2
theorem kat_n : ∀ w ∈ Cond.classLink R_B 32 kNSE :: Cond.initialized kNSE :: vx_at0 R_B 34 kNSE kSup, w ∈ TB := kat_of (by decide +kernel)
theorem kat_i : ∀ w ∈ Cond.classLink R_B 35 kIAE :: Cond.initialized kIAE :: vx_at0 R_B 37 kIAE kSup, w ∈ TB := kat_of (by decide +kernel)
theorem kog_n : ∀ w ∈ Cond.classLink R_B 32 kNSE :: Cond.initialized kNSE :: vx_at0 R_B 34 kNSE kSup, vx_ot w = true := fun w hw => List.all_eq_true.mp (by decide +kernel : (Cond.classLink R_B 32 kNSE :: Cond.initialized kNSE :: vx_at0 R_B 34 kNSE kSup).all vx_ot = true) w hw
theorem kog_i : ∀ w ∈ Cond.classLink R_B 35 kIAE :: Cond.initialized kIAE :: vx_at0 R_B 37 kIAE kSup, vx_ot w = true := fun w hw => List.all_eq_true.mp (by decide +kernel : (Cond.classLink R_B 35 kIAE :: Cond.initialized kIAE :: vx_at0 R_B 37 kIAE kSup).all vx_ot = true) w hw
/-- a new exception of class C, nothing else -/
def kXC (C : String) : String → State → State → Prop := fun E st t => E = C ∧ st.heap.size ≤ t.heap.size ∧ ∀ q : Nat, q < st.heap.size → t.heap[q]? = st.heap[q]?
def xPre (U : State) : Prop := vx_Zq Bundle.tN "UNASSIGNED_STACK" Bundle.steD (fun _ => False) U U.heap ∧ vx_Zq Bundle.tN "SUPPRESSED_SENTINEL" Bundle.listD (fun _ => False) U U.heap
