abbrev classes : List vw_C := [(R_B, F_B, 10), (R_T, F_T, 4), (R_M, F_M, 17)]
abbrev kty (cA : Nat → Nat) : List (ClassId × FieldType) := [(cA 0, .int), (cA 1, .boolean), (cA 2, .long)]
/-- the drawer's cells: the object, registers, old shapes, places, colours, meetings, the timer. σ: 0 registers, 1 old shapes, 2 places, 3 colours, 4 meetings, 5 numbers (old ball, clock, line, drawn; value, interval, clocks left, rung) -/
abbrev bw (cA ad : Nat → Nat) (σ : Nat → Nat → Int32) : va_W := [(ad 0, .inr (0, [.ref (ad 1), .ref (ad 2), .ref (ad 3), .ref (ad 4), .ref (ad 5), .ref (ad 6), .int (σ 5 0), .int (σ 5 1), .int (σ 5 2), .int (σ 5 3)])), (ad 1, .inl (cA 0, 36, .inl (σ 0))), (ad 2, .inl (cA 0, 2, .inl (σ 1))), (ad 3, .inl (cA 0, 5, .inl (σ 2))), (ad 4, .inl (cA 0, 160, .inl (σ 3))), (ad 5, .inl (cA 0, 6, .inl (σ 4))), (ad 6, .inr (1, [.int (σ 5 4), .int (σ 5 5), .int (σ 5 6), .int (σ 5 7)]))]
/-- the reference's cells: the object, registers, places, shapes, olds, meetings, pixels, here. σ: 0 registers, 1 places, 2 shapes, 3 olds, 4 meetings, 5 pixels, 6 here, 7 numbers (thrown, ball, old ball, clock, line, drawn, value, interval, passed, rung) -/
abbrev mw (cA ad : Nat → Nat) (σ : Nat → Nat → Int32) : va_W := [(ad 0, .inr (2, [.int (σ 7 0), .ref (ad 1), .ref (ad 2), .ref (ad 3), .ref (ad 4), .int (σ 7 1), .int (σ 7 2), .ref (ad 5), .ref (ad 6), .ref (ad 7), .int (σ 7 3), .int (σ 7 4), .int (σ 7 5), .int (σ 7 6), .int (σ 7 7), .int (σ 7 8), .int (σ 7 9)])), (ad 1, .inl (cA 0, 28, .inl (σ 0))), (ad 2, .inl (cA 0, 5, .inl (σ 1))), (ad 3, .inl (cA 0, 2, .inl (σ 2))), (ad 4, .inl (cA 0, 2, .inl (σ 3))), (ad 5, .inl (cA 1, 36, .inl (σ 4))), (ad 6, .inl (cA 0, 160, .inl (σ 5))), (ad 7, .inl (cA 1, 6, .inl (σ 6)))]
def kQv (D : va_G) (ws' : va_W) (A : Nat → Prop) : Array Value → State → Outcome → State → Prop := fun _ st oc t => oc = .returned none ∧ va_P D classes ws' t.heap ∧ va_F A st t
def kQi (D : va_G) (ws' : va_W) (A : Nat → Prop) (r : Int32) : Array Value → State → Outcome → State → Prop := fun _ st oc t => oc = .returned (some (.int r)) ∧ va_P D classes ws' t.heap ∧ va_F A st t
section KCALL
variable {p : Program} {l : Launch} {e : Env} {R : Room} {s : State} {m : MethodId} {args : Array Value} {below : List Frame} {meth : Method} {c : Code} {H : Heap} {locs : List Loc} {cells slots : Nat} {Q : State → Prop}
variable {pc : Nat} {ls : Array Slot} {rest st0 : List Value} {a : Array Value} {A : Nat → Prop} {H0 : Heap} {D : va_G} {ws' : va_W}
theorem kcv (hr : va_Run p l e R s m args below meth c H locs cells slots 0 0 (F0 m pc ls st0) rest (kQv D ws' A a) A) (hS : va_S A H0 H locs)
    (kk : ∀ (H1 : Heap) (locs1 : List Loc), va_P D classes ws' H1 → va_S A H0 H1 locs1 → W p l e R s m args below meth c H1 locs1 cells slots Q (F0 m (pc + 3) ls rest)) : W p l e R s m args below meth c H locs cells slots Q (F0 m pc ls st0) := by
  intro T hT X
  obtain ⟨v, st₀, t, T', L, h0, X', hL, e1, e2, ⟨hv, hp, hz, hk⟩, st⟩ := hr T hT X
  cases hv
  rw [h0] at hz hk
  obtain ⟨t2, a1, b1⟩ := kk T'.heap (locs ++ L) (by rw [e1]; exact hp) ⟨Nat.le_trans hS.1 (by rw [e1]; exact hz), fun q h1 h2 => by rw [e1, hk q (Nat.lt_of_lt_of_le h1 hS.1) h2]; exact hS.2.1 q h1 h2, fun q hq => by
      rcases List.mem_append.mp hq with h | h
      · exact hS.2.2 q h
      · exact hL q h⟩ T' rfl X'
  exact ⟨t2, st t2 a1, b1⟩
theorem kci {r : Int32} (hr : va_Run p l e R s m args below meth c H locs cells slots 0 0 (F0 m pc ls st0) rest (kQi D ws' A r a) A) (hS : va_S A H0 H locs)
    (kk : ∀ (H1 : Heap) (locs1 : List Loc), va_P D classes ws' H1 → va_S A H0 H1 locs1 → W p l e R s m args below meth c H1 locs1 cells slots Q (F0 m (pc + 3) ls (.int r :: rest))) : W p l e R s m args below meth c H locs cells slots Q (F0 m pc ls st0) := by
  intro T hT X
  obtain ⟨v, st₀, t, T', L, h0, X', hL, e1, e2, ⟨hv, hp, hz, hk⟩, st⟩ := hr T hT X
  cases hv
  rw [h0] at hz hk
  obtain ⟨t2, a1, b1⟩ := kk T'.heap (locs ++ L) (by rw [e1]; exact hp) ⟨Nat.le_trans hS.1 (by rw [e1]; exact hz), fun q h1 h2 => by rw [e1, hk q (Nat.lt_of_lt_of_le h1 hS.1) h2]; exact hS.2.1 q h1 h2, fun q hq => by
      rcases List.mem_append.mp hq with h | h
      · exact hS.2.2 q h
      · exact hL q h⟩ T' rfl X'
  exact ⟨t2, st t2 a1, b1⟩
end KCALL
/-! the class's three tables -/
def tab0 (j : Nat) : Int32 := ([1, 3, 5, 7, 17, 1, 21, 1] : List Int32).getD j 0
def tab1 (j : Nat) : Int32 := ([0, 0, 0, 0, 0, 1, 0, 2] : List Int32).getD j 0
def tab2 (j : Nat) : Int32 := ([1, 8, 64, 1024] : List Int32).getD j 0
def kZ1 (n : String) (N : Nat) (f : Nat → Int32) (A : Nat → Prop) (t : Nat) (U : State) (H : Heap) : Prop := va_Z R_B n "[I" (.ref t) A U H ∧ va_T .int t N (fun j => .int (f j)) A U H
def kZ (A : Nat → Prop) (t : Nat → Nat) (U : State) : Prop := kZ1 "COPY_STARTS" 8 tab0 A (t 0) U U.heap ∧ kZ1 "STRETCH" 8 tab1 A (t 1) U U.heap ∧ kZ1 "INTERVALS" 4 tab2 A (t 2) U U.heap
theorem kZ_z0 {A : Nat → Prop} {t : Nat → Nat} {U : State} (h : kZ A t U) : va_Z R_B "COPY_STARTS" "[I" (.ref (t 0)) A U U.heap := h.1.1
theorem kZ_z1 {A : Nat → Prop} {t : Nat → Nat} {U : State} (h : kZ A t U) : va_Z R_B "STRETCH" "[I" (.ref (t 1)) A U U.heap := h.2.1.1
theorem kZ_z2 {A : Nat → Prop} {t : Nat → Nat} {U : State} (h : kZ A t U) : va_Z R_B "INTERVALS" "[I" (.ref (t 2)) A U U.heap := h.2.2.1
theorem kZ_t0 {A : Nat → Prop} {t : Nat → Nat} {U : State} (h : kZ A t U) : va_T .int (t 0) 8 (fun j => .int (tab0 j)) A U U.heap := h.1.2
theorem kZ_t1 {A : Nat → Prop} {t : Nat → Nat} {U : State} (h : kZ A t U) : va_T .int (t 1) 8 (fun j => .int (tab1 j)) A U U.heap := h.2.1.2
theorem kZ_t2 {A : Nat → Prop} {t : Nat → Nat} {U : State} (h : kZ A t U) : va_T .int (t 2) 4 (fun j => .int (tab2 j)) A U U.heap := h.2.2.2
theorem kZ1.at {n : String} {N t : Nat} {f : Nat → Int32} {A : Nat → Prop} {s U : State} {H0 H : Heap} (h : kZ1 n N f A t s H0) (hq : ∀ a : Nat, a < H0.size → ¬ A a → H[a]? = H0[a]?) (hvm : s.vm.Alike U.vm) : kZ1 n N f A t U H :=
  ⟨va_Z.moved hvm (h.1.kept hq), va_T.moved hvm (h.2.kept hq)⟩
theorem kZ.at {A : Nat → Prop} {t : Nat → Nat} {s U : State} {H : Heap} {locs : List Loc} (h : kZ A t s) (hS : va_S A s.heap H locs) (hU : U.heap = H) (hvm : s.vm.Alike U.vm) : kZ A t U := by
  subst hU
  exact ⟨h.1.at hS.2.1 hvm, h.2.1.at hS.2.1 hvm, h.2.2.at hS.2.1 hvm⟩
/-! what a method of the drawer finds -/
def bPre (D : va_G) (cA ad t : Nat → Nat) (σ : Nat → Nat → Int32) (U : State) : Prop := va_P D classes (bw cA ad σ) U.heap ∧ va_K D classes (kty cA) U ∧ kZ (kA 7 ad) t U
theorem bblind {D : va_G} {cA ad t : Nat → Nat} {σ : Nat → Nat → Int32} {av : List Value} : FrameBlind (va_Pc av (bPre D cA ad t σ)) := fun a U g mk q => by
  obtain ⟨q0, qP, qK, qZ⟩ := q
  exact ⟨q0, qP, va_K.moved (u := U) (U := U.calling g mk a) (Vm.Alike.refl U.vm) qK, kZ.at (U := U.calling g mk a) qZ (va_S.rf (A := kA 7 ad)) rfl (Vm.Alike.refl U.vm)⟩
section BPRE
variable {D : va_G} {cA ad t : Nat → Nat} {σ : Nat → Nat → Int32} {s : State} {H : Heap} {locs : List Loc} {As : List Value}
theorem bpreU (hK : va_K D classes (kty cA) s) (hP : va_P D classes (bw cA ad σ) H) (hZ : kZ (kA 7 ad) t s) (hS : va_S (kA 7 ad) s.heap H locs) : ∀ U : State, U.heap = H → s.WarmedH U.vm → bPre D cA ad t σ U :=
  fun U hU hW => ⟨by rw [hU]; exact hP, va_K.moved hW.alike hK, hZ.at hS hU hW.alike⟩
theorem bpreV (hK : va_K D classes (kty cA) s) (hP : va_P D classes (bw cA ad σ) H) (hZ : kZ (kA 7 ad) t s) (hS : va_S (kA 7 ad) s.heap H locs) : PreV s H R_B (ad 0) (va_Pc (.ref (ad 0) :: As) (bPre D cA ad t σ)) As :=
  ⟨bblind, va_recv (q0 := 0) (ci := 0) hK hP rfl rfl, fun U hU hW => ⟨rfl, bpreU hK hP hZ hS U hU hW⟩⟩
theorem bpreT (hK : va_K D classes (kty cA) s) (hP : va_P D classes (bw cA ad σ) H) (hZ : kZ (kA 7 ad) t s) (hS : va_S (kA 7 ad) s.heap H locs) : PreV s H R_T (ad 6) (va_Pc (.ref (ad 6) :: As) (bPre D cA ad t σ)) As :=
  ⟨bblind, va_recv (q0 := 6) (ci := 1) hK hP rfl rfl, fun U hU hW => ⟨rfl, bpreU hK hP hZ hS U hU hW⟩⟩
theorem bpreS (hK : va_K D classes (kty cA) s) (hP : va_P D classes (bw cA ad σ) H) (hZ : kZ (kA 7 ad) t s) (hS : va_S (kA 7 ad) s.heap H locs) : PreS s H (va_Pc As (bPre D cA ad t σ)) As :=
  ⟨bblind, fun U hU hW => ⟨rfl, bpreU hK hP hZ hS U hU hW⟩⟩
end BPRE
def mPre (D : va_G) (cA ad : Nat → Nat) (σ : Nat → Nat → Int32) (U : State) : Prop := va_P D classes (mw cA ad σ) U.heap ∧ va_K D classes (kty cA) U
theorem mblind {D : va_G} {cA ad : Nat → Nat} {σ : Nat → Nat → Int32} {av : List Value} : FrameBlind (va_Pc av (mPre D cA ad σ)) := fun a U g mk q => by
  obtain ⟨q0, qP, qK⟩ := q
  exact ⟨q0, qP, va_K.moved (u := U) (U := U.calling g mk a) (Vm.Alike.refl U.vm) qK⟩
section MPRE
variable {D : va_G} {cA ad : Nat → Nat} {σ : Nat → Nat → Int32} {s : State} {H : Heap} {As : List Value}
theorem mpreU (hK : va_K D classes (kty cA) s) (hP : va_P D classes (mw cA ad σ) H) : ∀ U : State, U.heap = H → s.WarmedH U.vm → mPre D cA ad σ U :=
  fun U hU hW => ⟨by rw [hU]; exact hP, va_K.moved hW.alike hK⟩
theorem mpreV (hK : va_K D classes (kty cA) s) (hP : va_P D classes (mw cA ad σ) H) : PreV s H R_M (ad 0) (va_Pc (.ref (ad 0) :: As) (mPre D cA ad σ)) As :=
  ⟨mblind, va_recv (q0 := 0) (ci := 2) hK hP rfl rfl, fun U hU hW => ⟨rfl, mpreU hK hP U hU hW⟩⟩
theorem mpreS (hK : va_K D classes (kty cA) s) (hP : va_P D classes (mw cA ad σ) H) : PreS s H (va_Pc As (mPre D cA ad σ)) As :=
  ⟨mblind, fun U hU hW => ⟨rfl, mpreU hK hP U hU hW⟩⟩
end MPRE
theorem kpreJ {s : State} {H : Heap} {As : List Value} : PreS s H (va_Pc As (fun _ => True)) As := ⟨fun _ _ _ _ q => q, fun _ _ _ => ⟨rfl, trivial⟩⟩
/-! indices -/
theorem kin7 (x : Int32) : vp_in (x &&& 7) 8 := pk_andIn x 3 (by decide) (by decide)
theorem kside2 {o : Int32} (h : vp_in o 6) (h2 : ¬ (2 : Int32) ≤ o) : o = 0 ∨ o = 1 := by
  obtain ⟨j, hj, rfl⟩ := vp_in_of h (by decide)
  have h3 : j < 2 := Nat.not_le.mp fun q => h2 (nI_le (a := 2) (b := j) q (by omega))
  rcases (show j = 0 ∨ j = 1 by omega) with rfl | rfl
  · exact Or.inl rfl
  · exact Or.inr rfl
theorem kside4 {o : Int32} (h : vp_in o 6) (h2 : (2 : Int32) ≤ o) (h4 : ¬ (4 : Int32) ≤ o) : o - 2 = 0 ∨ o - 2 = 1 := by
  obtain ⟨j, hj, rfl⟩ := vp_in_of h (by decide)
  have h3 : j < 4 := Nat.not_le.mp fun q => h4 (nI_le (a := 4) (b := j) q (by omega))
  have h5 : 2 ≤ j := Nat.not_lt.mp fun q => nI_ge (a := j) (b := 2) q (by omega) h2
  rcases (show j = 2 ∨ j = 3 by omega) with rfl | rfl
  · exact Or.inl rfl
  · exact Or.inr rfl
/-! numbers in range -/
theorem kle {a b : Int32} (h : ¬ a < b) : b ≤ a := by
  rw [Int32.le_iff_toInt_le]
  rw [Int32.lt_iff_toInt_lt] at h
  omega
theorem klt {a b : Int32} (h : ¬ a ≤ b) : b < a := by
  rw [Int32.lt_iff_toInt_lt]
  rw [Int32.le_iff_toInt_le] at h
  omega
theorem kR0 {r : Int32} {n : Nat} (hn : n < 2 ^ 31) (h1 : ¬ r < 0) (h2 : r < nI n) : ∃ j : Nat, j < n ∧ r = nI j := by
  obtain ⟨j, hj, rfl⟩ := nI_of h1
  exact ⟨j, (nI_ltI hj hn).mp h2, rfl⟩
theorem kRin {r : Int32} {n : Nat} (hn : n < 2 ^ 31) (h1 : ¬ r < 0) (h2 : r < nI n) : vp_in r n := by
  obtain ⟨j, hj, rfl⟩ := kR0 hn h1 h2
  exact vp_in_nI hj hn
theorem kinR {r : Int32} (h1 : ¬ r < 0) (h2 : r < (36 : Int32)) : vp_in r 36 := kRin (n := 36) (by decide) h1 h2
theorem kge {r : Int32} (_ : ¬ r < 0) (_ : r < (36 : Int32)) (h : ¬ r < (28 : Int32)) : (28 : Int32) ≤ r := kle h
theorem k28 {r : Int32} (h1 : vp_in r 36) (h2 : (28 : Int32) ≤ r) : ∃ j : Nat, j < 8 ∧ r = nI (28 + j) := by
  obtain ⟨j, hj, rfl⟩ := vp_in_of h1 (by decide)
  have h3 : 28 ≤ j := Nat.not_lt.mp fun q => nI_ge (a := j) (b := 28) q (by decide) h2
  exact ⟨j - 28, by omega, by rw [show 28 + (j - 28) = j by omega]⟩
theorem k28s (j : Nat) : nI (28 + j) - (28 : Int32) = nI j := by
  have h := pk_sub (a := 28 + j) (b := 28) (by omega)
  rw [show 28 + j - 28 = j by omega] at h
  exact h
theorem kin28 {r : Int32} (h1 : vp_in r 36) (h2 : (28 : Int32) ≤ r) (n3 : ¬ r = (33 : Int32)) (n4 : ¬ r = (34 : Int32)) (n5 : ¬ r = (35 : Int32)) : vp_in (r - 28) 5 := by
  obtain ⟨j, hj, rfl⟩ := k28 h1 h2
  rw [k28s]
  refine vp_in_nI ?_ (by decide)
  rcases (show j < 5 ∨ j = 5 ∨ j = 6 ∨ j = 7 by omega) with h | rfl | rfl | rfl
  · exact h
  · exact absurd rfl n3
  · exact absurd rfl n4
  · exact absurd rfl n5
theorem kin28m {r : Int32} (h1 : vp_in r 36) (h2 : (28 : Int32) ≤ r) (n3 : ¬ (33 : Int32) ≤ r) : vp_in (r - 28) 5 := by
  obtain ⟨j, hj, rfl⟩ := k28 h1 h2
  rw [k28s]
  exact vp_in_nI (Nat.not_le.mp fun q => n3 (nI_le (a := 33) (b := 28 + j) (by omega) (by omega))) (by decide)
theorem kin23 {i : Nat} (h : i < 5) : vp_in ((23 : Int32) + nI i) 36 := by
  show vp_in (nI 23 + nI i) 36
  rw [nI_add]
  exact vp_in_nI (by omega) (by decide)
theorem kin23m {i : Nat} (h : i < 5) : vp_in ((23 : Int32) + nI i) 28 := by
  show vp_in (nI 23 + nI i) 28
  rw [nI_add]
  exact vp_in_nI (by omega) (by decide)
theorem kdead6 {w : Int32} (h : vp_in w 6) (n0 : ¬ w = (0 : Int32)) (n1 : ¬ w = (1 : Int32)) (n2 : ¬ w = (2 : Int32)) (n3 : ¬ w = (3 : Int32)) (n4 : ¬ w = (4 : Int32)) (n5 : ¬ w = (5 : Int32)) : False := by
  obtain ⟨j, hj, rfl⟩ := vp_in_of h (by decide)
  rcases (show j = 0 ∨ j = 1 ∨ j = 2 ∨ j = 3 ∨ j = 4 ∨ j = 5 by omega) with rfl | rfl | rfl | rfl | rfl | rfl
  · exact n0 rfl
  · exact n1 rfl
  · exact n2 rfl
  · exact n3 rfl
  · exact n4 rfl
  · exact n5 rfl
theorem kdiv6 {i : Nat} (h : i < 36) : vp_in (nI i / (6 : Int32)) 6 := by
  have e : nI i / nI 6 = nI (i / 6) := pk_div (by omega) (by decide) (by decide)
  show vp_in (nI i / nI 6) 6
  rw [e]
  exact vp_in_nI (by omega) (by decide)
theorem krem6 {i : Nat} (h : i < 36) : vp_in (nI i - nI i / (6 : Int32) * (6 : Int32)) 6 := by
  have e : nI i - nI i / nI 6 * nI 6 = nI (i % 6) := pk_rem (by omega) (by decide) (by decide)
  show vp_in (nI i - nI i / nI 6 * nI 6) 6
  rw [e]
  exact vp_in_nI (by omega) (by decide)
theorem kwr28 {r : Int32} (h : ¬ r < 0 ∧ ¬ (35 : Int32) < r) (h2 : r ≤ (27 : Int32)) : vp_in r 28 := by
  obtain ⟨j, hj, rfl⟩ := nI_of h.1
  exact vp_in_nI (Nat.lt_succ_of_le ((nI_leI (a := j) (b := 27) hj (by decide)).mp h2)) (by decide)
theorem kwr36 {r : Int32} (h : ¬ r < 0 ∧ ¬ (35 : Int32) < r) : vp_in r 36 := by
  obtain ⟨j, hj, rfl⟩ := nI_of h.1
  exact vp_in_nI (Nat.lt_succ_of_le (Nat.not_lt.mp fun q => h.2 ((nI_ltI (a := 35) (b := j) (by decide) hj).mpr q))) (by decide)
theorem kwr27 {r : Int32} (h : ¬ r ≤ (27 : Int32)) : (28 : Int32) ≤ r := by
  rw [Int32.le_iff_toInt_le] at h ⊢
  have e1 : (27 : Int32).toInt = 27 := by decide
  have e2 : (28 : Int32).toInt = 28 := by decide
  omega
theorem kwr21 {r : Int32} (h : r = (21 : Int32)) : r - (21 : Int32) = 0 ∨ r - (21 : Int32) = 1 := Or.inl (by rw [h]; rfl)
theorem kwr22 {r : Int32} (h : r = (22 : Int32)) : r - (21 : Int32) = 0 ∨ r - (21 : Int32) = 1 := Or.inr (by rw [h]; rfl)
theorem kgo_place {o : Int32} (h1 : ¬ o < 0) (h2 : ¬ (5 : Int32) ≤ o) : vp_in o 5 := kRin (n := 5) (by decide) h1 (klt h2)
theorem kgo_place6 {o : Int32} (h1 : ¬ o < 0) (h2 : ¬ (6 : Int32) ≤ o) : vp_in o 6 := kRin (n := 6) (by decide) h1 (klt h2)
theorem kgo_met {a o : Int32} (h1 : ¬ a < 0) (h2 : ¬ (6 : Int32) ≤ a) (h3 : ¬ o < 0) (h4 : ¬ (6 : Int32) ≤ o) : vp_in ((6 : Int32) * a + o) 36 := by
  obtain ⟨i, hi, rfl⟩ := kR0 (n := 6) (by decide) h1 (klt h2)
  obtain ⟨j, hj, rfl⟩ := kR0 (n := 6) (by decide) h3 (klt h4)
  show vp_in (nI 6 * nI i + nI j) 36
  rw [pk_mul, nI_add]
  exact vp_in_nI (by omega) (by decide)
theorem k68 {x : Int32} (h : vp_in x 228) (h2 : ¬ x < (68 : Int32)) : vp_in (x - (68 : Int32)) 160 := by
  obtain ⟨j, hj, rfl⟩ := vp_in_of h (by decide)
  have h3 : 68 ≤ j := Nat.not_lt.mp fun q => h2 (nI_lt (a := j) (b := 68) q (by decide))
  have e : nI j - nI 68 = nI (j - 68) := pk_sub h3
  show vp_in (nI j - nI 68) 160
  rw [e]
  exact vp_in_nI (by omega) (by decide)
theorem k228 {x : Int32} (h : vp_in x 228) (h2 : ¬ x + (1 : Int32) = (228 : Int32)) : vp_in (x + (1 : Int32)) 228 := by
  obtain ⟨j, hj, rfl⟩ := vp_in_of h (by decide)
  rw [nI_1] at h2 ⊢
  refine vp_in_nI ?_ (by decide)
  rcases (show j + 1 < 228 ∨ j = 227 by omega) with h | rfl
  · exact h
  · exact absurd rfl h2
def kClk (σ : Nat → Nat → Int32) : Prop := vp_in (σ 5 1) 228
theorem kClk_x {σ : Nat → Nat → Int32} (hk : kClk σ) (h : ¬ (σ 5 1) < (68 : Int32)) : vp_in ((σ 5 1) - (68 : Int32)) 160 := k68 hk h
def mClk (σ : Nat → Nat → Int32) : Prop := vp_in (σ 7 3) 228
theorem mClk_x {σ : Nat → Nat → Int32} (hk : mClk σ) (h : ¬ (σ 7 3) < (68 : Int32)) : vp_in ((σ 7 3) - (68 : Int32)) 160 := k68 hk h
