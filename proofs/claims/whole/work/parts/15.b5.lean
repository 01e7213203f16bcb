def f_J_rangeCheck : Int32 := (0 : Int32)

set_option maxRecDepth 100000 in
set_option maxHeartbeats 4000000 in
theorem c_J_rangeCheck (l : Launch) : Met l y_JA_rangeCheck w_JA_rangeCheck ({ frames := 0, cells := 0, slots := 0, locals := 0 } : Room) (va_Pc [.int (36 : Int32), .int (23 : Int32), .int (28 : Int32)] (fun _ => True)) (va_Sv (fun _ => True)) 0 0 (fun _ => False) := by
  refine va_MetF (cc := b_JA_rangeCheck) (maxL := 3) (ret := none) (by decide +kernel) rfl ?_
  intro p e s m args below meth c s₁ B hml hv
  obtain ⟨rfl, -⟩ := hv
  have hx := B.exec
  have hb := B.bytes
  have hr := B.returns
  have hlocks := B.notSynchronized
  have hT : ∀ w ∈ TB, w.before ([.int (36 : Int32), .int (23 : Int32), .int (28 : Int32)] : List Value).toArray s = true := fun w h => atoms_spec (ws := w_JA_rangeCheck) B.pre w (List.mem_cons_of_mem _ h)
  have hown : s.vm.findClass R_JA = some m.cls := findClass_of_methodNamed B.named
  have hS : va_S (fun _ => False) s.heap s.heap [] := va_S.rf
  have hl := lv_entry ([.int (36 : Int32), .int (23 : Int32), .int (28 : Int32)]) (n := 3) (Nat.le_of_ble_eq_true rfl)
  rw [lg_entry_eq]
  generalize (lg_sl ([.int (36 : Int32), .int (23 : Int32), .int (28 : Int32)]) ++ List.replicate (3 - (lg_sl ([.int (36 : Int32), .int (23 : Int32), .int (28 : Int32)])).length) Slot.unset).toArray = ls at hl ⊢
  have hl : lv_has ls 3 [(0, .int (36 : Int32)), (1, .int (23 : Int32)), (2, .int (28 : Int32))] := hl
  refine lv_iload_n hx hb d_JA_rangeCheck_0 rfl (lv_at hl 1 rfl) ?_
  refine lv_iload_n hx hb d_JA_rangeCheck_1 rfl (lv_at hl 2 rfl) ?_
  refine lv_icmp_le (tgt := 46) hx hb d_JA_rangeCheck_2 (by decide) (fun _ => ?_) (fun h9 => absurd (by decide) h9)
  refine lv_iload_n hx hb d_JA_rangeCheck_46 rfl (lv_at hl 1 rfl) ?_
  refine lv_if_ge (tgt := 59) hx hb d_JA_rangeCheck_47 (by decide) (fun _ => ?_) (fun h9 => absurd (by decide) h9)
  refine lv_iload_n hx hb d_JA_rangeCheck_59 rfl (lv_at hl 2 rfl) ?_
  refine lv_iload_n hx hb d_JA_rangeCheck_60 rfl (lv_at hl 0 rfl) ?_
  refine lv_icmp_le (tgt := 73) hx hb d_JA_rangeCheck_61 (by decide) (fun _ => ?_) (fun h9 => absurd (by decide) h9)
  exact W.vret hx hb hr (fun t ht hW => ⟨rfl, trivial, ht⟩) (fun _ h => absurd h List.not_mem_nil) d_JA_rangeCheck_73

def f_J_fill4_lp10 (σ : Nat → Nat → Int32) : Nat → Int32 → (Nat → Nat → Int32) → (Nat → Nat → Int32)
  | 0, i, σ1 => σ1
  | n + 1, i, σ1 => (f_J_fill4_lp10 σ n (i + 1) (kup σ1 0 (i).toNatClampNeg (0 : Int32)))
theorem f_J_fill4_lp10_z (σ : Nat → Nat → Int32) (i : Int32) (σ1 : Nat → Nat → Int32) : f_J_fill4_lp10 σ 0 i σ1 = σ1 := rfl
theorem f_J_fill4_lp10_s (σ : Nat → Nat → Int32) (n : Nat) (i : Int32) (σ1 : Nat → Nat → Int32) : f_J_fill4_lp10 σ (n + 1) i σ1 = (f_J_fill4_lp10 σ n (i + 1) (kup σ1 0 (i).toNatClampNeg (0 : Int32))) := rfl

def f_J_fill4 (σ : Nat → Nat → Int32) : (Nat → Nat → Int32) := (f_J_fill4_lp10 σ 5 (23 : Int32) σ)

set_option maxRecDepth 100000 in
set_option maxHeartbeats 4000000 in
theorem c_J_fill4 (l : Launch) (D : va_G) (cA ad t : Nat → Nat) (hap : kap 7 ad) (σ : Nat → Nat → Int32) : Met l y_JA_fill4 w_JA_fill4 ({ frames := 1, cells := 0, slots := 0, locals := 22 } : Room) (va_Pc [.ref (ad 1), .int (23 : Int32), .int (28 : Int32), .int (0 : Int32)] (bPre D cA ad t σ)) (kQv D (bw cA ad (f_J_fill4 σ)) (kA 7 ad)) 0 0 (kA 7 ad) := by
  refine va_MetF (cc := b_JA_fill4) (maxL := 5) (ret := none) (by decide +kernel) rfl ?_
  intro p e s m args below meth c s₁ B hml hv
  obtain ⟨rfl, hv⟩ := hv
  obtain ⟨hP, hK, hZ⟩ := hv
  have hx := B.exec
  have hb := B.bytes
  have hr := B.returns
  have hlocks := B.notSynchronized
  have hT : ∀ w ∈ TB, w.before ([.ref (ad 1), .int (23 : Int32), .int (28 : Int32), .int (0 : Int32)] : List Value).toArray s = true := fun w h => atoms_spec (ws := w_JA_fill4) B.pre w (List.mem_cons_of_mem _ h)
  have hown : s.vm.findClass R_JA = some m.cls := findClass_of_methodNamed B.named
  have hS : va_S (kA 7 ad) s.heap s.heap [] := va_S.rf
  have hD : ∀ σ, va_D (kA 7 ad) (bw cA ad σ) := fun σ => kD hap rfl
  have hl := lv_entry ([.ref (ad 1), .int (23 : Int32), .int (28 : Int32), .int (0 : Int32)]) (n := 5) (Nat.le_of_ble_eq_true rfl)
  rw [lg_entry_eq]
  generalize (lg_sl ([.ref (ad 1), .int (23 : Int32), .int (28 : Int32), .int (0 : Int32)]) ++ List.replicate (5 - (lg_sl ([.ref (ad 1), .int (23 : Int32), .int (28 : Int32), .int (0 : Int32)])).length) Slot.unset).toArray = ls at hl ⊢
  have hl : lv_has ls 5 [(0, .ref (ad 1)), (1, .int (23 : Int32)), (2, .int (28 : Int32)), (3, .int (0 : Int32))] := hl
  have loop10 : ∀ (n i : Nat) (σ1 : Nat → Nat → Int32) (H : Heap) (locs : List Loc) (ls : Array Slot), i + n = 28 → lv_has ls 5 [(4, .int (nI i)), (0, .ref (ad 1)), (1, .int (23 : Int32)), (2, .int (28 : Int32)), (3, .int (0 : Int32))] → va_P D classes (bw cA ad σ1) H → va_S (kA 7 ad) s.heap H locs → f_J_fill4_lp10 σ n (nI i) σ1 = f_J_fill4 σ → W p l e (headSpec w_JA_fill4 ({ frames := 1, cells := 0, slots := 0, locals := 22 } : Room)).room s m ([.ref (ad 1), .int (23 : Int32), .int (28 : Int32), .int (0 : Int32)] : List Value).toArray below meth c H locs 0 0 (MQ below (kQv D (bw cA ad (f_J_fill4 σ)) (kA 7 ad)) ([.ref (ad 1), .int (23 : Int32), .int (28 : Int32), .int (0 : Int32)] : List Value).toArray s 0 0 (kA 7 ad)) (F0 m 10 ls []) := by
    intro n
    induction n with
    | zero =>
      intro i σ1 H locs ls hi hl hP hS hg
      refine lv_iload hx hb d_JA_fill4_10 (lv_at hl 0 rfl) ?_
      refine lv_iload_n hx hb d_JA_fill4_12 rfl (lv_at hl 3 rfl) ?_
      refine lv_icmp_ge (tgt := 27) hx hb d_JA_fill4_13 (by decide) (fun _ => ?_) (fun h9 => absurd (nI_le (a := 28) (b := i) (by omega) (by omega)) h9)
      have e9 : σ1 = f_J_fill4 σ := by rw [← hg, f_J_fill4_lp10_z]
      exact W.vret hx hb hr (fun t ht hW => ⟨rfl, by rw [ht, ← e9]; exact hP, hS.F ht⟩) hS.2.2 d_JA_fill4_27
    | succ n ih =>
      intro i σ1 H locs ls hi hl hP hS hg
      refine lv_iload hx hb d_JA_fill4_10 (lv_at hl 0 rfl) ?_
      refine lv_iload_n hx hb d_JA_fill4_12 rfl (lv_at hl 3 rfl) ?_
      refine lv_icmp_ge (tgt := 27) hx hb d_JA_fill4_13 (by decide) (fun h9 => absurd h9 (nI_ge (a := i) (b := 28) (by omega) (by decide))) (fun _ => ?_)
      refine lv_aload_n hx hb d_JA_fill4_16 rfl (lv_at hl 1 rfl) ?_
      refine lv_iload hx hb d_JA_fill4_17 (lv_at hl 0 rfl) ?_
      refine lv_iload_n hx hb d_JA_fill4_19 rfl (lv_at hl 4 rfl) ?_
      refine va_iast (A := (kA 7 ad)) hx hb hK hP (hD _) hS 1 0 rfl rfl (by first | assumption | exact kin (by decide) | exact vp_in_nI (by omega) (by decide)) d_JA_fill4_20 (fun H locs hP _ hS => ?_)
      have hP := kst (bw_s1 cA ad σ1 ((nI i)).toNatClampNeg (0 : Int32)) hP
      refine lv_iinc (v := (nI (i + 1))) (lv' := [(4, .int (nI (i + 1))), (0, .ref (ad 1)), (1, .int (23 : Int32)), (2, .int (28 : Int32)), (3, .int (0 : Int32))]) hx hb d_JA_fill4_21 hl (k := 0) rfl (by rw [nI_succ]; rfl) (by decide) rfl (fun ls hl => ?_)
      refine lv_goto (tgt := 10) hx hb d_JA_fill4_24 (by decide) ?_
      exact ih (i + 1) (kup σ1 0 ((nI i)).toNatClampNeg (0 : Int32)) H locs ls (by omega) (lv_sub hl [0, 1, 2, 3, 4] rfl) hP hS (by rw [← hg, f_J_fill4_lp10_s, nI_succ])
  refine lv_aload_n hx hb d_JA_fill4_0 rfl (lv_at hl 0 rfl) ?_
  refine va_alen (v := (36 : Int32)) hx hb hK hP 1 0 rfl rfl rfl d_JA_fill4_1 ?_
  refine lv_iload_n hx hb d_JA_fill4_2 rfl (lv_at hl 1 rfl) ?_
  refine lv_iload_n hx hb d_JA_fill4_3 rfl (lv_at hl 2 rfl) ?_
  refine va_csv (va_Run.run (va_runS (As := [.int (36 : Int32), .int (23 : Int32), .int (28 : Int32)]) (rest := []) ⟨hx, hb, hml, hown, hT⟩ (c_J_rangeCheck l) (kCS 3 hT ml_JA_13 ms_JA_rangeCheck ⟨Nat.le_of_ble_eq_true rfl, Nat.le_of_ble_eq_true rfl⟩) (kpreJ) rfl rfl hl.1 rfl (lv_room (Nat.le_of_ble_eq_true rfl)) d_JA_fill4_4 ⟨Nat.le_of_ble_eq_true rfl, Nat.le_of_ble_eq_true rfl⟩)) (fun _ => ?_)
  refine lv_iload_n hx hb d_JA_fill4_7 rfl (lv_at hl 1 rfl) ?_
  refine lv_istore (lv' := [(4, .int (23 : Int32)), (0, .ref (ad 1)), (1, .int (23 : Int32)), (2, .int (28 : Int32)), (3, .int (0 : Int32))]) hx hb d_JA_fill4_8 hl (by decide) rfl (fun ls hl => ?_)
  exact loop10 5 23 σ s.heap [] ls rfl (lv_sub hl [0, 1, 2, 3, 4] rfl) hP hS (by rw [f_J_fill4]; rfl)

def f_J_fill2_lp5 (σ : Nat → Nat → Int32) : Nat → Int32 → (Nat → Nat → Int32) → (Nat → Nat → Int32)
  | 0, i, σ1 => σ1
  | n + 1, i, σ1 => (f_J_fill2_lp5 σ n (i + 1) (kup σ1 4 (i).toNatClampNeg (0 : Int32)))
theorem f_J_fill2_lp5_z (σ : Nat → Nat → Int32) (i : Int32) (σ1 : Nat → Nat → Int32) : f_J_fill2_lp5 σ 0 i σ1 = σ1 := rfl
theorem f_J_fill2_lp5_s (σ : Nat → Nat → Int32) (n : Nat) (i : Int32) (σ1 : Nat → Nat → Int32) : f_J_fill2_lp5 σ (n + 1) i σ1 = (f_J_fill2_lp5 σ n (i + 1) (kup σ1 4 (i).toNatClampNeg (0 : Int32))) := rfl

def f_J_fill2 (σ : Nat → Nat → Int32) : (Nat → Nat → Int32) := (f_J_fill2_lp5 σ 6 (0 : Int32) σ)

set_option maxRecDepth 100000 in
set_option maxHeartbeats 4000000 in
theorem c_J_fill2 (l : Launch) (D : va_G) (cA ad t : Nat → Nat) (hap : kap 7 ad) (σ : Nat → Nat → Int32) : Met l y_JA_fill2 w_JA_fill2 ({ frames := 0, cells := 0, slots := 0, locals := 0 } : Room) (va_Pc [.ref (ad 5), .int (0 : Int32)] (bPre D cA ad t σ)) (kQv D (bw cA ad (f_J_fill2 σ)) (kA 7 ad)) 0 0 (kA 7 ad) := by
  refine va_MetF (cc := b_JA_fill2) (maxL := 4) (ret := none) (by decide +kernel) rfl ?_
  intro p e s m args below meth c s₁ B hml hv
  obtain ⟨rfl, hv⟩ := hv
  obtain ⟨hP, hK, hZ⟩ := hv
  have hx := B.exec
  have hb := B.bytes
  have hr := B.returns
  have hlocks := B.notSynchronized
  have hT : ∀ w ∈ TB, w.before ([.ref (ad 5), .int (0 : Int32)] : List Value).toArray s = true := fun w h => atoms_spec (ws := w_JA_fill2) B.pre w (List.mem_cons_of_mem _ h)
  have hown : s.vm.findClass R_JA = some m.cls := findClass_of_methodNamed B.named
  have hS : va_S (kA 7 ad) s.heap s.heap [] := va_S.rf
  have hD : ∀ σ, va_D (kA 7 ad) (bw cA ad σ) := fun σ => kD hap rfl
  have hl := lv_entry ([.ref (ad 5), .int (0 : Int32)]) (n := 4) (Nat.le_of_ble_eq_true rfl)
  rw [lg_entry_eq]
  generalize (lg_sl ([.ref (ad 5), .int (0 : Int32)]) ++ List.replicate (4 - (lg_sl ([.ref (ad 5), .int (0 : Int32)])).length) Slot.unset).toArray = ls at hl ⊢
  have hl : lv_has ls 4 [(0, .ref (ad 5)), (1, .int (0 : Int32))] := hl
  have loop5 : ∀ (n i : Nat) (σ1 : Nat → Nat → Int32) (H : Heap) (locs : List Loc) (ls : Array Slot), i + n = 6 → lv_has ls 4 [(3, .int (6 : Int32)), (2, .int (nI i)), (0, .ref (ad 5)), (1, .int (0 : Int32))] → va_P D classes (bw cA ad σ1) H → va_S (kA 7 ad) s.heap H locs → f_J_fill2_lp5 σ n (nI i) σ1 = f_J_fill2 σ → W p l e (headSpec w_JA_fill2 ({ frames := 0, cells := 0, slots := 0, locals := 0 } : Room)).room s m ([.ref (ad 5), .int (0 : Int32)] : List Value).toArray below meth c H locs 0 0 (MQ below (kQv D (bw cA ad (f_J_fill2 σ)) (kA 7 ad)) ([.ref (ad 5), .int (0 : Int32)] : List Value).toArray s 0 0 (kA 7 ad)) (F0 m 5 ls []) := by
    intro n
    induction n with
    | zero =>
      intro i σ1 H locs ls hi hl hP hS hg
      refine lv_iload_n hx hb d_JA_fill2_5 rfl (lv_at hl 1 rfl) ?_
      refine lv_iload_n hx hb d_JA_fill2_6 rfl (lv_at hl 0 rfl) ?_
      refine lv_icmp_ge (tgt := 20) hx hb d_JA_fill2_7 (by decide) (fun _ => ?_) (fun h9 => absurd (nI_le (a := 6) (b := i) (by omega) (by omega)) h9)
      have e9 : σ1 = f_J_fill2 σ := by rw [← hg, f_J_fill2_lp5_z]
      exact W.vret hx hb hr (fun t ht hW => ⟨rfl, by rw [ht, ← e9]; exact hP, hS.F ht⟩) hS.2.2 d_JA_fill2_20
    | succ n ih =>
      intro i σ1 H locs ls hi hl hP hS hg
      refine lv_iload_n hx hb d_JA_fill2_5 rfl (lv_at hl 1 rfl) ?_
      refine lv_iload_n hx hb d_JA_fill2_6 rfl (lv_at hl 0 rfl) ?_
      refine lv_icmp_ge (tgt := 20) hx hb d_JA_fill2_7 (by decide) (fun h9 => absurd h9 (nI_ge (a := i) (b := 6) (by omega) (by decide))) (fun _ => ?_)
      refine lv_aload_n hx hb d_JA_fill2_10 rfl (lv_at hl 2 rfl) ?_
      refine lv_iload_n hx hb d_JA_fill2_11 rfl (lv_at hl 1 rfl) ?_
      refine lv_iload_n hx hb d_JA_fill2_12 rfl (lv_at hl 3 rfl) ?_
      refine va_iast (A := (kA 7 ad)) hx hb hK hP (hD _) hS 5 0 rfl rfl (by first | assumption | exact kin (by decide) | exact vp_in_nI (by omega) (by decide)) d_JA_fill2_13 (fun H locs hP _ hS => ?_)
      have hP := kst (bw_s5 cA ad σ1 ((nI i)).toNatClampNeg (0 : Int32)) hP
      refine lv_iinc (v := (nI (i + 1))) (lv' := [(2, .int (nI (i + 1))), (3, .int (6 : Int32)), (0, .ref (ad 5)), (1, .int (0 : Int32))]) hx hb d_JA_fill2_14 hl (k := 1) rfl (by rw [nI_succ]; rfl) (by decide) rfl (fun ls hl => ?_)
      refine lv_goto (tgt := 5) hx hb d_JA_fill2_17 (by decide) ?_
      exact ih (i + 1) (kup σ1 4 ((nI i)).toNatClampNeg (0 : Int32)) H locs ls (by omega) (lv_sub hl [1, 0, 2, 3] rfl) hP hS (by rw [← hg, f_J_fill2_lp5_s, nI_succ])
  refine lv_iconst (v := (0 : Int32)) hx hb d_JA_fill2_0 (by decide) ?_
  refine lv_istore_n (lv' := [(2, .int (0 : Int32)), (0, .ref (ad 5)), (1, .int (0 : Int32))]) hx hb d_JA_fill2_1 rfl hl (by decide) rfl (fun ls hl => ?_)
  refine lv_aload_n hx hb d_JA_fill2_2 rfl (lv_at hl 1 rfl) ?_
  refine va_alen (v := (6 : Int32)) hx hb hK hP 5 0 rfl rfl rfl d_JA_fill2_3 ?_
  refine lv_istore_n (lv' := [(3, .int (6 : Int32)), (2, .int (0 : Int32)), (0, .ref (ad 5)), (1, .int (0 : Int32))]) hx hb d_JA_fill2_4 rfl hl (by decide) rfl (fun ls hl => ?_)
  exact loop5 6 0 σ s.heap [] ls rfl (lv_sub hl [0, 1, 2, 3] rfl) hP hS (by rw [f_J_fill2]; rfl)

def f_T_start (σ : Nat → Nat → Int32) (cy : Int32) (v : Int32) : (Nat → Nat → Int32) := (kup (kup (kup (kup σ 5 4 v) 5 7 (0 : Int32)) 5 5 cy) 5 6 (cy * (3 : Int32)))

set_option maxRecDepth 100000 in
set_option maxHeartbeats 4000000 in
theorem c_T_start (l : Launch) (D : va_G) (cA ad t : Nat → Nat) (hap : kap 7 ad) (σ : Nat → Nat → Int32) (cy : Int32) (v : Int32) : Met l y_T_start w_T_start ({ frames := 0, cells := 0, slots := 0, locals := 0 } : Room) (va_Pc [.ref (ad 6), .int cy, .int v] (bPre D cA ad t σ)) (kQv D (bw cA ad (f_T_start σ cy v)) (kA 7 ad)) 0 0 (kA 7 ad) := by
  refine Met.ofW (cc := b_T_start) (maxL := 3) (ret := none) (by decide) rfl ?_
  intro p e s m args below meth c s₁ B hml hv
  obtain ⟨rfl, hv⟩ := hv
  obtain ⟨hP, hK, hZ⟩ := hv
  have hx := B.exec
  have hb := B.bytes
  have hr := B.returns
  have hlocks := B.notSynchronized
  have hT : ∀ w ∈ TB, w.before ([.ref (ad 6), .int cy, .int v] : List Value).toArray s = true := fun w h => atoms_spec (ws := w_T_start) B.pre w (List.mem_cons_of_mem _ h)
  have hown : s.vm.findClass R_T = some m.cls := findClass_of_methodNamed B.named
  have hS : va_S (kA 7 ad) s.heap s.heap [] := va_S.rf
  have hD : ∀ σ, va_D (kA 7 ad) (bw cA ad σ) := fun σ => kD hap rfl
  have hl := lv_entry ([.ref (ad 6), .int cy, .int v]) (n := 3) (Nat.le_of_ble_eq_true rfl)
  rw [lg_entry_eq]
  generalize (lg_sl ([.ref (ad 6), .int cy, .int v]) ++ List.replicate (3 - (lg_sl ([.ref (ad 6), .int cy, .int v])).length) Slot.unset).toArray = ls at hl ⊢
  have hl : lv_has ls 3 [(0, .ref (ad 6)), (1, .int cy), (2, .int v)] := hl
  refine lv_aload_n hx hb d_T_start_0 rfl (lv_at hl 0 rfl) ?_
  refine lv_iload_n hx hb d_T_start_1 rfl (lv_at hl 2 rfl) ?_
  refine va_put (A := (kA 7 ad)) (D := D) (ci := 1) (v := .int v) (ty := .int) (C := R_T) (T := F_T) (N := 4) hx hb hT in_T ft_T ft_T_ok n_T hown hK hP (hD _) hS 6 rfl rfl 0 (by decide) (hT _ fl_T_18) (fun _ h9 => h9) rfl (by decide +kernel) rfl rfl (Nat.le_of_ble_eq_true rfl) d_T_start_2 (fun H locs hP _ hS => ?_)
  have hP := kst (bw_p6_0 cA ad σ v) hP
  refine lv_aload_n hx hb d_T_start_5 rfl (lv_at hl 0 rfl) ?_
  refine lv_iconst (v := (0 : Int32)) hx hb d_T_start_6 (by decide) ?_
  refine va_put (A := (kA 7 ad)) (D := D) (ci := 1) (v := .int (0 : Int32)) (ty := .boolean) (C := R_T) (T := F_T) (N := 4) hx hb hT in_T ft_T ft_T_ok n_T hown hK hP (hD _) hS 6 rfl rfl 3 (by decide) (hT _ fl_T_21) (fun _ h9 => h9) rfl (by decide +kernel) (by decide) (by decide) (Nat.le_of_ble_eq_true rfl) d_T_start_7 (fun H locs hP _ hS => ?_)
  have hP := kst (bw_p6_3 cA ad (kup σ 5 4 v) (0 : Int32)) hP
  refine lv_aload_n hx hb d_T_start_10 rfl (lv_at hl 0 rfl) ?_
  refine lv_iload_n hx hb d_T_start_11 rfl (lv_at hl 1 rfl) ?_
  refine va_put (A := (kA 7 ad)) (D := D) (ci := 1) (v := .int cy) (ty := .int) (C := R_T) (T := F_T) (N := 4) hx hb hT in_T ft_T ft_T_ok n_T hown hK hP (hD _) hS 6 rfl rfl 1 (by decide) (hT _ fl_T_9) (fun _ h9 => h9) rfl (by decide +kernel) rfl rfl (Nat.le_of_ble_eq_true rfl) d_T_start_12 (fun H locs hP _ hS => ?_)
  have hP := kst (bw_p6_1 cA ad (kup (kup σ 5 4 v) 5 7 (0 : Int32)) cy) hP
  refine lv_aload_n hx hb d_T_start_15 rfl (lv_at hl 0 rfl) ?_
  refine lv_iload_n hx hb d_T_start_16 rfl (lv_at hl 1 rfl) ?_
  refine lv_iconst (v := (3 : Int32)) hx hb d_T_start_17 (by decide) ?_
  refine lv_imul hx hb d_T_start_18 ?_
  refine va_put (A := (kA 7 ad)) (D := D) (ci := 1) (v := .int (cy * (3 : Int32))) (ty := .int) (C := R_T) (T := F_T) (N := 4) hx hb hT in_T ft_T ft_T_ok n_T hown hK hP (hD _) hS 6 rfl rfl 2 (by decide) (hT _ fl_T_15) (fun _ h9 => h9) rfl (by decide +kernel) rfl rfl (Nat.le_of_ble_eq_true rfl) d_T_start_19 (fun H locs hP _ hS => ?_)
  have hP := kst (bw_p6_2 cA ad (kup (kup (kup σ 5 4 v) 5 7 (0 : Int32)) 5 5 cy) (cy * (3 : Int32))) hP
  have e9 : (kup (kup (kup (kup σ 5 4 v) 5 7 (0 : Int32)) 5 5 cy) 5 6 (cy * (3 : Int32))) = f_T_start σ cy v := by rw [f_T_start]
  exact W.vret hx hb hr (fun t ht hW => ⟨rfl, by rw [ht, ← e9]; exact hP, hS.F ht⟩) hS.2.2 d_T_start_22

def f_T_tick (σ : Nat → Nat → Int32) : (Nat → Nat → Int32) := (if ((σ 5 6) - (1 : Int32)) ≤ 0 then (if 0 ≤ (((kup σ 5 6 ((σ 5 6) - (1 : Int32))) 5 4) - (1 : Int32)) then (kup (kup (kup σ 5 6 ((σ 5 6) - (1 : Int32))) 5 4 (((kup σ 5 6 ((σ 5 6) - (1 : Int32))) 5 4) - (1 : Int32))) 5 6 (((kup (kup σ 5 6 ((σ 5 6) - (1 : Int32))) 5 4 (((kup σ 5 6 ((σ 5 6) - (1 : Int32))) 5 4) - (1 : Int32))) 5 5) * (3 : Int32))) else (kup (kup (kup (kup (kup (kup σ 5 6 ((σ 5 6) - (1 : Int32))) 5 4 (((kup σ 5 6 ((σ 5 6) - (1 : Int32))) 5 4) - (1 : Int32))) 5 4 (255 : Int32)) 5 7 (1 : Int32)) 5 5 (1 : Int32)) 5 6 ((1 : Int32) * (3 : Int32)))) else (kup σ 5 6 ((σ 5 6) - (1 : Int32))))

set_option maxRecDepth 100000 in
set_option maxHeartbeats 4000000 in
theorem c_T_tick (l : Launch) (D : va_G) (cA ad t : Nat → Nat) (hap : kap 7 ad) (σ : Nat → Nat → Int32) : Met l y_T_tick w_T_tick ({ frames := 0, cells := 0, slots := 0, locals := 0 } : Room) (va_Pc [.ref (ad 6)] (bPre D cA ad t σ)) (kQv D (bw cA ad (f_T_tick σ)) (kA 7 ad)) 0 0 (kA 7 ad) := by
  refine Met.ofW (cc := b_T_tick) (maxL := 1) (ret := none) (by decide) rfl ?_
  intro p e s m args below meth c s₁ B hml hv
  obtain ⟨rfl, hv⟩ := hv
  obtain ⟨hP, hK, hZ⟩ := hv
  have hx := B.exec
  have hb := B.bytes
  have hr := B.returns
  have hlocks := B.notSynchronized
  have hT : ∀ w ∈ TB, w.before ([.ref (ad 6)] : List Value).toArray s = true := fun w h => atoms_spec (ws := w_T_tick) B.pre w (List.mem_cons_of_mem _ h)
  have hown : s.vm.findClass R_T = some m.cls := findClass_of_methodNamed B.named
  have hS : va_S (kA 7 ad) s.heap s.heap [] := va_S.rf
  have hD : ∀ σ, va_D (kA 7 ad) (bw cA ad σ) := fun σ => kD hap rfl
  have hl := lv_entry ([.ref (ad 6)]) (n := 1) (Nat.le_of_ble_eq_true rfl)
  rw [lg_entry_eq]
  generalize (lg_sl ([.ref (ad 6)]) ++ List.replicate (1 - (lg_sl ([.ref (ad 6)])).length) Slot.unset).toArray = ls at hl ⊢
  have hl : lv_has ls 1 [(0, .ref (ad 6))] := hl
  refine lv_aload_n hx hb d_T_tick_0 rfl (lv_at hl 0 rfl) ?_
  refine lv_dup hx hb d_T_tick_1 rfl ?_
  refine va_get (D := D) (ci := 1) (v := .int (σ 5 6)) (C := R_T) (T := F_T) (N := 4) hx hb hT in_T hown hK hP 6 rfl rfl 2 (by decide) (hT _ fl_T_15) (fun _ h9 => h9) rfl d_T_tick_2 ?_
  refine lv_iconst (v := (1 : Int32)) hx hb d_T_tick_5 (by decide) ?_
  refine lv_isub hx hb d_T_tick_6 ?_
  refine va_put (A := (kA 7 ad)) (D := D) (ci := 1) (v := .int ((σ 5 6) - (1 : Int32))) (ty := .int) (C := R_T) (T := F_T) (N := 4) hx hb hT in_T ft_T ft_T_ok n_T hown hK hP (hD _) hS 6 rfl rfl 2 (by decide) (hT _ fl_T_15) (fun _ h9 => h9) rfl (by decide +kernel) rfl rfl (Nat.le_of_ble_eq_true rfl) d_T_tick_7 (fun H locs hP _ hS => ?_)
  have hP := kst (bw_p6_2 cA ad σ ((σ 5 6) - (1 : Int32))) hP
  refine lv_aload_n hx hb d_T_tick_10 rfl (lv_at hl 0 rfl) ?_
  refine va_get (D := D) (ci := 1) (v := .int ((σ 5 6) - (1 : Int32))) (C := R_T) (T := F_T) (N := 4) hx hb hT in_T hown hK hP 6 rfl rfl 2 (by decide) (hT _ fl_T_15) (fun _ h9 => h9) rfl d_T_tick_11 ?_
  refine lv_if_le (tgt := 18) hx hb d_T_tick_14 (by decide) (fun q1 => ?_) (fun q1 => ?_)
  · refine lv_aload_n hx hb d_T_tick_18 rfl (lv_at hl 0 rfl) ?_
    refine lv_dup hx hb d_T_tick_19 rfl ?_
    refine va_get (D := D) (ci := 1) (v := .int ((kup σ 5 6 ((σ 5 6) - (1 : Int32))) 5 4)) (C := R_T) (T := F_T) (N := 4) hx hb hT in_T hown hK hP 6 rfl rfl 0 (by decide) (hT _ fl_T_18) (fun _ h9 => h9) rfl d_T_tick_20 ?_
    refine lv_iconst (v := (1 : Int32)) hx hb d_T_tick_23 (by decide) ?_
    refine lv_isub hx hb d_T_tick_24 ?_
    refine va_put (A := (kA 7 ad)) (D := D) (ci := 1) (v := .int (((kup σ 5 6 ((σ 5 6) - (1 : Int32))) 5 4) - (1 : Int32))) (ty := .int) (C := R_T) (T := F_T) (N := 4) hx hb hT in_T ft_T ft_T_ok n_T hown hK hP (hD _) hS 6 rfl rfl 0 (by decide) (hT _ fl_T_18) (fun _ h9 => h9) rfl (by decide +kernel) rfl rfl (Nat.le_of_ble_eq_true rfl) d_T_tick_25 (fun H locs hP _ hS => ?_)
    have hP := kst (bw_p6_0 cA ad (kup σ 5 6 ((σ 5 6) - (1 : Int32))) (((kup σ 5 6 ((σ 5 6) - (1 : Int32))) 5 4) - (1 : Int32))) hP
    refine lv_aload_n hx hb d_T_tick_28 rfl (lv_at hl 0 rfl) ?_
    refine va_get (D := D) (ci := 1) (v := .int (((kup σ 5 6 ((σ 5 6) - (1 : Int32))) 5 4) - (1 : Int32))) (C := R_T) (T := F_T) (N := 4) hx hb hT in_T hown hK hP 6 rfl rfl 0 (by decide) (hT _ fl_T_18) (fun _ h9 => h9) rfl d_T_tick_29 ?_
    refine lv_if_ge (tgt := 52) hx hb d_T_tick_32 (by decide) (fun q2 => ?_) (fun q2 => ?_)
    · refine lv_aload_n hx hb d_T_tick_52 rfl (lv_at hl 0 rfl) ?_
      refine lv_aload_n hx hb d_T_tick_53 rfl (lv_at hl 0 rfl) ?_
      refine va_get (D := D) (ci := 1) (v := .int ((kup (kup σ 5 6 ((σ 5 6) - (1 : Int32))) 5 4 (((kup σ 5 6 ((σ 5 6) - (1 : Int32))) 5 4) - (1 : Int32))) 5 5)) (C := R_T) (T := F_T) (N := 4) hx hb hT in_T hown hK hP 6 rfl rfl 1 (by decide) (hT _ fl_T_9) (fun _ h9 => h9) rfl d_T_tick_54 ?_
      refine lv_iconst (v := (3 : Int32)) hx hb d_T_tick_57 (by decide) ?_
      refine lv_imul hx hb d_T_tick_58 ?_
      refine va_put (A := (kA 7 ad)) (D := D) (ci := 1) (v := .int (((kup (kup σ 5 6 ((σ 5 6) - (1 : Int32))) 5 4 (((kup σ 5 6 ((σ 5 6) - (1 : Int32))) 5 4) - (1 : Int32))) 5 5) * (3 : Int32))) (ty := .int) (C := R_T) (T := F_T) (N := 4) hx hb hT in_T ft_T ft_T_ok n_T hown hK hP (hD _) hS 6 rfl rfl 2 (by decide) (hT _ fl_T_15) (fun _ h9 => h9) rfl (by decide +kernel) rfl rfl (Nat.le_of_ble_eq_true rfl) d_T_tick_59 (fun H locs hP _ hS => ?_)
      have hP := kst (bw_p6_2 cA ad (kup (kup σ 5 6 ((σ 5 6) - (1 : Int32))) 5 4 (((kup σ 5 6 ((σ 5 6) - (1 : Int32))) 5 4) - (1 : Int32))) (((kup (kup σ 5 6 ((σ 5 6) - (1 : Int32))) 5 4 (((kup σ 5 6 ((σ 5 6) - (1 : Int32))) 5 4) - (1 : Int32))) 5 5) * (3 : Int32))) hP
      have e9 : (kup (kup (kup σ 5 6 ((σ 5 6) - (1 : Int32))) 5 4 (((kup σ 5 6 ((σ 5 6) - (1 : Int32))) 5 4) - (1 : Int32))) 5 6 (((kup (kup σ 5 6 ((σ 5 6) - (1 : Int32))) 5 4 (((kup σ 5 6 ((σ 5 6) - (1 : Int32))) 5 4) - (1 : Int32))) 5 5) * (3 : Int32))) = f_T_tick σ := by rw [f_T_tick, if_pos q1, if_pos q2]
      exact W.vret hx hb hr (fun t ht hW => ⟨rfl, by rw [ht, ← e9]; exact hP, hS.F ht⟩) hS.2.2 d_T_tick_62
    · refine lv_aload_n hx hb d_T_tick_35 rfl (lv_at hl 0 rfl) ?_
      refine lv_sipush (v := (255 : Int32)) hx hb d_T_tick_36 (by decide) ?_
      refine va_put (A := (kA 7 ad)) (D := D) (ci := 1) (v := .int (255 : Int32)) (ty := .int) (C := R_T) (T := F_T) (N := 4) hx hb hT in_T ft_T ft_T_ok n_T hown hK hP (hD _) hS 6 rfl rfl 0 (by decide) (hT _ fl_T_18) (fun _ h9 => h9) rfl (by decide +kernel) rfl rfl (Nat.le_of_ble_eq_true rfl) d_T_tick_39 (fun H locs hP _ hS => ?_)
      have hP := kst (bw_p6_0 cA ad (kup (kup σ 5 6 ((σ 5 6) - (1 : Int32))) 5 4 (((kup σ 5 6 ((σ 5 6) - (1 : Int32))) 5 4) - (1 : Int32))) (255 : Int32)) hP
      refine lv_aload_n hx hb d_T_tick_42 rfl (lv_at hl 0 rfl) ?_
      refine lv_iconst (v := (1 : Int32)) hx hb d_T_tick_43 (by decide) ?_
      refine va_put (A := (kA 7 ad)) (D := D) (ci := 1) (v := .int (1 : Int32)) (ty := .boolean) (C := R_T) (T := F_T) (N := 4) hx hb hT in_T ft_T ft_T_ok n_T hown hK hP (hD _) hS 6 rfl rfl 3 (by decide) (hT _ fl_T_21) (fun _ h9 => h9) rfl (by decide +kernel) (by decide) (by decide) (Nat.le_of_ble_eq_true rfl) d_T_tick_44 (fun H locs hP _ hS => ?_)
      have hP := kst (bw_p6_3 cA ad (kup (kup (kup σ 5 6 ((σ 5 6) - (1 : Int32))) 5 4 (((kup σ 5 6 ((σ 5 6) - (1 : Int32))) 5 4) - (1 : Int32))) 5 4 (255 : Int32)) (1 : Int32)) hP
      refine lv_aload_n hx hb d_T_tick_47 rfl (lv_at hl 0 rfl) ?_
      refine lv_iconst (v := (1 : Int32)) hx hb d_T_tick_48 (by decide) ?_
      refine va_put (A := (kA 7 ad)) (D := D) (ci := 1) (v := .int (1 : Int32)) (ty := .int) (C := R_T) (T := F_T) (N := 4) hx hb hT in_T ft_T ft_T_ok n_T hown hK hP (hD _) hS 6 rfl rfl 1 (by decide) (hT _ fl_T_9) (fun _ h9 => h9) rfl (by decide +kernel) rfl rfl (Nat.le_of_ble_eq_true rfl) d_T_tick_49 (fun H locs hP _ hS => ?_)
      have hP := kst (bw_p6_1 cA ad (kup (kup (kup (kup σ 5 6 ((σ 5 6) - (1 : Int32))) 5 4 (((kup σ 5 6 ((σ 5 6) - (1 : Int32))) 5 4) - (1 : Int32))) 5 4 (255 : Int32)) 5 7 (1 : Int32)) (1 : Int32)) hP
      refine lv_aload_n hx hb d_T_tick_52 rfl (lv_at hl 0 rfl) ?_
      refine lv_aload_n hx hb d_T_tick_53 rfl (lv_at hl 0 rfl) ?_
      refine va_get (D := D) (ci := 1) (v := .int (1 : Int32)) (C := R_T) (T := F_T) (N := 4) hx hb hT in_T hown hK hP 6 rfl rfl 1 (by decide) (hT _ fl_T_9) (fun _ h9 => h9) rfl d_T_tick_54 ?_
      refine lv_iconst (v := (3 : Int32)) hx hb d_T_tick_57 (by decide) ?_
      refine lv_imul hx hb d_T_tick_58 ?_
      refine va_put (A := (kA 7 ad)) (D := D) (ci := 1) (v := .int ((1 : Int32) * (3 : Int32))) (ty := .int) (C := R_T) (T := F_T) (N := 4) hx hb hT in_T ft_T ft_T_ok n_T hown hK hP (hD _) hS 6 rfl rfl 2 (by decide) (hT _ fl_T_15) (fun _ h9 => h9) rfl (by decide +kernel) rfl rfl (Nat.le_of_ble_eq_true rfl) d_T_tick_59 (fun H locs hP _ hS => ?_)
      have hP := kst (bw_p6_2 cA ad (kup (kup (kup (kup (kup σ 5 6 ((σ 5 6) - (1 : Int32))) 5 4 (((kup σ 5 6 ((σ 5 6) - (1 : Int32))) 5 4) - (1 : Int32))) 5 4 (255 : Int32)) 5 7 (1 : Int32)) 5 5 (1 : Int32)) ((1 : Int32) * (3 : Int32))) hP
      have e9 : (kup (kup (kup (kup (kup (kup σ 5 6 ((σ 5 6) - (1 : Int32))) 5 4 (((kup σ 5 6 ((σ 5 6) - (1 : Int32))) 5 4) - (1 : Int32))) 5 4 (255 : Int32)) 5 7 (1 : Int32)) 5 5 (1 : Int32)) 5 6 ((1 : Int32) * (3 : Int32))) = f_T_tick σ := by rw [f_T_tick, if_pos q1, if_neg q2]
      exact W.vret hx hb hr (fun t ht hW => ⟨rfl, by rw [ht, ← e9]; exact hP, hS.F ht⟩) hS.2.2 d_T_tick_62
  · have e9 : (kup σ 5 6 ((σ 5 6) - (1 : Int32))) = f_T_tick σ := by rw [f_T_tick, if_neg q1]
    exact W.vret hx hb hr (fun t ht hW => ⟨rfl, by rw [ht, ← e9]; exact hP, hS.F ht⟩) hS.2.2 d_T_tick_17

def f_B_stepClock (σ : Nat → Nat → Int32) : (Nat → Nat → Int32) := (if ((σ 5 1) + (1 : Int32)) = (228 : Int32) then (kup (kup (kup σ 5 1 ((σ 5 1) + (1 : Int32))) 5 1 (0 : Int32)) 5 2 (((kup (kup σ 5 1 ((σ 5 1) + (1 : Int32))) 5 1 (0 : Int32)) 5 2) + (1 : Int32))) else (kup σ 5 1 ((σ 5 1) + (1 : Int32))))

set_option maxRecDepth 100000 in
set_option maxHeartbeats 4000000 in
theorem c_B_stepClock (l : Launch) (D : va_G) (cA ad t : Nat → Nat) (hap : kap 7 ad) (σ : Nat → Nat → Int32) : Met l y_B_stepClock w_B_stepClock ({ frames := 0, cells := 0, slots := 0, locals := 0 } : Room) (va_Pc [.ref (ad 0)] (bPre D cA ad t σ)) (kQv D (bw cA ad (f_B_stepClock σ)) (kA 7 ad)) 0 0 (kA 7 ad) := by
  refine Met.ofW (cc := b_B_stepClock) (maxL := 1) (ret := none) (by decide) rfl ?_
  intro p e s m args below meth c s₁ B hml hv
  obtain ⟨rfl, hv⟩ := hv
  obtain ⟨hP, hK, hZ⟩ := hv
  have hx := B.exec
  have hb := B.bytes
  have hr := B.returns
  have hlocks := B.notSynchronized
  have hT : ∀ w ∈ TB, w.before ([.ref (ad 0)] : List Value).toArray s = true := fun w h => atoms_spec (ws := w_B_stepClock) B.pre w (List.mem_cons_of_mem _ h)
  have hown : s.vm.findClass R_B = some m.cls := findClass_of_methodNamed B.named
  have hS : va_S (kA 7 ad) s.heap s.heap [] := va_S.rf
  have hD : ∀ σ, va_D (kA 7 ad) (bw cA ad σ) := fun σ => kD hap rfl
  have hl := lv_entry ([.ref (ad 0)]) (n := 1) (Nat.le_of_ble_eq_true rfl)
  rw [lg_entry_eq]
  generalize (lg_sl ([.ref (ad 0)]) ++ List.replicate (1 - (lg_sl ([.ref (ad 0)])).length) Slot.unset).toArray = ls at hl ⊢
  have hl : lv_has ls 1 [(0, .ref (ad 0))] := hl
  refine lv_aload_n hx hb d_B_stepClock_0 rfl (lv_at hl 0 rfl) ?_
  refine lv_dup hx hb d_B_stepClock_1 rfl ?_
  refine va_get (D := D) (ci := 0) (v := .int (σ 5 1)) (C := R_B) (T := F_B) (N := 10) hx hb hT in_B hown hK hP 0 rfl rfl 7 (by decide) (hT _ fl_B_49) (fun _ h9 => h9) rfl d_B_stepClock_2 ?_
  refine lv_iconst (v := (1 : Int32)) hx hb d_B_stepClock_5 (by decide) ?_
  refine lv_iadd hx hb d_B_stepClock_6 ?_
  refine va_put (A := (kA 7 ad)) (D := D) (ci := 0) (v := .int ((σ 5 1) + (1 : Int32))) (ty := .int) (C := R_B) (T := F_B) (N := 10) hx hb hT in_B ft_B ft_B_ok n_B hown hK hP (hD _) hS 0 rfl rfl 7 (by decide) (hT _ fl_B_49) (fun _ h9 => h9) rfl (by decide +kernel) rfl rfl (Nat.le_of_ble_eq_true rfl) d_B_stepClock_7 (fun H locs hP _ hS => ?_)
  have hP := kst (bw_p0_7 cA ad σ ((σ 5 1) + (1 : Int32))) hP
  refine lv_aload_n hx hb d_B_stepClock_10 rfl (lv_at hl 0 rfl) ?_
  refine va_get (D := D) (ci := 0) (v := .int ((σ 5 1) + (1 : Int32))) (C := R_B) (T := F_B) (N := 10) hx hb hT in_B hown hK hP 0 rfl rfl 7 (by decide) (hT _ fl_B_49) (fun _ h9 => h9) rfl d_B_stepClock_11 ?_
  refine lv_sipush (v := (228 : Int32)) hx hb d_B_stepClock_14 (by decide) ?_
  refine lv_icmp_ne (tgt := 35) hx hb d_B_stepClock_17 (by decide) (fun q1 => ?_) (fun q1 => ?_)
  · have e9 : (kup σ 5 1 ((σ 5 1) + (1 : Int32))) = f_B_stepClock σ := by rw [f_B_stepClock, if_neg q1]
    exact W.vret hx hb hr (fun t ht hW => ⟨rfl, by rw [ht, ← e9]; exact hP, hS.F ht⟩) hS.2.2 d_B_stepClock_35
  · refine lv_aload_n hx hb d_B_stepClock_20 rfl (lv_at hl 0 rfl) ?_
    refine lv_iconst (v := (0 : Int32)) hx hb d_B_stepClock_21 (by decide) ?_
    refine va_put (A := (kA 7 ad)) (D := D) (ci := 0) (v := .int (0 : Int32)) (ty := .int) (C := R_B) (T := F_B) (N := 10) hx hb hT in_B ft_B ft_B_ok n_B hown hK hP (hD _) hS 0 rfl rfl 7 (by decide) (hT _ fl_B_49) (fun _ h9 => h9) rfl (by decide +kernel) rfl rfl (Nat.le_of_ble_eq_true rfl) d_B_stepClock_22 (fun H locs hP _ hS => ?_)
    have hP := kst (bw_p0_7 cA ad (kup σ 5 1 ((σ 5 1) + (1 : Int32))) (0 : Int32)) hP
    refine lv_aload_n hx hb d_B_stepClock_25 rfl (lv_at hl 0 rfl) ?_
    refine lv_dup hx hb d_B_stepClock_26 rfl ?_
    refine va_get (D := D) (ci := 0) (v := .int ((kup (kup σ 5 1 ((σ 5 1) + (1 : Int32))) 5 1 (0 : Int32)) 5 2)) (C := R_B) (T := F_B) (N := 10) hx hb hT in_B hown hK hP 0 rfl rfl 8 (by decide) (hT _ fl_B_73) (fun _ h9 => h9) rfl d_B_stepClock_27 ?_
    refine lv_iconst (v := (1 : Int32)) hx hb d_B_stepClock_30 (by decide) ?_
    refine lv_iadd hx hb d_B_stepClock_31 ?_
    refine va_put (A := (kA 7 ad)) (D := D) (ci := 0) (v := .int (((kup (kup σ 5 1 ((σ 5 1) + (1 : Int32))) 5 1 (0 : Int32)) 5 2) + (1 : Int32))) (ty := .int) (C := R_B) (T := F_B) (N := 10) hx hb hT in_B ft_B ft_B_ok n_B hown hK hP (hD _) hS 0 rfl rfl 8 (by decide) (hT _ fl_B_73) (fun _ h9 => h9) rfl (by decide +kernel) rfl rfl (Nat.le_of_ble_eq_true rfl) d_B_stepClock_32 (fun H locs hP _ hS => ?_)
    have hP := kst (bw_p0_8 cA ad (kup (kup σ 5 1 ((σ 5 1) + (1 : Int32))) 5 1 (0 : Int32)) (((kup (kup σ 5 1 ((σ 5 1) + (1 : Int32))) 5 1 (0 : Int32)) 5 2) + (1 : Int32))) hP
    have e9 : (kup (kup (kup σ 5 1 ((σ 5 1) + (1 : Int32))) 5 1 (0 : Int32)) 5 2 (((kup (kup σ 5 1 ((σ 5 1) + (1 : Int32))) 5 1 (0 : Int32)) 5 2) + (1 : Int32))) = f_B_stepClock σ := by rw [f_B_stepClock, if_pos q1]
    exact W.vret hx hb hr (fun t ht hW => ⟨rfl, by rw [ht, ← e9]; exact hP, hS.F ht⟩) hS.2.2 d_B_stepClock_35
