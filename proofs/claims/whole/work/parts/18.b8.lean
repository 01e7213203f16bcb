def f_B_put (σ : Nat → Nat → Int32) (o : Int32) : (Nat → Nat → Int32) := (if (2 : Int32) ≤ o then (if (68 : Int32) ≤ (σ 5 1) then (kup σ 2 (o).toNatClampNeg (((((σ 5 1) - (68 : Int32)) + (4 : Int32)) + (0 : Int32)) - ((((σ 5 1) - (68 : Int32)) + (4 : Int32)) + (0 : Int32)) / (160 : Int32) * (160 : Int32))) else (kup σ 2 (o).toNatClampNeg ((2 : Int32) + (0 : Int32)))) else (if (68 : Int32) ≤ (σ 5 1) then (kup σ 2 (o).toNatClampNeg (((((σ 5 1) - (68 : Int32)) + (4 : Int32)) + (1 : Int32)) - ((((σ 5 1) - (68 : Int32)) + (4 : Int32)) + (1 : Int32)) / (160 : Int32) * (160 : Int32))) else (kup σ 2 (o).toNatClampNeg ((2 : Int32) + (1 : Int32)))))

set_option maxRecDepth 100000 in
set_option maxHeartbeats 4000000 in
theorem c_B_put (l : Launch) (D : va_G) (cA ad t : Nat → Nat) (hap : kap 7 ad) (σ : Nat → Nat → Int32) (o : Int32) (h1 : vp_in o 5) : Met l y_B_put w_B_put ({ frames := 0, cells := 0, slots := 0, locals := 0 } : Room) (va_Pc [.ref (ad 0), .int o] (bPre D cA ad t σ)) (kQv D (bw cA ad (f_B_put σ o)) (kA 7 ad)) 0 0 (kA 7 ad) := by
  refine Met.ofW (cc := b_B_put) (maxL := 3) (ret := none) (by decide) rfl ?_
  intro p e s m args below meth c s₁ B hml hv
  obtain ⟨rfl, hv⟩ := hv
  obtain ⟨hP, hK, hZ⟩ := hv
  have hx := B.exec
  have hb := B.bytes
  have hr := B.returns
  have hlocks := B.notSynchronized
  have hT : ∀ w ∈ TB, w.before ([.ref (ad 0), .int o] : List Value).toArray s = true := fun w h => atoms_spec (ws := w_B_put) B.pre w (List.mem_cons_of_mem _ h)
  have hown : s.vm.findClass R_B = some m.cls := findClass_of_methodNamed B.named
  have hS : va_S (kA 7 ad) s.heap s.heap [] := va_S.rf
  have hD : ∀ σ, va_D (kA 7 ad) (bw cA ad σ) := fun σ => kD hap rfl
  have hl := lv_entry ([.ref (ad 0), .int o]) (n := 3) (Nat.le_of_ble_eq_true rfl)
  rw [lg_entry_eq]
  generalize (lg_sl ([.ref (ad 0), .int o]) ++ List.replicate (3 - (lg_sl ([.ref (ad 0), .int o])).length) Slot.unset).toArray = ls at hl ⊢
  have hl : lv_has ls 3 [(0, .ref (ad 0)), (1, .int o)] := hl
  refine lv_iload_n hx hb d_B_put_0 rfl (lv_at hl 1 rfl) ?_
  refine lv_iconst (v := (2 : Int32)) hx hb d_B_put_1 (by decide) ?_
  refine lv_icmp_ge (tgt := 9) hx hb d_B_put_2 (by decide) (fun q1 => ?_) (fun q1 => ?_)
  · refine lv_iconst (v := (0 : Int32)) hx hb d_B_put_9 (by decide) ?_
    refine lv_istore_n (lv' := [(2, .int (0 : Int32)), (0, .ref (ad 0)), (1, .int o)]) hx hb d_B_put_10 rfl hl (by decide) rfl (fun ls hl => ?_)
    refine lv_aload_n hx hb d_B_put_11 rfl (lv_at hl 1 rfl) ?_
    refine va_get (D := D) (ci := 0) (v := .int (σ 5 1)) (C := R_B) (T := F_B) (N := 10) hx hb hT in_B hown hK hP 0 rfl rfl 7 (by decide) (hT _ fl_B_49) (fun _ h9 => h9) rfl d_B_put_12 ?_
    refine lv_bipush (v := (68 : Int32)) hx hb d_B_put_15 (by decide) ?_
    refine lv_icmp_ge (tgt := 32) hx hb d_B_put_17 (by decide) (fun q2 => ?_) (fun q2 => ?_)
    · refine lv_aload_n hx hb d_B_put_32 rfl (lv_at hl 1 rfl) ?_
      refine va_get (D := D) (ci := 0) (v := .ref (ad 3)) (C := R_B) (T := F_B) (N := 10) hx hb hT in_B hown hK hP 0 rfl rfl 2 (by decide) (hT _ fl_B_16) (fun _ h9 => h9) rfl d_B_put_33 ?_
      refine lv_iload_n hx hb d_B_put_36 rfl (lv_at hl 2 rfl) ?_
      refine lv_aload_n hx hb d_B_put_37 rfl (lv_at hl 1 rfl) ?_
      refine va_get (D := D) (ci := 0) (v := .int (σ 5 1)) (C := R_B) (T := F_B) (N := 10) hx hb hT in_B hown hK hP 0 rfl rfl 7 (by decide) (hT _ fl_B_49) (fun _ h9 => h9) rfl d_B_put_38 ?_
      refine lv_bipush (v := (68 : Int32)) hx hb d_B_put_41 (by decide) ?_
      refine lv_isub hx hb d_B_put_43 ?_
      refine lv_iconst (v := (4 : Int32)) hx hb d_B_put_44 (by decide) ?_
      refine lv_iadd hx hb d_B_put_45 ?_
      refine lv_iload_n hx hb d_B_put_46 rfl (lv_at hl 0 rfl) ?_
      refine lv_iadd hx hb d_B_put_47 ?_
      refine lv_sipush (v := (160 : Int32)) hx hb d_B_put_48 (by decide) ?_
      refine lv_irem hx hb d_B_put_51 (by decide) ?_
      refine va_iast (A := (kA 7 ad)) hx hb hK hP (hD _) hS 3 0 rfl rfl (by first | assumption | exact kin (by decide)) d_B_put_52 (fun H locs hP _ hS => ?_)
      have hP := kst (bw_s3 cA ad σ (o).toNatClampNeg (((((σ 5 1) - (68 : Int32)) + (4 : Int32)) + (0 : Int32)) - ((((σ 5 1) - (68 : Int32)) + (4 : Int32)) + (0 : Int32)) / (160 : Int32) * (160 : Int32))) hP
      have e9 : (kup σ 2 (o).toNatClampNeg (((((σ 5 1) - (68 : Int32)) + (4 : Int32)) + (0 : Int32)) - ((((σ 5 1) - (68 : Int32)) + (4 : Int32)) + (0 : Int32)) / (160 : Int32) * (160 : Int32))) = f_B_put σ o := by rw [f_B_put, if_pos q1, if_pos q2]
      exact W.vret hx hb hr (fun t ht hW => ⟨rfl, by rw [ht, ← e9]; exact hP, hS.F ht⟩) hS.2.2 d_B_put_53
    · refine lv_aload_n hx hb d_B_put_20 rfl (lv_at hl 1 rfl) ?_
      refine va_get (D := D) (ci := 0) (v := .ref (ad 3)) (C := R_B) (T := F_B) (N := 10) hx hb hT in_B hown hK hP 0 rfl rfl 2 (by decide) (hT _ fl_B_16) (fun _ h9 => h9) rfl d_B_put_21 ?_
      refine lv_iload_n hx hb d_B_put_24 rfl (lv_at hl 2 rfl) ?_
      refine lv_iconst (v := (2 : Int32)) hx hb d_B_put_25 (by decide) ?_
      refine lv_iload_n hx hb d_B_put_26 rfl (lv_at hl 0 rfl) ?_
      refine lv_iadd hx hb d_B_put_27 ?_
      refine va_iast (A := (kA 7 ad)) hx hb hK hP (hD _) hS 3 0 rfl rfl (by first | assumption | exact kin (by decide)) d_B_put_28 (fun H locs hP _ hS => ?_)
      have hP := kst (bw_s3 cA ad σ (o).toNatClampNeg ((2 : Int32) + (0 : Int32))) hP
      refine lv_goto (tgt := 53) hx hb d_B_put_29 (by decide) ?_
      have e9 : (kup σ 2 (o).toNatClampNeg ((2 : Int32) + (0 : Int32))) = f_B_put σ o := by rw [f_B_put, if_pos q1, if_neg q2]
      exact W.vret hx hb hr (fun t ht hW => ⟨rfl, by rw [ht, ← e9]; exact hP, hS.F ht⟩) hS.2.2 d_B_put_53
  · refine lv_iconst (v := (1 : Int32)) hx hb d_B_put_5 (by decide) ?_
    refine lv_goto (tgt := 10) hx hb d_B_put_6 (by decide) ?_
    refine lv_istore_n (lv' := [(2, .int (1 : Int32)), (0, .ref (ad 0)), (1, .int o)]) hx hb d_B_put_10 rfl hl (by decide) rfl (fun ls hl => ?_)
    refine lv_aload_n hx hb d_B_put_11 rfl (lv_at hl 1 rfl) ?_
    refine va_get (D := D) (ci := 0) (v := .int (σ 5 1)) (C := R_B) (T := F_B) (N := 10) hx hb hT in_B hown hK hP 0 rfl rfl 7 (by decide) (hT _ fl_B_49) (fun _ h9 => h9) rfl d_B_put_12 ?_
    refine lv_bipush (v := (68 : Int32)) hx hb d_B_put_15 (by decide) ?_
    refine lv_icmp_ge (tgt := 32) hx hb d_B_put_17 (by decide) (fun q3 => ?_) (fun q3 => ?_)
    · refine lv_aload_n hx hb d_B_put_32 rfl (lv_at hl 1 rfl) ?_
      refine va_get (D := D) (ci := 0) (v := .ref (ad 3)) (C := R_B) (T := F_B) (N := 10) hx hb hT in_B hown hK hP 0 rfl rfl 2 (by decide) (hT _ fl_B_16) (fun _ h9 => h9) rfl d_B_put_33 ?_
      refine lv_iload_n hx hb d_B_put_36 rfl (lv_at hl 2 rfl) ?_
      refine lv_aload_n hx hb d_B_put_37 rfl (lv_at hl 1 rfl) ?_
      refine va_get (D := D) (ci := 0) (v := .int (σ 5 1)) (C := R_B) (T := F_B) (N := 10) hx hb hT in_B hown hK hP 0 rfl rfl 7 (by decide) (hT _ fl_B_49) (fun _ h9 => h9) rfl d_B_put_38 ?_
      refine lv_bipush (v := (68 : Int32)) hx hb d_B_put_41 (by decide) ?_
      refine lv_isub hx hb d_B_put_43 ?_
      refine lv_iconst (v := (4 : Int32)) hx hb d_B_put_44 (by decide) ?_
      refine lv_iadd hx hb d_B_put_45 ?_
      refine lv_iload_n hx hb d_B_put_46 rfl (lv_at hl 0 rfl) ?_
      refine lv_iadd hx hb d_B_put_47 ?_
      refine lv_sipush (v := (160 : Int32)) hx hb d_B_put_48 (by decide) ?_
      refine lv_irem hx hb d_B_put_51 (by decide) ?_
      refine va_iast (A := (kA 7 ad)) hx hb hK hP (hD _) hS 3 0 rfl rfl (by first | assumption | exact kin (by decide)) d_B_put_52 (fun H locs hP _ hS => ?_)
      have hP := kst (bw_s3 cA ad σ (o).toNatClampNeg (((((σ 5 1) - (68 : Int32)) + (4 : Int32)) + (1 : Int32)) - ((((σ 5 1) - (68 : Int32)) + (4 : Int32)) + (1 : Int32)) / (160 : Int32) * (160 : Int32))) hP
      have e9 : (kup σ 2 (o).toNatClampNeg (((((σ 5 1) - (68 : Int32)) + (4 : Int32)) + (1 : Int32)) - ((((σ 5 1) - (68 : Int32)) + (4 : Int32)) + (1 : Int32)) / (160 : Int32) * (160 : Int32))) = f_B_put σ o := by rw [f_B_put, if_neg q1, if_pos q3]
      exact W.vret hx hb hr (fun t ht hW => ⟨rfl, by rw [ht, ← e9]; exact hP, hS.F ht⟩) hS.2.2 d_B_put_53
    · refine lv_aload_n hx hb d_B_put_20 rfl (lv_at hl 1 rfl) ?_
      refine va_get (D := D) (ci := 0) (v := .ref (ad 3)) (C := R_B) (T := F_B) (N := 10) hx hb hT in_B hown hK hP 0 rfl rfl 2 (by decide) (hT _ fl_B_16) (fun _ h9 => h9) rfl d_B_put_21 ?_
      refine lv_iload_n hx hb d_B_put_24 rfl (lv_at hl 2 rfl) ?_
      refine lv_iconst (v := (2 : Int32)) hx hb d_B_put_25 (by decide) ?_
      refine lv_iload_n hx hb d_B_put_26 rfl (lv_at hl 0 rfl) ?_
      refine lv_iadd hx hb d_B_put_27 ?_
      refine va_iast (A := (kA 7 ad)) hx hb hK hP (hD _) hS 3 0 rfl rfl (by first | assumption | exact kin (by decide)) d_B_put_28 (fun H locs hP _ hS => ?_)
      have hP := kst (bw_s3 cA ad σ (o).toNatClampNeg ((2 : Int32) + (1 : Int32))) hP
      refine lv_goto (tgt := 53) hx hb d_B_put_29 (by decide) ?_
      have e9 : (kup σ 2 (o).toNatClampNeg ((2 : Int32) + (1 : Int32))) = f_B_put σ o := by rw [f_B_put, if_neg q1, if_neg q3]
      exact W.vret hx hb hr (fun t ht hW => ⟨rfl, by rw [ht, ← e9]; exact hP, hS.F ht⟩) hS.2.2 d_B_put_53

def f_B_moveAll_lp2 (σ : Nat → Nat → Int32) : Nat → Int32 → (Nat → Nat → Int32) → (Nat → Nat → Int32)
  | 0, i, σ1 => σ1
  | n + 1, i, σ1 => (f_B_moveAll_lp2 σ n (i + 1) (kup σ1 2 (i).toNatClampNeg (f_J_floorMod ((σ1 2 (i).toNatClampNeg) - (f_B_motionOf σ1 i)) (160 : Int32))))
theorem f_B_moveAll_lp2_z (σ : Nat → Nat → Int32) (i : Int32) (σ1 : Nat → Nat → Int32) : f_B_moveAll_lp2 σ 0 i σ1 = σ1 := rfl
theorem f_B_moveAll_lp2_s (σ : Nat → Nat → Int32) (n : Nat) (i : Int32) (σ1 : Nat → Nat → Int32) : f_B_moveAll_lp2 σ (n + 1) i σ1 = (f_B_moveAll_lp2 σ n (i + 1) (kup σ1 2 (i).toNatClampNeg (f_J_floorMod ((σ1 2 (i).toNatClampNeg) - (f_B_motionOf σ1 i)) (160 : Int32)))) := rfl

def f_B_moveAll (σ : Nat → Nat → Int32) : (Nat → Nat → Int32) := (f_B_moveAll_lp2 σ 5 (0 : Int32) σ)

set_option maxRecDepth 100000 in
set_option maxHeartbeats 4000000 in
theorem c_B_moveAll (l : Launch) (D : va_G) (cA ad t : Nat → Nat) (hap : kap 7 ad) (σ : Nat → Nat → Int32) : Met l y_B_moveAll w_B_moveAll ({ frames := 1, cells := 0, slots := 0, locals := 22 } : Room) (va_Pc [.ref (ad 0)] (bPre D cA ad t σ)) (kQv D (bw cA ad (f_B_moveAll σ)) (kA 7 ad)) 0 0 (kA 7 ad) := by
  refine Met.ofW (cc := b_B_moveAll) (maxL := 2) (ret := none) (by decide) rfl ?_
  intro p e s m args below meth c s₁ B hml hv
  obtain ⟨rfl, hv⟩ := hv
  obtain ⟨hP, hK, hZ⟩ := hv
  have hx := B.exec
  have hb := B.bytes
  have hr := B.returns
  have hlocks := B.notSynchronized
  have hT : ∀ w ∈ TB, w.before ([.ref (ad 0)] : List Value).toArray s = true := fun w h => atoms_spec (ws := w_B_moveAll) B.pre w (List.mem_cons_of_mem _ h)
  have hown : s.vm.findClass R_B = some m.cls := findClass_of_methodNamed B.named
  have hS : va_S (kA 7 ad) s.heap s.heap [] := va_S.rf
  have hD : ∀ σ, va_D (kA 7 ad) (bw cA ad σ) := fun σ => kD hap rfl
  have hl := lv_entry ([.ref (ad 0)]) (n := 2) (Nat.le_of_ble_eq_true rfl)
  rw [lg_entry_eq]
  generalize (lg_sl ([.ref (ad 0)]) ++ List.replicate (2 - (lg_sl ([.ref (ad 0)])).length) Slot.unset).toArray = ls at hl ⊢
  have hl : lv_has ls 2 [(0, .ref (ad 0))] := hl
  have loop2 : ∀ (n i : Nat) (σ1 : Nat → Nat → Int32) (H : Heap) (locs : List Loc) (ls : Array Slot), i + n = 5 → lv_has ls 2 [(1, .int (nI i)), (0, .ref (ad 0))] → va_P D classes (bw cA ad σ1) H → va_S (kA 7 ad) s.heap H locs → f_B_moveAll_lp2 σ n (nI i) σ1 = f_B_moveAll σ → W p l e (headSpec w_B_moveAll ({ frames := 1, cells := 0, slots := 0, locals := 22 } : Room)).room s m ([.ref (ad 0)] : List Value).toArray below meth c H locs 0 0 (MQ below (kQv D (bw cA ad (f_B_moveAll σ)) (kA 7 ad)) ([.ref (ad 0)] : List Value).toArray s 0 0 (kA 7 ad)) (F0 m 2 ls []) := by
    intro n
    induction n with
    | zero =>
      intro i σ1 H locs ls hi hl hP hS hg
      refine lv_iload_n hx hb d_B_moveAll_2 rfl (lv_at hl 0 rfl) ?_
      refine lv_iconst (v := (5 : Int32)) hx hb d_B_moveAll_3 (by decide) ?_
      refine lv_icmp_ge (tgt := 37) hx hb d_B_moveAll_4 (by decide) (fun _ => ?_) (fun h9 => absurd (nI_le (a := 5) (b := i) (by omega) (by omega)) h9)
      have e9 : σ1 = f_B_moveAll σ := by rw [← hg, f_B_moveAll_lp2_z]
      exact W.vret hx hb hr (fun t ht hW => ⟨rfl, by rw [ht, ← e9]; exact hP, hS.F ht⟩) hS.2.2 d_B_moveAll_37
    | succ n ih =>
      intro i σ1 H locs ls hi hl hP hS hg
      refine lv_iload_n hx hb d_B_moveAll_2 rfl (lv_at hl 0 rfl) ?_
      refine lv_iconst (v := (5 : Int32)) hx hb d_B_moveAll_3 (by decide) ?_
      refine lv_icmp_ge (tgt := 37) hx hb d_B_moveAll_4 (by decide) (fun h9 => absurd h9 (nI_ge (a := i) (b := 5) (by omega) (by decide))) (fun _ => ?_)
      refine lv_aload_n hx hb d_B_moveAll_7 rfl (lv_at hl 1 rfl) ?_
      refine va_get (D := D) (ci := 0) (v := .ref (ad 3)) (C := R_B) (T := F_B) (N := 10) hx hb hT in_B hown hK hP 0 rfl rfl 2 (by decide) (hT _ fl_B_16) (fun _ h9 => h9) rfl d_B_moveAll_8 ?_
      refine lv_iload_n hx hb d_B_moveAll_11 rfl (lv_at hl 0 rfl) ?_
      refine lv_aload_n hx hb d_B_moveAll_12 rfl (lv_at hl 1 rfl) ?_
      refine va_get (D := D) (ci := 0) (v := .ref (ad 3)) (C := R_B) (T := F_B) (N := 10) hx hb hT in_B hown hK hP 0 rfl rfl 2 (by decide) (hT _ fl_B_16) (fun _ h9 => h9) rfl d_B_moveAll_13 ?_
      refine lv_iload_n hx hb d_B_moveAll_16 rfl (lv_at hl 0 rfl) ?_
      refine va_iald hx hb hK hP 3 0 rfl rfl (by first | assumption | exact kin (by decide) | exact vp_in_nI (by omega) (by decide) | exact kin23 (by omega) | decide) d_B_moveAll_17 ?_
      refine lv_aload_n hx hb d_B_moveAll_18 rfl (lv_at hl 1 rfl) ?_
      refine lv_iload_n hx hb d_B_moveAll_19 rfl (lv_at hl 0 rfl) ?_
      refine vp_callSi (va_Run.run (va_runV (As := [.int (nI i)]) (rest := [.int (σ1 2 ((nI i)).toNatClampNeg), .int (nI i), .ref (ad 3)]) ⟨hx, hb, hml, hown, hT⟩ (c_B_motionOf l D cA ad t hap σ1 (nI i) (by first | assumption | exact kin (by decide) | exact vp_in_nI (by omega) (by decide) | exact kin23 (by omega) | decide)) (kCV 1 hT ml_B_118 mi_B_motionOf ⟨Nat.le_of_ble_eq_true rfl, Nat.le_of_ble_eq_true rfl⟩) (bpreV hK hP hZ hS) rfl rfl hl.1 rfl (lv_room (Nat.le_of_ble_eq_true rfl)) d_B_moveAll_20 ⟨Nat.le_of_ble_eq_true rfl, Nat.le_of_ble_eq_true rfl⟩)) (fun r9 e9 => ?_)
      subst e9
      refine lv_isub hx hb d_B_moveAll_23 ?_
      refine lv_sipush (v := (160 : Int32)) hx hb d_B_moveAll_24 (by decide) ?_
      refine vp_callSi (va_Run.run (va_runS (As := [.int ((σ1 2 ((nI i)).toNatClampNeg) - (f_B_motionOf σ1 (nI i))), .int (160 : Int32)]) (rest := [.int (nI i), .ref (ad 3)]) ⟨hx, hb, hml, hown, hT⟩ (c_J_floorMod l ((σ1 2 ((nI i)).toNatClampNeg) - (f_B_motionOf σ1 (nI i))) (160 : Int32) (by first | assumption | exact kin (by decide) | exact vp_in_nI (by omega) (by decide) | exact kin23 (by omega) | decide)) (kCS 2 hT ml_B_121 ms_JM_floorMod ⟨Nat.le_of_ble_eq_true rfl, Nat.le_of_ble_eq_true rfl⟩) (kpreJ) rfl rfl hl.1 rfl (lv_room (Nat.le_of_ble_eq_true rfl)) d_B_moveAll_27 ⟨Nat.le_of_ble_eq_true rfl, Nat.le_of_ble_eq_true rfl⟩)) (fun r9 e9 => ?_)
      subst e9
      refine va_iast (A := (kA 7 ad)) hx hb hK hP (hD _) hS 3 0 rfl rfl (by first | assumption | exact kin (by decide) | exact vp_in_nI (by omega) (by decide) | exact kin23 (by omega) | decide) d_B_moveAll_30 (fun H locs hP _ hS => ?_)
      have hP := kst (bw_s3 cA ad σ1 ((nI i)).toNatClampNeg (f_J_floorMod ((σ1 2 ((nI i)).toNatClampNeg) - (f_B_motionOf σ1 (nI i))) (160 : Int32))) hP
      refine lv_iinc (v := (nI (i + 1))) (lv' := [(1, .int (nI (i + 1))), (0, .ref (ad 0))]) hx hb d_B_moveAll_31 hl (k := 0) rfl (by rw [nI_succ]; rfl) (by decide) rfl (fun ls hl => ?_)
      refine lv_goto (tgt := 2) hx hb d_B_moveAll_34 (by decide) ?_
      exact ih (i + 1) (kup σ1 2 ((nI i)).toNatClampNeg (f_J_floorMod ((σ1 2 ((nI i)).toNatClampNeg) - (f_B_motionOf σ1 (nI i))) (160 : Int32))) H locs ls (by omega) (lv_sub hl [0, 1] rfl) hP hS (by rw [← hg, f_B_moveAll_lp2_s, nI_succ])
  refine lv_iconst (v := (0 : Int32)) hx hb d_B_moveAll_0 (by decide) ?_
  refine lv_istore_n (lv' := [(1, .int (0 : Int32)), (0, .ref (ad 0))]) hx hb d_B_moveAll_1 rfl hl (by decide) rfl (fun ls hl => ?_)
  exact loop2 5 0 σ s.heap [] ls rfl (lv_sub hl [0, 1] rfl) hP hS (by rw [f_B_moveAll]; rfl)

def f_B_unlock (σ : Nat → Nat → Int32) (side : Int32) : (Nat → Nat → Int32) := (kup σ 2 (((2 : Int32) + side)).toNatClampNeg (((σ 2 (side).toNatClampNeg) + ((4 : Int32) <<< ((tab1 ((f_B_copiesOf σ side)).toNatClampNeg) &&& 31))) - ((σ 2 (side).toNatClampNeg) + ((4 : Int32) <<< ((tab1 ((f_B_copiesOf σ side)).toNatClampNeg) &&& 31))) / (160 : Int32) * (160 : Int32)))

set_option maxRecDepth 100000 in
set_option maxHeartbeats 4000000 in
theorem c_B_unlock (l : Launch) (D : va_G) (cA ad t : Nat → Nat) (hap : kap 7 ad) (σ : Nat → Nat → Int32) (side : Int32) (hs : side = 0 ∨ side = 1) : Met l y_B_unlock w_B_unlock ({ frames := 1, cells := 0, slots := 0, locals := 21 } : Room) (va_Pc [.ref (ad 0), .int side] (bPre D cA ad t σ)) (kQv D (bw cA ad (f_B_unlock σ side)) (kA 7 ad)) 0 0 (kA 7 ad) := by
  refine Met.ofW (cc := b_B_unlock) (maxL := 3) (ret := none) (by decide) rfl ?_
  intro p e s m args below meth c s₁ B hml hv
  obtain ⟨rfl, hv⟩ := hv
  obtain ⟨hP, hK, hZ⟩ := hv
  have hx := B.exec
  have hb := B.bytes
  have hr := B.returns
  have hlocks := B.notSynchronized
  have hT : ∀ w ∈ TB, w.before ([.ref (ad 0), .int side] : List Value).toArray s = true := fun w h => atoms_spec (ws := w_B_unlock) B.pre w (List.mem_cons_of_mem _ h)
  have hown : s.vm.findClass R_B = some m.cls := findClass_of_methodNamed B.named
  have hS : va_S (kA 7 ad) s.heap s.heap [] := va_S.rf
  have hD : ∀ σ, va_D (kA 7 ad) (bw cA ad σ) := fun σ => kD hap rfl
  have hl := lv_entry ([.ref (ad 0), .int side]) (n := 3) (Nat.le_of_ble_eq_true rfl)
  rw [lg_entry_eq]
  generalize (lg_sl ([.ref (ad 0), .int side]) ++ List.replicate (3 - (lg_sl ([.ref (ad 0), .int side])).length) Slot.unset).toArray = ls at hl ⊢
  have hl : lv_has ls 3 [(0, .ref (ad 0)), (1, .int side)] := hl
  refine lv_iconst (v := (4 : Int32)) hx hb d_B_unlock_0 (by decide) ?_
  refine va_gets hx hb (kZ_z1 hZ) hS hown (hT _ fl_B_96) (fun _ h9 => h9) d_B_unlock_1 ?_
  refine lv_aload_n hx hb d_B_unlock_4 rfl (lv_at hl 0 rfl) ?_
  refine lv_iload_n hx hb d_B_unlock_5 rfl (lv_at hl 1 rfl) ?_
  refine vp_callSi (va_Run.run (va_runV (As := [.int side]) (rest := [.ref (t 1), .int (4 : Int32)]) ⟨hx, hb, hml, hown, hT⟩ (c_B_copiesOf l D cA ad t hap σ side (by first | assumption | exact kin (by decide) | ((rcases hs with rfl | rfl <;> exact kin (by decide))) | exact kin7 _)) (kCV 1 hT ml_B_99 mi_B_copiesOf ⟨Nat.le_of_ble_eq_true rfl, Nat.le_of_ble_eq_true rfl⟩) (bpreV hK hP hZ hS) rfl rfl hl.1 rfl (lv_room (Nat.le_of_ble_eq_true rfl)) d_B_unlock_6 ⟨Nat.le_of_ble_eq_true rfl, Nat.le_of_ble_eq_true rfl⟩)) (fun r9 e9 => ?_)
  subst e9
  refine va_ti (v := .int (tab1 ((f_B_copiesOf σ side)).toNatClampNeg)) hx hb (kZ_t1 hZ) hS (by first | assumption | exact kin (by decide) | ((rcases hs with rfl | rfl <;> exact kin (by decide))) | exact kin7 _) rfl d_B_unlock_9 ?_
  refine lv_ishl hx hb d_B_unlock_10 ?_
  refine lv_istore_n (lv' := [(2, .int ((4 : Int32) <<< ((tab1 ((f_B_copiesOf σ side)).toNatClampNeg) &&& 31))), (0, .ref (ad 0)), (1, .int side)]) hx hb d_B_unlock_11 rfl hl (by decide) rfl (fun ls hl => ?_)
  refine lv_aload_n hx hb d_B_unlock_12 rfl (lv_at hl 1 rfl) ?_
  refine va_get (D := D) (ci := 0) (v := .ref (ad 3)) (C := R_B) (T := F_B) (N := 10) hx hb hT in_B hown hK hP 0 rfl rfl 2 (by decide) (hT _ fl_B_16) (fun _ h9 => h9) rfl d_B_unlock_13 ?_
  refine lv_iconst (v := (2 : Int32)) hx hb d_B_unlock_16 (by decide) ?_
  refine lv_iload_n hx hb d_B_unlock_17 rfl (lv_at hl 2 rfl) ?_
  refine lv_iadd hx hb d_B_unlock_18 ?_
  refine lv_aload_n hx hb d_B_unlock_19 rfl (lv_at hl 1 rfl) ?_
  refine va_get (D := D) (ci := 0) (v := .ref (ad 3)) (C := R_B) (T := F_B) (N := 10) hx hb hT in_B hown hK hP 0 rfl rfl 2 (by decide) (hT _ fl_B_16) (fun _ h9 => h9) rfl d_B_unlock_20 ?_
  refine lv_iload_n hx hb d_B_unlock_23 rfl (lv_at hl 2 rfl) ?_
  refine va_iald hx hb hK hP 3 0 rfl rfl (by first | assumption | exact kin (by decide) | ((rcases hs with rfl | rfl <;> exact kin (by decide))) | exact kin7 _) d_B_unlock_24 ?_
  refine lv_iload_n hx hb d_B_unlock_25 rfl (lv_at hl 0 rfl) ?_
  refine lv_iadd hx hb d_B_unlock_26 ?_
  refine lv_sipush (v := (160 : Int32)) hx hb d_B_unlock_27 (by decide) ?_
  refine lv_irem hx hb d_B_unlock_30 (by decide) ?_
  refine va_iast (A := (kA 7 ad)) hx hb hK hP (hD _) hS 3 0 rfl rfl (by first | assumption | exact kin (by decide) | ((rcases hs with rfl | rfl <;> exact kin (by decide))) | exact kin7 _) d_B_unlock_31 (fun H locs hP _ hS => ?_)
  have hP := kst (bw_s3 cA ad σ (((2 : Int32) + side)).toNatClampNeg (((σ 2 (side).toNatClampNeg) + ((4 : Int32) <<< ((tab1 ((f_B_copiesOf σ side)).toNatClampNeg) &&& 31))) - ((σ 2 (side).toNatClampNeg) + ((4 : Int32) <<< ((tab1 ((f_B_copiesOf σ side)).toNatClampNeg) &&& 31))) / (160 : Int32) * (160 : Int32))) hP
  have e9 : (kup σ 2 (((2 : Int32) + side)).toNatClampNeg (((σ 2 (side).toNatClampNeg) + ((4 : Int32) <<< ((tab1 ((f_B_copiesOf σ side)).toNatClampNeg) &&& 31))) - ((σ 2 (side).toNatClampNeg) + ((4 : Int32) <<< ((tab1 ((f_B_copiesOf σ side)).toNatClampNeg) &&& 31))) / (160 : Int32) * (160 : Int32))) = f_B_unlock σ side := by rw [f_B_unlock]
  exact W.vret hx hb hr (fun t ht hW => ⟨rfl, by rw [ht, ← e9]; exact hP, hS.F ht⟩) hS.2.2 d_B_unlock_32

def f_B_strobe (σ : Nat → Nat → Int32) (r : Int32) : (Nat → Nat → Int32) := (if r = (33 : Int32) then (f_B_moveAll σ) else (if r = (34 : Int32) then (f_J_fill4 σ) else (if r = (35 : Int32) then (f_J_fill2 σ) else (f_B_put σ (r - (28 : Int32))))))

set_option maxRecDepth 100000 in
set_option maxHeartbeats 4000000 in
theorem c_B_strobe (l : Launch) (D : va_G) (cA ad t : Nat → Nat) (hap : kap 7 ad) (σ : Nat → Nat → Int32) (r : Int32) (h1 : vp_in r 36) (h2 : (28 : Int32) ≤ r) : Met l y_B_strobe w_B_strobe ({ frames := 2, cells := 0, slots := 0, locals := 46 } : Room) (va_Pc [.ref (ad 0), .int r] (bPre D cA ad t σ)) (kQv D (bw cA ad (f_B_strobe σ r)) (kA 7 ad)) 0 0 (kA 7 ad) := by
  refine Met.ofW (cc := b_B_strobe) (maxL := 2) (ret := none) (by decide) rfl ?_
  intro p e s m args below meth c s₁ B hml hv
  obtain ⟨rfl, hv⟩ := hv
  obtain ⟨hP, hK, hZ⟩ := hv
  have hx := B.exec
  have hb := B.bytes
  have hr := B.returns
  have hlocks := B.notSynchronized
  have hT : ∀ w ∈ TB, w.before ([.ref (ad 0), .int r] : List Value).toArray s = true := fun w h => atoms_spec (ws := w_B_strobe) B.pre w (List.mem_cons_of_mem _ h)
  have hown : s.vm.findClass R_B = some m.cls := findClass_of_methodNamed B.named
  have hS : va_S (kA 7 ad) s.heap s.heap [] := va_S.rf
  have hD : ∀ σ, va_D (kA 7 ad) (bw cA ad σ) := fun σ => kD hap rfl
  have hl := lv_entry ([.ref (ad 0), .int r]) (n := 2) (Nat.le_of_ble_eq_true rfl)
  rw [lg_entry_eq]
  generalize (lg_sl ([.ref (ad 0), .int r]) ++ List.replicate (2 - (lg_sl ([.ref (ad 0), .int r])).length) Slot.unset).toArray = ls at hl ⊢
  have hl : lv_has ls 2 [(0, .ref (ad 0)), (1, .int r)] := hl
  refine lv_iload_n hx hb d_B_strobe_0 rfl (lv_at hl 1 rfl) ?_
  by_cases q1 : r = (33 : Int32)
  · refine lv_tableIn (tgt := 28) (off := 27) hx hb d_B_strobe_1 (by rw [q1]; decide) (by rw [q1]; decide) (by rw [q1]; rfl) (by decide) ?_
    refine lv_aload_n hx hb d_B_strobe_28 rfl (lv_at hl 0 rfl) ?_
    refine kcv (va_runV (As := []) (rest := []) ⟨hx, hb, hml, hown, hT⟩ (c_B_moveAll l D cA ad t hap σ) (kCV 0 hT ml_B_103 mi_B_moveAll ⟨Nat.le_of_ble_eq_true rfl, Nat.le_of_ble_eq_true rfl⟩) (bpreV hK hP hZ hS) rfl rfl hl.1 rfl (lv_room (Nat.le_of_ble_eq_true rfl)) d_B_strobe_29 ⟨Nat.le_of_ble_eq_true rfl, Nat.le_of_ble_eq_true rfl⟩) hS (fun H locs hP hS => ?_)
    refine lv_goto (tgt := 69) hx hb d_B_strobe_32 (by decide) ?_
    have e9 : (f_B_moveAll σ) = f_B_strobe σ r := by rw [f_B_strobe, if_pos q1]
    exact W.vret hx hb hr (fun t ht hW => ⟨rfl, by rw [ht, ← e9]; exact hP, hS.F ht⟩) hS.2.2 d_B_strobe_69
  by_cases q2 : r = (34 : Int32)
  · refine lv_tableIn (tgt := 35) (off := 34) hx hb d_B_strobe_1 (by rw [q2]; decide) (by rw [q2]; decide) (by rw [q2]; rfl) (by decide) ?_
    refine lv_aload_n hx hb d_B_strobe_35 rfl (lv_at hl 0 rfl) ?_
    refine va_get (D := D) (ci := 0) (v := .ref (ad 1)) (C := R_B) (T := F_B) (N := 10) hx hb hT in_B hown hK hP 0 rfl rfl 0 (by decide) (hT _ fl_B_9) (fun _ h9 => h9) rfl d_B_strobe_36 ?_
    refine lv_bipush (v := (23 : Int32)) hx hb d_B_strobe_39 (by decide) ?_
    refine lv_bipush (v := (28 : Int32)) hx hb d_B_strobe_41 (by decide) ?_
    refine lv_iconst (v := (0 : Int32)) hx hb d_B_strobe_43 (by decide) ?_
    refine kcv (va_runS (As := [.ref (ad 1), .int (23 : Int32), .int (28 : Int32), .int (0 : Int32)]) (rest := []) ⟨hx, hb, hml, hown, hT⟩ (c_J_fill4 l D cA ad t hap σ) (kCS 4 hT ml_B_106 ms_JA_fill4 ⟨Nat.le_of_ble_eq_true rfl, Nat.le_of_ble_eq_true rfl⟩) (bpreS hK hP hZ hS) rfl rfl hl.1 rfl (lv_room (Nat.le_of_ble_eq_true rfl)) d_B_strobe_44 ⟨Nat.le_of_ble_eq_true rfl, Nat.le_of_ble_eq_true rfl⟩) hS (fun H locs hP hS => ?_)
    refine lv_goto (tgt := 69) hx hb d_B_strobe_47 (by decide) ?_
    have e9 : (f_J_fill4 σ) = f_B_strobe σ r := by rw [f_B_strobe, if_neg q1, if_pos q2]
    exact W.vret hx hb hr (fun t ht hW => ⟨rfl, by rw [ht, ← e9]; exact hP, hS.F ht⟩) hS.2.2 d_B_strobe_69
  by_cases q3 : r = (35 : Int32)
  · refine lv_tableIn (tgt := 50) (off := 49) hx hb d_B_strobe_1 (by rw [q3]; decide) (by rw [q3]; decide) (by rw [q3]; rfl) (by decide) ?_
    refine lv_aload_n hx hb d_B_strobe_50 rfl (lv_at hl 0 rfl) ?_
    refine va_get (D := D) (ci := 0) (v := .ref (ad 5)) (C := R_B) (T := F_B) (N := 10) hx hb hT in_B hown hK hP 0 rfl rfl 4 (by decide) (hT _ fl_B_22) (fun _ h9 => h9) rfl d_B_strobe_51 ?_
    refine lv_iconst (v := (0 : Int32)) hx hb d_B_strobe_54 (by decide) ?_
    refine kcv (va_runS (As := [.ref (ad 5), .int (0 : Int32)]) (rest := []) ⟨hx, hb, hml, hown, hT⟩ (c_J_fill2 l D cA ad t hap σ) (kCS 2 hT ml_B_112 ms_JA_fill2 ⟨Nat.le_of_ble_eq_true rfl, Nat.le_of_ble_eq_true rfl⟩) (bpreS hK hP hZ hS) rfl rfl hl.1 rfl (lv_room (Nat.le_of_ble_eq_true rfl)) d_B_strobe_55 ⟨Nat.le_of_ble_eq_true rfl, Nat.le_of_ble_eq_true rfl⟩) hS (fun H locs hP hS => ?_)
    refine lv_goto (tgt := 69) hx hb d_B_strobe_58 (by decide) ?_
    have e9 : (f_J_fill2 σ) = f_B_strobe σ r := by rw [f_B_strobe, if_neg q1, if_neg q2, if_pos q3]
    exact W.vret hx hb hr (fun t ht hW => ⟨rfl, by rw [ht, ← e9]; exact hP, hS.F ht⟩) hS.2.2 d_B_strobe_69
  refine lv_tableOut (tgt := 61) hx hb d_B_strobe_1 (by have a0 := lv_neT q1 (a := 33) rfl; have a1 := lv_neT q2 (a := 34) rfl; have a2 := lv_neT q3 (a := 35) rfl; omega) (by decide) ?_
  refine lv_aload_n hx hb d_B_strobe_61 rfl (lv_at hl 0 rfl) ?_
  refine lv_iload_n hx hb d_B_strobe_62 rfl (lv_at hl 1 rfl) ?_
  refine lv_bipush (v := (28 : Int32)) hx hb d_B_strobe_63 (by decide) ?_
  refine lv_isub hx hb d_B_strobe_65 ?_
  refine kcv (va_runV (As := [.int (r - (28 : Int32))]) (rest := []) ⟨hx, hb, hml, hown, hT⟩ (c_B_put l D cA ad t hap σ (r - (28 : Int32)) (by first | assumption | exact kin (by decide) | exact kin28 h1 h2 (by assumption) (by assumption) (by assumption))) (kCV 1 hT ml_B_115 mi_B_put ⟨Nat.le_of_ble_eq_true rfl, Nat.le_of_ble_eq_true rfl⟩) (bpreV hK hP hZ hS) rfl rfl hl.1 rfl (lv_room (Nat.le_of_ble_eq_true rfl)) d_B_strobe_66 ⟨Nat.le_of_ble_eq_true rfl, Nat.le_of_ble_eq_true rfl⟩) hS (fun H locs hP hS => ?_)
  have e9 : (f_B_put σ (r - (28 : Int32))) = f_B_strobe σ r := by rw [f_B_strobe, if_neg q1, if_neg q2, if_neg q3]
  exact W.vret hx hb hr (fun t ht hW => ⟨rfl, by rw [ht, ← e9]; exact hP, hS.F ht⟩) hS.2.2 d_B_strobe_69
