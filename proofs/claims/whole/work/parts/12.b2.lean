def f_B_behindPlace (σ : Nat → Nat → Int32) (o : Int32) (x : Int32) : Int32 := (f_J_floorMod (x - (σ 2 (o).toNatClampNeg)) (160 : Int32))

set_option maxRecDepth 100000 in
set_option maxHeartbeats 4000000 in
theorem c_B_behindPlace (l : Launch) (D : va_G) (cA ad t : Nat → Nat) (hap : kap 7 ad) (σ : Nat → Nat → Int32) (o : Int32) (x : Int32) (h1 : vp_in o 5) : Met l y_B_behindPlace w_B_behindPlace ({ frames := 1, cells := 0, slots := 0, locals := 22 } : Room) (va_Pc [.ref (ad 0), .int o, .int x] (bPre D cA ad t σ)) (vp_Si (fun v => v = f_B_behindPlace σ o x)) 0 0 (fun _ => False) := by
  refine Met.ofW (cc := b_B_behindPlace) (maxL := 3) (ret := (some .int)) (by decide) rfl ?_
  intro p e s m args below meth c s₁ B hml hv
  obtain ⟨rfl, hv⟩ := hv
  obtain ⟨hP, hK, hZ⟩ := hv
  have hx := B.exec
  have hb := B.bytes
  have hr := B.returns
  have hlocks := B.notSynchronized
  have hT : ∀ w ∈ TB, w.before ([.ref (ad 0), .int o, .int x] : List Value).toArray s = true := fun w h => atoms_spec (ws := w_B_behindPlace) B.pre w (List.mem_cons_of_mem _ h)
  have hown : s.vm.findClass R_B = some m.cls := findClass_of_methodNamed B.named
  have hS : va_S (kA 7 ad) s.heap s.heap [] := va_S.rf
  have hl := lv_entry ([.ref (ad 0), .int o, .int x]) (n := 3) (Nat.le_of_ble_eq_true rfl)
  rw [lg_entry_eq]
  generalize (lg_sl ([.ref (ad 0), .int o, .int x]) ++ List.replicate (3 - (lg_sl ([.ref (ad 0), .int o, .int x])).length) Slot.unset).toArray = ls at hl ⊢
  have hl : lv_has ls 3 [(0, .ref (ad 0)), (1, .int o), (2, .int x)] := hl
  refine lv_iload_n hx hb d_B_behindPlace_0 rfl (lv_at hl 2 rfl) ?_
  refine lv_aload_n hx hb d_B_behindPlace_1 rfl (lv_at hl 0 rfl) ?_
  refine va_get (D := D) (ci := 0) (v := .ref (ad 3)) (C := R_B) (T := F_B) (N := 10) hx hb hT in_B hown hK hP 0 rfl rfl 2 (by decide) (hT _ fl_B_16) (fun _ h9 => h9) rfl d_B_behindPlace_2 ?_
  refine lv_iload_n hx hb d_B_behindPlace_5 rfl (lv_at hl 1 rfl) ?_
  refine va_iald hx hb hK hP 3 0 rfl rfl (by first | assumption | exact kin (by decide) | decide) d_B_behindPlace_6 ?_
  refine lv_isub hx hb d_B_behindPlace_7 ?_
  refine lv_sipush (v := (160 : Int32)) hx hb d_B_behindPlace_8 (by decide) ?_
  refine vp_callSi (va_Run.run (va_runS (As := [.int (x - (σ 2 (o).toNatClampNeg)), .int (160 : Int32)]) (rest := []) ⟨hx, hb, hml, hown, hT⟩ (c_J_floorMod l (x - (σ 2 (o).toNatClampNeg)) (160 : Int32) (by first | assumption | exact kin (by decide) | decide)) (kCS 2 hT ml_B_121 ms_JM_floorMod ⟨Nat.le_of_ble_eq_true rfl, Nat.le_of_ble_eq_true rfl⟩) (kpreJ) rfl rfl hl.1 rfl (lv_room (Nat.le_of_ble_eq_true rfl)) d_B_behindPlace_11 ⟨Nat.le_of_ble_eq_true rfl, Nat.le_of_ble_eq_true rfl⟩)) (fun r9 e9 => ?_)
  subst e9
  have e9 : (f_J_floorMod (x - (σ 2 (o).toNatClampNeg)) (160 : Int32)) = f_B_behindPlace σ o x := by rw [f_B_behindPlace]
  exact W.iret (v := (f_J_floorMod (x - (σ 2 (o).toNatClampNeg)) (160 : Int32))) hx hb hr (fun t ht hW => ⟨_, rfl, e9, ht⟩) (fun _ h => absurd h List.not_mem_nil) d_B_behindPlace_14

def f_B_behindCopy (cp : Int32) (bh : Int32) : Int32 := (if (tab1 (cp).toNatClampNeg) ≤ 0 then (if (((tab0 (cp).toNatClampNeg) >>> ((bh / (16 : Int32)) &&& 31)) &&& (1 : Int32)) = 0 then (160 : Int32) else (bh - bh / (16 : Int32) * (16 : Int32))) else bh)

set_option maxRecDepth 100000 in
set_option maxHeartbeats 4000000 in
theorem c_B_behindCopy (l : Launch) (D : va_G) (cA ad t : Nat → Nat) (hap : kap 7 ad) (σ : Nat → Nat → Int32) (cp : Int32) (bh : Int32) (h1 : vp_in cp 8) : Met l y_B_behindCopy w_B_behindCopy ({ frames := 0, cells := 0, slots := 0, locals := 0 } : Room) (va_Pc [.int cp, .int bh] (bPre D cA ad t σ)) (vp_Si (fun v => v = f_B_behindCopy cp bh)) 0 0 (fun _ => False) := by
  refine Met.ofW (cc := b_B_behindCopy) (maxL := 3) (ret := (some .int)) (by decide) rfl ?_
  intro p e s m args below meth c s₁ B hml hv
  obtain ⟨rfl, hv⟩ := hv
  obtain ⟨hP, hK, hZ⟩ := hv
  have hx := B.exec
  have hb := B.bytes
  have hr := B.returns
  have hlocks := B.notSynchronized
  have hT : ∀ w ∈ TB, w.before ([.int cp, .int bh] : List Value).toArray s = true := fun w h => atoms_spec (ws := w_B_behindCopy) B.pre w (List.mem_cons_of_mem _ h)
  have hown : s.vm.findClass R_B = some m.cls := findClass_of_methodNamed B.named
  have hS : va_S (kA 7 ad) s.heap s.heap [] := va_S.rf
  have hl := lv_entry ([.int cp, .int bh]) (n := 3) (Nat.le_of_ble_eq_true rfl)
  rw [lg_entry_eq]
  generalize (lg_sl ([.int cp, .int bh]) ++ List.replicate (3 - (lg_sl ([.int cp, .int bh])).length) Slot.unset).toArray = ls at hl ⊢
  have hl : lv_has ls 3 [(0, .int cp), (1, .int bh)] := hl
  refine va_gets hx hb (kZ_z1 hZ) hS hown (hT _ fl_B_96) (fun _ h9 => h9) d_B_behindCopy_0 ?_
  refine lv_iload_n hx hb d_B_behindCopy_3 rfl (lv_at hl 0 rfl) ?_
  refine va_ti (v := .int (tab1 (cp).toNatClampNeg)) hx hb (kZ_t1 hZ) hS (by first | assumption | exact kin (by decide)) rfl d_B_behindCopy_4 ?_
  refine lv_if_le (tgt := 10) hx hb d_B_behindCopy_5 (by decide) (fun q1 => ?_) (fun q1 => ?_)
  · refine va_gets hx hb (kZ_z0 hZ) hS hown (hT _ fl_B_174) (fun _ h9 => h9) d_B_behindCopy_10 ?_
    refine lv_iload_n hx hb d_B_behindCopy_13 rfl (lv_at hl 0 rfl) ?_
    refine va_ti (v := .int (tab0 (cp).toNatClampNeg)) hx hb (kZ_t0 hZ) hS (by first | assumption | exact kin (by decide)) rfl d_B_behindCopy_14 ?_
    refine lv_iload_n hx hb d_B_behindCopy_15 rfl (lv_at hl 1 rfl) ?_
    refine lv_bipush (v := (16 : Int32)) hx hb d_B_behindCopy_16 (by decide) ?_
    refine lv_idiv hx hb d_B_behindCopy_18 (by decide) ?_
    refine lv_ishr hx hb d_B_behindCopy_19 ?_
    refine lv_iconst (v := (1 : Int32)) hx hb d_B_behindCopy_20 (by decide) ?_
    refine lv_iand hx hb d_B_behindCopy_21 ?_
    refine lv_if_eq (tgt := 29) hx hb d_B_behindCopy_22 (by decide) (fun q2 => ?_) (fun q2 => ?_)
    · refine lv_iconst (v := (0 : Int32)) hx hb d_B_behindCopy_29 (by decide) ?_
      refine lv_istore_n (lv' := [(2, .int (0 : Int32)), (0, .int cp), (1, .int bh)]) hx hb d_B_behindCopy_30 rfl hl (by decide) rfl (fun ls hl => ?_)
      refine lv_iload_n hx hb d_B_behindCopy_31 rfl (lv_at hl 0 rfl) ?_
      refine lv_if_eq (tgt := 42) hx hb d_B_behindCopy_32 (by decide) (fun _ => ?_) (fun h9 => absurd (by decide) h9)
      refine lv_sipush (v := (160 : Int32)) hx hb d_B_behindCopy_42 (by decide) ?_
      have e9 : (160 : Int32) = f_B_behindCopy cp bh := by rw [f_B_behindCopy, if_pos q1, if_pos q2]
      exact W.iret (v := (160 : Int32)) hx hb hr (fun t ht hW => ⟨_, rfl, e9, ht⟩) (fun _ h => absurd h List.not_mem_nil) d_B_behindCopy_45
    · refine lv_iconst (v := (1 : Int32)) hx hb d_B_behindCopy_25 (by decide) ?_
      refine lv_goto (tgt := 30) hx hb d_B_behindCopy_26 (by decide) ?_
      refine lv_istore_n (lv' := [(2, .int (1 : Int32)), (0, .int cp), (1, .int bh)]) hx hb d_B_behindCopy_30 rfl hl (by decide) rfl (fun ls hl => ?_)
      refine lv_iload_n hx hb d_B_behindCopy_31 rfl (lv_at hl 0 rfl) ?_
      refine lv_if_eq (tgt := 42) hx hb d_B_behindCopy_32 (by decide) (fun h9 => absurd h9 (by decide)) (fun _ => ?_)
      refine lv_iload_n hx hb d_B_behindCopy_35 rfl (lv_at hl 2 rfl) ?_
      refine lv_bipush (v := (16 : Int32)) hx hb d_B_behindCopy_36 (by decide) ?_
      refine lv_irem hx hb d_B_behindCopy_38 (by decide) ?_
      refine lv_goto (tgt := 45) hx hb d_B_behindCopy_39 (by decide) ?_
      have e9 : (bh - bh / (16 : Int32) * (16 : Int32)) = f_B_behindCopy cp bh := by rw [f_B_behindCopy, if_pos q1, if_neg q2]
      exact W.iret (v := (bh - bh / (16 : Int32) * (16 : Int32))) hx hb hr (fun t ht hW => ⟨_, rfl, e9, ht⟩) (fun _ h => absurd h List.not_mem_nil) d_B_behindCopy_45
  · refine lv_iload_n hx hb d_B_behindCopy_8 rfl (lv_at hl 1 rfl) ?_
    have e9 : bh = f_B_behindCopy cp bh := by rw [f_B_behindCopy, if_neg q1]
    exact W.iret (v := bh) hx hb hr (fun t ht hW => ⟨_, rfl, e9, ht⟩) (fun _ h => absurd h List.not_mem_nil) d_B_behindCopy_9

def f_B_motionOf (σ : Nat → Nat → Int32) (o : Int32) : Int32 := (if (8 : Int32) ≤ ((σ 0 (((23 : Int32) + o)).toNatClampNeg) >>> ((4 : Int32) &&& 31)) then (((σ 0 (((23 : Int32) + o)).toNatClampNeg) >>> ((4 : Int32) &&& 31)) - (16 : Int32)) else ((σ 0 (((23 : Int32) + o)).toNatClampNeg) >>> ((4 : Int32) &&& 31)))

set_option maxRecDepth 100000 in
set_option maxHeartbeats 4000000 in
theorem c_B_motionOf (l : Launch) (D : va_G) (cA ad t : Nat → Nat) (hap : kap 7 ad) (σ : Nat → Nat → Int32) (o : Int32) (h1 : vp_in (23 + o) 36) : Met l y_B_motionOf w_B_motionOf ({ frames := 0, cells := 0, slots := 0, locals := 0 } : Room) (va_Pc [.ref (ad 0), .int o] (bPre D cA ad t σ)) (vp_Si (fun v => v = f_B_motionOf σ o)) 0 0 (fun _ => False) := by
  refine Met.ofW (cc := b_B_motionOf) (maxL := 3) (ret := (some .int)) (by decide) rfl ?_
  intro p e s m args below meth c s₁ B hml hv
  obtain ⟨rfl, hv⟩ := hv
  obtain ⟨hP, hK, hZ⟩ := hv
  have hx := B.exec
  have hb := B.bytes
  have hr := B.returns
  have hlocks := B.notSynchronized
  have hT : ∀ w ∈ TB, w.before ([.ref (ad 0), .int o] : List Value).toArray s = true := fun w h => atoms_spec (ws := w_B_motionOf) B.pre w (List.mem_cons_of_mem _ h)
  have hown : s.vm.findClass R_B = some m.cls := findClass_of_methodNamed B.named
  have hS : va_S (kA 7 ad) s.heap s.heap [] := va_S.rf
  have hl := lv_entry ([.ref (ad 0), .int o]) (n := 3) (Nat.le_of_ble_eq_true rfl)
  rw [lg_entry_eq]
  generalize (lg_sl ([.ref (ad 0), .int o]) ++ List.replicate (3 - (lg_sl ([.ref (ad 0), .int o])).length) Slot.unset).toArray = ls at hl ⊢
  have hl : lv_has ls 3 [(0, .ref (ad 0)), (1, .int o)] := hl
  refine lv_aload_n hx hb d_B_motionOf_0 rfl (lv_at hl 0 rfl) ?_
  refine va_get (D := D) (ci := 0) (v := .ref (ad 1)) (C := R_B) (T := F_B) (N := 10) hx hb hT in_B hown hK hP 0 rfl rfl 0 (by decide) (hT _ fl_B_9) (fun _ h9 => h9) rfl d_B_motionOf_1 ?_
  refine lv_bipush (v := (23 : Int32)) hx hb d_B_motionOf_4 (by decide) ?_
  refine lv_iload_n hx hb d_B_motionOf_6 rfl (lv_at hl 1 rfl) ?_
  refine lv_iadd hx hb d_B_motionOf_7 ?_
  refine va_iald hx hb hK hP 1 0 rfl rfl (by first | assumption | exact kin (by decide)) d_B_motionOf_8 ?_
  refine lv_iconst (v := (4 : Int32)) hx hb d_B_motionOf_9 (by decide) ?_
  refine lv_ishr hx hb d_B_motionOf_10 ?_
  refine lv_istore_n (lv' := [(2, .int ((σ 0 (((23 : Int32) + o)).toNatClampNeg) >>> ((4 : Int32) &&& 31))), (0, .ref (ad 0)), (1, .int o)]) hx hb d_B_motionOf_11 rfl hl (by decide) rfl (fun ls hl => ?_)
  refine lv_iload_n hx hb d_B_motionOf_12 rfl (lv_at hl 0 rfl) ?_
  refine lv_bipush (v := (8 : Int32)) hx hb d_B_motionOf_13 (by decide) ?_
  refine lv_icmp_ge (tgt := 22) hx hb d_B_motionOf_15 (by decide) (fun q1 => ?_) (fun q1 => ?_)
  · refine lv_iload_n hx hb d_B_motionOf_22 rfl (lv_at hl 0 rfl) ?_
    refine lv_bipush (v := (16 : Int32)) hx hb d_B_motionOf_23 (by decide) ?_
    refine lv_isub hx hb d_B_motionOf_25 ?_
    have e9 : (((σ 0 (((23 : Int32) + o)).toNatClampNeg) >>> ((4 : Int32) &&& 31)) - (16 : Int32)) = f_B_motionOf σ o := by rw [f_B_motionOf, if_pos q1]
    exact W.iret (v := (((σ 0 (((23 : Int32) + o)).toNatClampNeg) >>> ((4 : Int32) &&& 31)) - (16 : Int32))) hx hb hr (fun t ht hW => ⟨_, rfl, e9, ht⟩) (fun _ h => absurd h List.not_mem_nil) d_B_motionOf_26
  · refine lv_iload_n hx hb d_B_motionOf_18 rfl (lv_at hl 0 rfl) ?_
    refine lv_goto (tgt := 26) hx hb d_B_motionOf_19 (by decide) ?_
    have e9 : ((σ 0 (((23 : Int32) + o)).toNatClampNeg) >>> ((4 : Int32) &&& 31)) = f_B_motionOf σ o := by rw [f_B_motionOf, if_neg q1]
    exact W.iret (v := ((σ 0 (((23 : Int32) + o)).toNatClampNeg) >>> ((4 : Int32) &&& 31))) hx hb hr (fun t ht hW => ⟨_, rfl, e9, ht⟩) (fun _ h => absurd h List.not_mem_nil) d_B_motionOf_26

def f_B_hasFieldBit (σ : Nat → Nat → Int32) (q : Int32) : Int32 := (if (4 : Int32) ≤ q then (if (12 : Int32) ≤ q then (f_B_hasBit σ (7 : Int32) ((1 : Int32) <<< ((q - (12 : Int32)) &&& 31))) else (f_B_hasBit σ (6 : Int32) ((128 : Int32) >>> ((q - (4 : Int32)) &&& 31)))) else (f_B_hasBit σ (5 : Int32) ((16 : Int32) <<< (q &&& 31))))

theorem z_B_hasFieldBit (σ : Nat → Nat → Int32) (q : Int32) : f_B_hasFieldBit σ q = 0 ∨ f_B_hasFieldBit σ q = 1 := by
  rw [f_B_hasFieldBit]
  repeat' split
  all_goals first | with_reducible exact Or.inl rfl | with_reducible exact Or.inr rfl | with_reducible exact z_B_hasBit ..

set_option maxRecDepth 100000 in
set_option maxHeartbeats 4000000 in
theorem c_B_hasFieldBit (l : Launch) (D : va_G) (cA ad t : Nat → Nat) (hap : kap 7 ad) (σ : Nat → Nat → Int32) (q : Int32) : Met l y_B_hasFieldBit w_B_hasFieldBit ({ frames := 1, cells := 0, slots := 0, locals := 22 } : Room) (va_Pc [.ref (ad 0), .int q] (bPre D cA ad t σ)) (vp_Si (fun v => v = f_B_hasFieldBit σ q)) 0 0 (fun _ => False) := by
  refine Met.ofW (cc := b_B_hasFieldBit) (maxL := 2) (ret := (some .boolean)) (by decide) rfl ?_
  intro p e s m args below meth c s₁ B hml hv
  obtain ⟨rfl, hv⟩ := hv
  obtain ⟨hP, hK, hZ⟩ := hv
  have hx := B.exec
  have hb := B.bytes
  have hr := B.returns
  have hlocks := B.notSynchronized
  have hT : ∀ w ∈ TB, w.before ([.ref (ad 0), .int q] : List Value).toArray s = true := fun w h => atoms_spec (ws := w_B_hasFieldBit) B.pre w (List.mem_cons_of_mem _ h)
  have hown : s.vm.findClass R_B = some m.cls := findClass_of_methodNamed B.named
  have hS : va_S (kA 7 ad) s.heap s.heap [] := va_S.rf
  have hl := lv_entry ([.ref (ad 0), .int q]) (n := 2) (Nat.le_of_ble_eq_true rfl)
  rw [lg_entry_eq]
  generalize (lg_sl ([.ref (ad 0), .int q]) ++ List.replicate (2 - (lg_sl ([.ref (ad 0), .int q])).length) Slot.unset).toArray = ls at hl ⊢
  have hl : lv_has ls 2 [(0, .ref (ad 0)), (1, .int q)] := hl
  refine lv_iload_n hx hb d_B_hasFieldBit_0 rfl (lv_at hl 1 rfl) ?_
  refine lv_iconst (v := (4 : Int32)) hx hb d_B_hasFieldBit_1 (by decide) ?_
  refine lv_icmp_ge (tgt := 15) hx hb d_B_hasFieldBit_2 (by decide) (fun q1 => ?_) (fun q1 => ?_)
  · refine lv_iload_n hx hb d_B_hasFieldBit_15 rfl (lv_at hl 1 rfl) ?_
    refine lv_bipush (v := (12 : Int32)) hx hb d_B_hasFieldBit_16 (by decide) ?_
    refine lv_icmp_ge (tgt := 35) hx hb d_B_hasFieldBit_18 (by decide) (fun q2 => ?_) (fun q2 => ?_)
    · refine lv_aload_n hx hb d_B_hasFieldBit_35 rfl (lv_at hl 0 rfl) ?_
      refine lv_bipush (v := (7 : Int32)) hx hb d_B_hasFieldBit_36 (by decide) ?_
      refine lv_iconst (v := (1 : Int32)) hx hb d_B_hasFieldBit_38 (by decide) ?_
      refine lv_iload_n hx hb d_B_hasFieldBit_39 rfl (lv_at hl 1 rfl) ?_
      refine lv_bipush (v := (12 : Int32)) hx hb d_B_hasFieldBit_40 (by decide) ?_
      refine lv_isub hx hb d_B_hasFieldBit_42 ?_
      refine lv_ishl hx hb d_B_hasFieldBit_43 ?_
      refine vp_callSi (va_Run.run (va_runV (As := [.int (7 : Int32), .int ((1 : Int32) <<< ((q - (12 : Int32)) &&& 31))]) (rest := []) ⟨hx, hb, hml, hown, hT⟩ (c_B_hasBit l D cA ad t hap σ (7 : Int32) ((1 : Int32) <<< ((q - (12 : Int32)) &&& 31)) (by first | assumption | exact kin (by decide))) (kCV 2 hT ml_B_90 mi_B_hasBit ⟨Nat.le_of_ble_eq_true rfl, Nat.le_of_ble_eq_true rfl⟩) (bpreV hK hP hZ hS) rfl rfl hl.1 rfl (lv_room (Nat.le_of_ble_eq_true rfl)) d_B_hasFieldBit_44 ⟨Nat.le_of_ble_eq_true rfl, Nat.le_of_ble_eq_true rfl⟩)) (fun r9 e9 => ?_)
      subst e9
      have e9 : (f_B_hasBit σ (7 : Int32) ((1 : Int32) <<< ((q - (12 : Int32)) &&& 31))) = f_B_hasFieldBit σ q := by rw [f_B_hasFieldBit, if_pos q1, if_pos q2]
      exact W.zret (v := (f_B_hasBit σ (7 : Int32) ((1 : Int32) <<< ((q - (12 : Int32)) &&& 31)))) hx hb hr (kz_nar (z_B_hasBit ..)) (fun t ht hW => ⟨_, rfl, e9, ht⟩) (fun _ h => absurd h List.not_mem_nil) d_B_hasFieldBit_47
    · refine lv_aload_n hx hb d_B_hasFieldBit_21 rfl (lv_at hl 0 rfl) ?_
      refine lv_bipush (v := (6 : Int32)) hx hb d_B_hasFieldBit_22 (by decide) ?_
      refine lv_sipush (v := (128 : Int32)) hx hb d_B_hasFieldBit_24 (by decide) ?_
      refine lv_iload_n hx hb d_B_hasFieldBit_27 rfl (lv_at hl 1 rfl) ?_
      refine lv_iconst (v := (4 : Int32)) hx hb d_B_hasFieldBit_28 (by decide) ?_
      refine lv_isub hx hb d_B_hasFieldBit_29 ?_
      refine lv_ishr hx hb d_B_hasFieldBit_30 ?_
      refine vp_callSi (va_Run.run (va_runV (As := [.int (6 : Int32), .int ((128 : Int32) >>> ((q - (4 : Int32)) &&& 31))]) (rest := []) ⟨hx, hb, hml, hown, hT⟩ (c_B_hasBit l D cA ad t hap σ (6 : Int32) ((128 : Int32) >>> ((q - (4 : Int32)) &&& 31)) (by first | assumption | exact kin (by decide))) (kCV 2 hT ml_B_90 mi_B_hasBit ⟨Nat.le_of_ble_eq_true rfl, Nat.le_of_ble_eq_true rfl⟩) (bpreV hK hP hZ hS) rfl rfl hl.1 rfl (lv_room (Nat.le_of_ble_eq_true rfl)) d_B_hasFieldBit_31 ⟨Nat.le_of_ble_eq_true rfl, Nat.le_of_ble_eq_true rfl⟩)) (fun r9 e9 => ?_)
      subst e9
      have e9 : (f_B_hasBit σ (6 : Int32) ((128 : Int32) >>> ((q - (4 : Int32)) &&& 31))) = f_B_hasFieldBit σ q := by rw [f_B_hasFieldBit, if_pos q1, if_neg q2]
      exact W.zret (v := (f_B_hasBit σ (6 : Int32) ((128 : Int32) >>> ((q - (4 : Int32)) &&& 31)))) hx hb hr (kz_nar (z_B_hasBit ..)) (fun t ht hW => ⟨_, rfl, e9, ht⟩) (fun _ h => absurd h List.not_mem_nil) d_B_hasFieldBit_34
  · refine lv_aload_n hx hb d_B_hasFieldBit_5 rfl (lv_at hl 0 rfl) ?_
    refine lv_iconst (v := (5 : Int32)) hx hb d_B_hasFieldBit_6 (by decide) ?_
    refine lv_bipush (v := (16 : Int32)) hx hb d_B_hasFieldBit_7 (by decide) ?_
    refine lv_iload_n hx hb d_B_hasFieldBit_9 rfl (lv_at hl 1 rfl) ?_
    refine lv_ishl hx hb d_B_hasFieldBit_10 ?_
    refine vp_callSi (va_Run.run (va_runV (As := [.int (5 : Int32), .int ((16 : Int32) <<< (q &&& 31))]) (rest := []) ⟨hx, hb, hml, hown, hT⟩ (c_B_hasBit l D cA ad t hap σ (5 : Int32) ((16 : Int32) <<< (q &&& 31)) (by first | assumption | exact kin (by decide))) (kCV 2 hT ml_B_90 mi_B_hasBit ⟨Nat.le_of_ble_eq_true rfl, Nat.le_of_ble_eq_true rfl⟩) (bpreV hK hP hZ hS) rfl rfl hl.1 rfl (lv_room (Nat.le_of_ble_eq_true rfl)) d_B_hasFieldBit_11 ⟨Nat.le_of_ble_eq_true rfl, Nat.le_of_ble_eq_true rfl⟩)) (fun r9 e9 => ?_)
    subst e9
    have e9 : (f_B_hasBit σ (5 : Int32) ((16 : Int32) <<< (q &&& 31))) = f_B_hasFieldBit σ q := by rw [f_B_hasFieldBit, if_neg q1]
    exact W.zret (v := (f_B_hasBit σ (5 : Int32) ((16 : Int32) <<< (q &&& 31)))) hx hb hr (kz_nar (z_B_hasBit ..)) (fun t ht hW => ⟨_, rfl, e9, ht⟩) (fun _ h => absurd h List.not_mem_nil) d_B_hasFieldBit_14

def f_B_isFieldAt (σ : Nat → Nat → Int32) (x : Int32) : Int32 := (if (80 : Int32) ≤ x then (if (f_B_hasBit σ (8 : Int32) (1 : Int32)) = 0 then (f_B_hasFieldBit σ ((x - (80 : Int32)) / (4 : Int32))) else (f_B_hasFieldBit σ ((19 : Int32) - ((x - (80 : Int32)) / (4 : Int32))))) else (f_B_hasFieldBit σ (x / (4 : Int32))))

theorem z_B_isFieldAt (σ : Nat → Nat → Int32) (x : Int32) : f_B_isFieldAt σ x = 0 ∨ f_B_isFieldAt σ x = 1 := by
  rw [f_B_isFieldAt]
  repeat' split
  all_goals first | with_reducible exact Or.inl rfl | with_reducible exact Or.inr rfl | with_reducible exact z_B_hasFieldBit ..

set_option maxRecDepth 100000 in
set_option maxHeartbeats 4000000 in
theorem c_B_isFieldAt (l : Launch) (D : va_G) (cA ad t : Nat → Nat) (hap : kap 7 ad) (σ : Nat → Nat → Int32) (x : Int32) : Met l y_B_isFieldAt w_B_isFieldAt ({ frames := 2, cells := 0, slots := 0, locals := 43 } : Room) (va_Pc [.ref (ad 0), .int x] (bPre D cA ad t σ)) (vp_Si (fun v => v = f_B_isFieldAt σ x)) 0 0 (fun _ => False) := by
  refine Met.ofW (cc := b_B_isFieldAt) (maxL := 3) (ret := (some .boolean)) (by decide) rfl ?_
  intro p e s m args below meth c s₁ B hml hv
  obtain ⟨rfl, hv⟩ := hv
  obtain ⟨hP, hK, hZ⟩ := hv
  have hx := B.exec
  have hb := B.bytes
  have hr := B.returns
  have hlocks := B.notSynchronized
  have hT : ∀ w ∈ TB, w.before ([.ref (ad 0), .int x] : List Value).toArray s = true := fun w h => atoms_spec (ws := w_B_isFieldAt) B.pre w (List.mem_cons_of_mem _ h)
  have hown : s.vm.findClass R_B = some m.cls := findClass_of_methodNamed B.named
  have hS : va_S (kA 7 ad) s.heap s.heap [] := va_S.rf
  have hl := lv_entry ([.ref (ad 0), .int x]) (n := 3) (Nat.le_of_ble_eq_true rfl)
  rw [lg_entry_eq]
  generalize (lg_sl ([.ref (ad 0), .int x]) ++ List.replicate (3 - (lg_sl ([.ref (ad 0), .int x])).length) Slot.unset).toArray = ls at hl ⊢
  have hl : lv_has ls 3 [(0, .ref (ad 0)), (1, .int x)] := hl
  refine lv_iload_n hx hb d_B_isFieldAt_0 rfl (lv_at hl 1 rfl) ?_
  refine lv_bipush (v := (80 : Int32)) hx hb d_B_isFieldAt_1 (by decide) ?_
  refine lv_icmp_ge (tgt := 14) hx hb d_B_isFieldAt_3 (by decide) (fun q1 => ?_) (fun q1 => ?_)
  · refine lv_iload_n hx hb d_B_isFieldAt_14 rfl (lv_at hl 1 rfl) ?_
    refine lv_bipush (v := (80 : Int32)) hx hb d_B_isFieldAt_15 (by decide) ?_
    refine lv_isub hx hb d_B_isFieldAt_17 ?_
    refine lv_iconst (v := (4 : Int32)) hx hb d_B_isFieldAt_18 (by decide) ?_
    refine lv_idiv hx hb d_B_isFieldAt_19 (by decide) ?_
    refine lv_istore_n (lv' := [(2, .int ((x - (80 : Int32)) / (4 : Int32))), (0, .ref (ad 0)), (1, .int x)]) hx hb d_B_isFieldAt_20 rfl hl (by decide) rfl (fun ls hl => ?_)
    refine lv_aload_n hx hb d_B_isFieldAt_21 rfl (lv_at hl 1 rfl) ?_
    refine lv_aload_n hx hb d_B_isFieldAt_22 rfl (lv_at hl 1 rfl) ?_
    refine lv_bipush (v := (8 : Int32)) hx hb d_B_isFieldAt_23 (by decide) ?_
    refine lv_iconst (v := (1 : Int32)) hx hb d_B_isFieldAt_25 (by decide) ?_
    refine vp_callSi (va_Run.run (va_runV (As := [.int (8 : Int32), .int (1 : Int32)]) (rest := [.ref (ad 0)]) ⟨hx, hb, hml, hown, hT⟩ (c_B_hasBit l D cA ad t hap σ (8 : Int32) (1 : Int32) (by first | assumption | exact kin (by decide))) (kCV 2 hT ml_B_90 mi_B_hasBit ⟨Nat.le_of_ble_eq_true rfl, Nat.le_of_ble_eq_true rfl⟩) (bpreV hK hP hZ hS) rfl rfl hl.1 rfl (lv_room (Nat.le_of_ble_eq_true rfl)) d_B_isFieldAt_26 ⟨Nat.le_of_ble_eq_true rfl, Nat.le_of_ble_eq_true rfl⟩)) (fun r9 e9 => ?_)
    subst e9
    refine lv_if_eq (tgt := 39) hx hb d_B_isFieldAt_29 (by decide) (fun q2 => ?_) (fun q2 => ?_)
    · refine lv_iload_n hx hb d_B_isFieldAt_39 rfl (lv_at hl 0 rfl) ?_
      refine vp_callSi (va_Run.run (va_runV (As := [.int ((x - (80 : Int32)) / (4 : Int32))]) (rest := []) ⟨hx, hb, hml, hown, hT⟩ (c_B_hasFieldBit l D cA ad t hap σ ((x - (80 : Int32)) / (4 : Int32))) (kCV 1 hT ml_B_171 mi_B_hasFieldBit ⟨Nat.le_of_ble_eq_true rfl, Nat.le_of_ble_eq_true rfl⟩) (bpreV hK hP hZ hS) rfl rfl hl.1 rfl (lv_room (Nat.le_of_ble_eq_true rfl)) d_B_isFieldAt_40 ⟨Nat.le_of_ble_eq_true rfl, Nat.le_of_ble_eq_true rfl⟩)) (fun r9 e9 => ?_)
      subst e9
      have e9 : (f_B_hasFieldBit σ ((x - (80 : Int32)) / (4 : Int32))) = f_B_isFieldAt σ x := by rw [f_B_isFieldAt, if_pos q1, if_pos q2]
      exact W.zret (v := (f_B_hasFieldBit σ ((x - (80 : Int32)) / (4 : Int32)))) hx hb hr (kz_nar (z_B_hasFieldBit ..)) (fun t ht hW => ⟨_, rfl, e9, ht⟩) (fun _ h => absurd h List.not_mem_nil) d_B_isFieldAt_43
    · refine lv_bipush (v := (19 : Int32)) hx hb d_B_isFieldAt_32 (by decide) ?_
      refine lv_iload_n hx hb d_B_isFieldAt_34 rfl (lv_at hl 0 rfl) ?_
      refine lv_isub hx hb d_B_isFieldAt_35 ?_
      refine lv_goto (tgt := 40) hx hb d_B_isFieldAt_36 (by decide) ?_
      refine vp_callSi (va_Run.run (va_runV (As := [.int ((19 : Int32) - ((x - (80 : Int32)) / (4 : Int32)))]) (rest := []) ⟨hx, hb, hml, hown, hT⟩ (c_B_hasFieldBit l D cA ad t hap σ ((19 : Int32) - ((x - (80 : Int32)) / (4 : Int32)))) (kCV 1 hT ml_B_171 mi_B_hasFieldBit ⟨Nat.le_of_ble_eq_true rfl, Nat.le_of_ble_eq_true rfl⟩) (bpreV hK hP hZ hS) rfl rfl hl.1 rfl (lv_room (Nat.le_of_ble_eq_true rfl)) d_B_isFieldAt_40 ⟨Nat.le_of_ble_eq_true rfl, Nat.le_of_ble_eq_true rfl⟩)) (fun r9 e9 => ?_)
      subst e9
      have e9 : (f_B_hasFieldBit σ ((19 : Int32) - ((x - (80 : Int32)) / (4 : Int32)))) = f_B_isFieldAt σ x := by rw [f_B_isFieldAt, if_pos q1, if_neg q2]
      exact W.zret (v := (f_B_hasFieldBit σ ((19 : Int32) - ((x - (80 : Int32)) / (4 : Int32))))) hx hb hr (kz_nar (z_B_hasFieldBit ..)) (fun t ht hW => ⟨_, rfl, e9, ht⟩) (fun _ h => absurd h List.not_mem_nil) d_B_isFieldAt_43
  · refine lv_aload_n hx hb d_B_isFieldAt_6 rfl (lv_at hl 0 rfl) ?_
    refine lv_iload_n hx hb d_B_isFieldAt_7 rfl (lv_at hl 1 rfl) ?_
    refine lv_iconst (v := (4 : Int32)) hx hb d_B_isFieldAt_8 (by decide) ?_
    refine lv_idiv hx hb d_B_isFieldAt_9 (by decide) ?_
    refine vp_callSi (va_Run.run (va_runV (As := [.int (x / (4 : Int32))]) (rest := []) ⟨hx, hb, hml, hown, hT⟩ (c_B_hasFieldBit l D cA ad t hap σ (x / (4 : Int32))) (kCV 1 hT ml_B_171 mi_B_hasFieldBit ⟨Nat.le_of_ble_eq_true rfl, Nat.le_of_ble_eq_true rfl⟩) (bpreV hK hP hZ hS) rfl rfl hl.1 rfl (lv_room (Nat.le_of_ble_eq_true rfl)) d_B_isFieldAt_10 ⟨Nat.le_of_ble_eq_true rfl, Nat.le_of_ble_eq_true rfl⟩)) (fun r9 e9 => ?_)
    subst e9
    have e9 : (f_B_hasFieldBit σ (x / (4 : Int32))) = f_B_isFieldAt σ x := by rw [f_B_isFieldAt, if_neg q1]
    exact W.zret (v := (f_B_hasFieldBit σ (x / (4 : Int32)))) hx hb hr (kz_nar (z_B_hasFieldBit ..)) (fun t ht hW => ⟨_, rfl, e9, ht⟩) (fun _ h => absurd h List.not_mem_nil) d_B_isFieldAt_13

def f_B_isBallAt (σ : Nat → Nat → Int32) (x : Int32) : Int32 := (if (f_B_hasBit σ (14 : Int32) (1 : Int32)) = 0 then (if ((σ 0 ((13 : Int32)).toNatClampNeg) &&& (2 : Int32)) = 0 then (0 : Int32) else (if (f_B_widthIn σ (8 : Int32)) ≤ (f_B_behindPlace σ (4 : Int32) x) then (0 : Int32) else (1 : Int32))) else (if ((σ 5 0) &&& (2 : Int32)) = 0 then (0 : Int32) else (if (f_B_widthIn σ (8 : Int32)) ≤ (f_B_behindPlace σ (4 : Int32) x) then (0 : Int32) else (1 : Int32))))

theorem z_B_isBallAt (σ : Nat → Nat → Int32) (x : Int32) : f_B_isBallAt σ x = 0 ∨ f_B_isBallAt σ x = 1 := by
  rw [f_B_isBallAt]
  repeat' split
  all_goals first | with_reducible exact Or.inl rfl | with_reducible exact Or.inr rfl

set_option maxRecDepth 100000 in
set_option maxHeartbeats 4000000 in
theorem c_B_isBallAt (l : Launch) (D : va_G) (cA ad t : Nat → Nat) (hap : kap 7 ad) (σ : Nat → Nat → Int32) (x : Int32) : Met l y_B_isBallAt w_B_isBallAt ({ frames := 2, cells := 0, slots := 0, locals := 44 } : Room) (va_Pc [.ref (ad 0), .int x] (bPre D cA ad t σ)) (vp_Si (fun v => v = f_B_isBallAt σ x)) 0 0 (fun _ => False) := by
  refine Met.ofW (cc := b_B_isBallAt) (maxL := 3) (ret := (some .boolean)) (by decide) rfl ?_
  intro p e s m args below meth c s₁ B hml hv
  obtain ⟨rfl, hv⟩ := hv
  obtain ⟨hP, hK, hZ⟩ := hv
  have hx := B.exec
  have hb := B.bytes
  have hr := B.returns
  have hlocks := B.notSynchronized
  have hT : ∀ w ∈ TB, w.before ([.ref (ad 0), .int x] : List Value).toArray s = true := fun w h => atoms_spec (ws := w_B_isBallAt) B.pre w (List.mem_cons_of_mem _ h)
  have hown : s.vm.findClass R_B = some m.cls := findClass_of_methodNamed B.named
  have hS : va_S (kA 7 ad) s.heap s.heap [] := va_S.rf
  have hl := lv_entry ([.ref (ad 0), .int x]) (n := 3) (Nat.le_of_ble_eq_true rfl)
  rw [lg_entry_eq]
  generalize (lg_sl ([.ref (ad 0), .int x]) ++ List.replicate (3 - (lg_sl ([.ref (ad 0), .int x])).length) Slot.unset).toArray = ls at hl ⊢
  have hl : lv_has ls 3 [(0, .ref (ad 0)), (1, .int x)] := hl
  refine lv_aload_n hx hb d_B_isBallAt_0 rfl (lv_at hl 0 rfl) ?_
  refine lv_bipush (v := (14 : Int32)) hx hb d_B_isBallAt_1 (by decide) ?_
  refine lv_iconst (v := (1 : Int32)) hx hb d_B_isBallAt_3 (by decide) ?_
  refine vp_callSi (va_Run.run (va_runV (As := [.int (14 : Int32), .int (1 : Int32)]) (rest := []) ⟨hx, hb, hml, hown, hT⟩ (c_B_hasBit l D cA ad t hap σ (14 : Int32) (1 : Int32) (by first | assumption | exact kin (by decide))) (kCV 2 hT ml_B_90 mi_B_hasBit ⟨Nat.le_of_ble_eq_true rfl, Nat.le_of_ble_eq_true rfl⟩) (bpreV hK hP hZ hS) rfl rfl hl.1 rfl (lv_room (Nat.le_of_ble_eq_true rfl)) d_B_isBallAt_4 ⟨Nat.le_of_ble_eq_true rfl, Nat.le_of_ble_eq_true rfl⟩)) (fun r9 e9 => ?_)
  subst e9
  refine lv_if_eq (tgt := 17) hx hb d_B_isBallAt_7 (by decide) (fun q1 => ?_) (fun q1 => ?_)
  · refine lv_aload_n hx hb d_B_isBallAt_17 rfl (lv_at hl 0 rfl) ?_
    refine va_get (D := D) (ci := 0) (v := .ref (ad 1)) (C := R_B) (T := F_B) (N := 10) hx hb hT in_B hown hK hP 0 rfl rfl 0 (by decide) (hT _ fl_B_9) (fun _ h9 => h9) rfl d_B_isBallAt_18 ?_
    refine lv_bipush (v := (13 : Int32)) hx hb d_B_isBallAt_21 (by decide) ?_
    refine va_iald hx hb hK hP 1 0 rfl rfl (by first | assumption | exact kin (by decide)) d_B_isBallAt_23 ?_
    refine lv_istore_n (lv' := [(2, .int (σ 0 ((13 : Int32)).toNatClampNeg)), (0, .ref (ad 0)), (1, .int x)]) hx hb d_B_isBallAt_24 rfl hl (by decide) rfl (fun ls hl => ?_)
    refine lv_iload_n hx hb d_B_isBallAt_25 rfl (lv_at hl 0 rfl) ?_
    refine lv_iconst (v := (2 : Int32)) hx hb d_B_isBallAt_26 (by decide) ?_
    refine lv_iand hx hb d_B_isBallAt_27 ?_
    refine lv_if_eq (tgt := 50) hx hb d_B_isBallAt_28 (by decide) (fun q2 => ?_) (fun q2 => ?_)
    · refine lv_iconst (v := (0 : Int32)) hx hb d_B_isBallAt_50 (by decide) ?_
      have e9 : (0 : Int32) = f_B_isBallAt σ x := by rw [f_B_isBallAt, if_pos q1, if_pos q2]
      exact W.zret (v := (0 : Int32)) hx hb hr (by decide) (fun t ht hW => ⟨_, rfl, e9, ht⟩) (fun _ h => absurd h List.not_mem_nil) d_B_isBallAt_51
    · refine lv_aload_n hx hb d_B_isBallAt_31 rfl (lv_at hl 1 rfl) ?_
      refine lv_iconst (v := (4 : Int32)) hx hb d_B_isBallAt_32 (by decide) ?_
      refine lv_iload_n hx hb d_B_isBallAt_33 rfl (lv_at hl 2 rfl) ?_
      refine vp_callSi (va_Run.run (va_runV (As := [.int (4 : Int32), .int x]) (rest := []) ⟨hx, hb, hml, hown, hT⟩ (c_B_behindPlace l D cA ad t hap σ (4 : Int32) x (by first | assumption | exact kin (by decide))) (kCV 2 hT ml_B_162 mi_B_behindPlace ⟨Nat.le_of_ble_eq_true rfl, Nat.le_of_ble_eq_true rfl⟩) (bpreV hK hP hZ hS) rfl rfl hl.1 rfl (lv_room (Nat.le_of_ble_eq_true rfl)) d_B_isBallAt_34 ⟨Nat.le_of_ble_eq_true rfl, Nat.le_of_ble_eq_true rfl⟩)) (fun r9 e9 => ?_)
      subst e9
      refine lv_aload_n hx hb d_B_isBallAt_37 rfl (lv_at hl 1 rfl) ?_
      refine lv_bipush (v := (8 : Int32)) hx hb d_B_isBallAt_38 (by decide) ?_
      refine vp_callSi (va_Run.run (va_runV (As := [.int (8 : Int32)]) (rest := [.int (f_B_behindPlace σ (4 : Int32) x)]) ⟨hx, hb, hml, hown, hT⟩ (c_B_widthIn l D cA ad t hap σ (8 : Int32) (by first | assumption | exact kin (by decide))) (kCV 1 hT ml_B_168 mi_B_widthIn ⟨Nat.le_of_ble_eq_true rfl, Nat.le_of_ble_eq_true rfl⟩) (bpreV hK hP hZ hS) rfl rfl hl.1 rfl (lv_room (Nat.le_of_ble_eq_true rfl)) d_B_isBallAt_40 ⟨Nat.le_of_ble_eq_true rfl, Nat.le_of_ble_eq_true rfl⟩)) (fun r9 e9 => ?_)
      subst e9
      refine lv_icmp_ge (tgt := 50) hx hb d_B_isBallAt_43 (by decide) (fun q3 => ?_) (fun q3 => ?_)
      · refine lv_iconst (v := (0 : Int32)) hx hb d_B_isBallAt_50 (by decide) ?_
        have e9 : (0 : Int32) = f_B_isBallAt σ x := by rw [f_B_isBallAt, if_pos q1, if_neg q2, if_pos q3]
        exact W.zret (v := (0 : Int32)) hx hb hr (by decide) (fun t ht hW => ⟨_, rfl, e9, ht⟩) (fun _ h => absurd h List.not_mem_nil) d_B_isBallAt_51
      · refine lv_iconst (v := (1 : Int32)) hx hb d_B_isBallAt_46 (by decide) ?_
        refine lv_goto (tgt := 51) hx hb d_B_isBallAt_47 (by decide) ?_
        have e9 : (1 : Int32) = f_B_isBallAt σ x := by rw [f_B_isBallAt, if_pos q1, if_neg q2, if_neg q3]
        exact W.zret (v := (1 : Int32)) hx hb hr (by decide) (fun t ht hW => ⟨_, rfl, e9, ht⟩) (fun _ h => absurd h List.not_mem_nil) d_B_isBallAt_51
  · refine lv_aload_n hx hb d_B_isBallAt_10 rfl (lv_at hl 0 rfl) ?_
    refine va_get (D := D) (ci := 0) (v := .int (σ 5 0)) (C := R_B) (T := F_B) (N := 10) hx hb hT in_B hown hK hP 0 rfl rfl 6 (by decide) (hT _ fl_B_87) (fun _ h9 => h9) rfl d_B_isBallAt_11 ?_
    refine lv_goto (tgt := 24) hx hb d_B_isBallAt_14 (by decide) ?_
    refine lv_istore_n (lv' := [(2, .int (σ 5 0)), (0, .ref (ad 0)), (1, .int x)]) hx hb d_B_isBallAt_24 rfl hl (by decide) rfl (fun ls hl => ?_)
    refine lv_iload_n hx hb d_B_isBallAt_25 rfl (lv_at hl 0 rfl) ?_
    refine lv_iconst (v := (2 : Int32)) hx hb d_B_isBallAt_26 (by decide) ?_
    refine lv_iand hx hb d_B_isBallAt_27 ?_
    refine lv_if_eq (tgt := 50) hx hb d_B_isBallAt_28 (by decide) (fun q4 => ?_) (fun q4 => ?_)
    · refine lv_iconst (v := (0 : Int32)) hx hb d_B_isBallAt_50 (by decide) ?_
      have e9 : (0 : Int32) = f_B_isBallAt σ x := by rw [f_B_isBallAt, if_neg q1, if_pos q4]
      exact W.zret (v := (0 : Int32)) hx hb hr (by decide) (fun t ht hW => ⟨_, rfl, e9, ht⟩) (fun _ h => absurd h List.not_mem_nil) d_B_isBallAt_51
    · refine lv_aload_n hx hb d_B_isBallAt_31 rfl (lv_at hl 1 rfl) ?_
      refine lv_iconst (v := (4 : Int32)) hx hb d_B_isBallAt_32 (by decide) ?_
      refine lv_iload_n hx hb d_B_isBallAt_33 rfl (lv_at hl 2 rfl) ?_
      refine vp_callSi (va_Run.run (va_runV (As := [.int (4 : Int32), .int x]) (rest := []) ⟨hx, hb, hml, hown, hT⟩ (c_B_behindPlace l D cA ad t hap σ (4 : Int32) x (by first | assumption | exact kin (by decide))) (kCV 2 hT ml_B_162 mi_B_behindPlace ⟨Nat.le_of_ble_eq_true rfl, Nat.le_of_ble_eq_true rfl⟩) (bpreV hK hP hZ hS) rfl rfl hl.1 rfl (lv_room (Nat.le_of_ble_eq_true rfl)) d_B_isBallAt_34 ⟨Nat.le_of_ble_eq_true rfl, Nat.le_of_ble_eq_true rfl⟩)) (fun r9 e9 => ?_)
      subst e9
      refine lv_aload_n hx hb d_B_isBallAt_37 rfl (lv_at hl 1 rfl) ?_
      refine lv_bipush (v := (8 : Int32)) hx hb d_B_isBallAt_38 (by decide) ?_
      refine vp_callSi (va_Run.run (va_runV (As := [.int (8 : Int32)]) (rest := [.int (f_B_behindPlace σ (4 : Int32) x)]) ⟨hx, hb, hml, hown, hT⟩ (c_B_widthIn l D cA ad t hap σ (8 : Int32) (by first | assumption | exact kin (by decide))) (kCV 1 hT ml_B_168 mi_B_widthIn ⟨Nat.le_of_ble_eq_true rfl, Nat.le_of_ble_eq_true rfl⟩) (bpreV hK hP hZ hS) rfl rfl hl.1 rfl (lv_room (Nat.le_of_ble_eq_true rfl)) d_B_isBallAt_40 ⟨Nat.le_of_ble_eq_true rfl, Nat.le_of_ble_eq_true rfl⟩)) (fun r9 e9 => ?_)
      subst e9
      refine lv_icmp_ge (tgt := 50) hx hb d_B_isBallAt_43 (by decide) (fun q5 => ?_) (fun q5 => ?_)
      · refine lv_iconst (v := (0 : Int32)) hx hb d_B_isBallAt_50 (by decide) ?_
        have e9 : (0 : Int32) = f_B_isBallAt σ x := by rw [f_B_isBallAt, if_neg q1, if_neg q4, if_pos q5]
        exact W.zret (v := (0 : Int32)) hx hb hr (by decide) (fun t ht hW => ⟨_, rfl, e9, ht⟩) (fun _ h => absurd h List.not_mem_nil) d_B_isBallAt_51
      · refine lv_iconst (v := (1 : Int32)) hx hb d_B_isBallAt_46 (by decide) ?_
        refine lv_goto (tgt := 51) hx hb d_B_isBallAt_47 (by decide) ?_
        have e9 : (1 : Int32) = f_B_isBallAt σ x := by rw [f_B_isBallAt, if_neg q1, if_neg q4, if_neg q5]
        exact W.zret (v := (1 : Int32)) hx hb hr (by decide) (fun t ht hW => ⟨_, rfl, e9, ht⟩) (fun _ h => absurd h List.not_mem_nil) d_B_isBallAt_51
