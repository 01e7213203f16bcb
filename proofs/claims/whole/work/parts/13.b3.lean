def f_B_isMissileAt (σ : Nat → Nat → Int32) (side : Int32) (x : Int32) : Int32 := (if (f_B_hasBit σ ((19 : Int32) + side) (2 : Int32)) = 0 then (0 : Int32) else (if (f_B_hasBit σ ((21 : Int32) + side) (2 : Int32)) = 0 then (if (f_B_widthIn σ ((17 : Int32) + side)) ≤ (f_B_behindCopy (f_B_copiesOf σ side) (f_B_behindPlace σ ((2 : Int32) + side) x)) then (0 : Int32) else (1 : Int32)) else (0 : Int32)))

theorem z_B_isMissileAt (σ : Nat → Nat → Int32) (side : Int32) (x : Int32) : f_B_isMissileAt σ side x = 0 ∨ f_B_isMissileAt σ side x = 1 := by
  rw [f_B_isMissileAt]
  repeat' split
  all_goals first | with_reducible exact Or.inl rfl | with_reducible exact Or.inr rfl

set_option maxRecDepth 100000 in
set_option maxHeartbeats 4000000 in
theorem c_B_isMissileAt (l : Launch) (D : va_G) (cA ad t : Nat → Nat) (hap : kap 7 ad) (σ : Nat → Nat → Int32) (side : Int32) (x : Int32) (hs : side = 0 ∨ side = 1) : Met l y_B_isMissileAt w_B_isMissileAt ({ frames := 2, cells := 0, slots := 0, locals := 44 } : Room) (va_Pc [.ref (ad 0), .int side, .int x] (bPre D cA ad t σ)) (vp_Si (fun v => v = f_B_isMissileAt σ side x)) 0 0 (fun _ => False) := by
  refine Met.ofW (cc := b_B_isMissileAt) (maxL := 3) (ret := (some .boolean)) (by decide) rfl ?_
  intro p e s m args below meth c s₁ B hml hv
  obtain ⟨rfl, hv⟩ := hv
  obtain ⟨hP, hK, hZ⟩ := hv
  have hx := B.exec
  have hb := B.bytes
  have hr := B.returns
  have hlocks := B.notSynchronized
  have hT : ∀ w ∈ TB, w.before ([.ref (ad 0), .int side, .int x] : List Value).toArray s = true := fun w h => atoms_spec (ws := w_B_isMissileAt) B.pre w (List.mem_cons_of_mem _ h)
  have hown : s.vm.findClass R_B = some m.cls := findClass_of_methodNamed B.named
  have hS : va_S (kA 7 ad) s.heap s.heap [] := va_S.rf
  have hl := lv_entry ([.ref (ad 0), .int side, .int x]) (n := 3) (Nat.le_of_ble_eq_true rfl)
  rw [lg_entry_eq]
  generalize (lg_sl ([.ref (ad 0), .int side, .int x]) ++ List.replicate (3 - (lg_sl ([.ref (ad 0), .int side, .int x])).length) Slot.unset).toArray = ls at hl ⊢
  have hl : lv_has ls 3 [(0, .ref (ad 0)), (1, .int side), (2, .int x)] := hl
  refine lv_aload_n hx hb d_B_isMissileAt_0 rfl (lv_at hl 0 rfl) ?_
  refine lv_bipush (v := (19 : Int32)) hx hb d_B_isMissileAt_1 (by decide) ?_
  refine lv_iload_n hx hb d_B_isMissileAt_3 rfl (lv_at hl 1 rfl) ?_
  refine lv_iadd hx hb d_B_isMissileAt_4 ?_
  refine lv_iconst (v := (2 : Int32)) hx hb d_B_isMissileAt_5 (by decide) ?_
  refine vp_callSi (va_Run.run (va_runV (As := [.int ((19 : Int32) + side), .int (2 : Int32)]) (rest := []) ⟨hx, hb, hml, hown, hT⟩ (c_B_hasBit l D cA ad t hap σ ((19 : Int32) + side) (2 : Int32) (by first | assumption | exact kin (by decide) | ((rcases hs with rfl | rfl <;> exact kin (by decide))) | exact kin7 _)) (kCV 2 hT ml_B_90 mi_B_hasBit ⟨Nat.le_of_ble_eq_true rfl, Nat.le_of_ble_eq_true rfl⟩) (bpreV hK hP hZ hS) rfl rfl hl.1 rfl (lv_room (Nat.le_of_ble_eq_true rfl)) d_B_isMissileAt_6 ⟨Nat.le_of_ble_eq_true rfl, Nat.le_of_ble_eq_true rfl⟩)) (fun r9 e9 => ?_)
  subst e9
  refine lv_if_eq (tgt := 24) hx hb d_B_isMissileAt_9 (by decide) (fun q1 => ?_) (fun q1 => ?_)
  · refine lv_iconst (v := (0 : Int32)) hx hb d_B_isMissileAt_24 (by decide) ?_
    have e9 : (0 : Int32) = f_B_isMissileAt σ side x := by rw [f_B_isMissileAt, if_pos q1]
    exact W.zret (v := (0 : Int32)) hx hb hr (by decide) (fun t ht hW => ⟨_, rfl, e9, ht⟩) (fun _ h => absurd h List.not_mem_nil) d_B_isMissileAt_25
  · refine lv_aload_n hx hb d_B_isMissileAt_12 rfl (lv_at hl 0 rfl) ?_
    refine lv_bipush (v := (21 : Int32)) hx hb d_B_isMissileAt_13 (by decide) ?_
    refine lv_iload_n hx hb d_B_isMissileAt_15 rfl (lv_at hl 1 rfl) ?_
    refine lv_iadd hx hb d_B_isMissileAt_16 ?_
    refine lv_iconst (v := (2 : Int32)) hx hb d_B_isMissileAt_17 (by decide) ?_
    refine vp_callSi (va_Run.run (va_runV (As := [.int ((21 : Int32) + side), .int (2 : Int32)]) (rest := []) ⟨hx, hb, hml, hown, hT⟩ (c_B_hasBit l D cA ad t hap σ ((21 : Int32) + side) (2 : Int32) (by first | assumption | exact kin (by decide) | ((rcases hs with rfl | rfl <;> exact kin (by decide))) | exact kin7 _)) (kCV 2 hT ml_B_90 mi_B_hasBit ⟨Nat.le_of_ble_eq_true rfl, Nat.le_of_ble_eq_true rfl⟩) (bpreV hK hP hZ hS) rfl rfl hl.1 rfl (lv_room (Nat.le_of_ble_eq_true rfl)) d_B_isMissileAt_18 ⟨Nat.le_of_ble_eq_true rfl, Nat.le_of_ble_eq_true rfl⟩)) (fun r9 e9 => ?_)
    subst e9
    refine lv_if_eq (tgt := 26) hx hb d_B_isMissileAt_21 (by decide) (fun q2 => ?_) (fun q2 => ?_)
    · refine lv_aload_n hx hb d_B_isMissileAt_26 rfl (lv_at hl 0 rfl) ?_
      refine lv_iload_n hx hb d_B_isMissileAt_27 rfl (lv_at hl 1 rfl) ?_
      refine vp_callSi (va_Run.run (va_runV (As := [.int side]) (rest := []) ⟨hx, hb, hml, hown, hT⟩ (c_B_copiesOf l D cA ad t hap σ side (by first | assumption | exact kin (by decide) | ((rcases hs with rfl | rfl <;> exact kin (by decide))) | exact kin7 _)) (kCV 1 hT ml_B_99 mi_B_copiesOf ⟨Nat.le_of_ble_eq_true rfl, Nat.le_of_ble_eq_true rfl⟩) (bpreV hK hP hZ hS) rfl rfl hl.1 rfl (lv_room (Nat.le_of_ble_eq_true rfl)) d_B_isMissileAt_28 ⟨Nat.le_of_ble_eq_true rfl, Nat.le_of_ble_eq_true rfl⟩)) (fun r9 e9 => ?_)
      subst e9
      refine lv_aload_n hx hb d_B_isMissileAt_31 rfl (lv_at hl 0 rfl) ?_
      refine lv_iconst (v := (2 : Int32)) hx hb d_B_isMissileAt_32 (by decide) ?_
      refine lv_iload_n hx hb d_B_isMissileAt_33 rfl (lv_at hl 1 rfl) ?_
      refine lv_iadd hx hb d_B_isMissileAt_34 ?_
      refine lv_iload_n hx hb d_B_isMissileAt_35 rfl (lv_at hl 2 rfl) ?_
      refine vp_callSi (va_Run.run (va_runV (As := [.int ((2 : Int32) + side), .int x]) (rest := [.int (f_B_copiesOf σ side)]) ⟨hx, hb, hml, hown, hT⟩ (c_B_behindPlace l D cA ad t hap σ ((2 : Int32) + side) x (by first | assumption | exact kin (by decide) | ((rcases hs with rfl | rfl <;> exact kin (by decide))) | exact kin7 _)) (kCV 2 hT ml_B_162 mi_B_behindPlace ⟨Nat.le_of_ble_eq_true rfl, Nat.le_of_ble_eq_true rfl⟩) (bpreV hK hP hZ hS) rfl rfl hl.1 rfl (lv_room (Nat.le_of_ble_eq_true rfl)) d_B_isMissileAt_36 ⟨Nat.le_of_ble_eq_true rfl, Nat.le_of_ble_eq_true rfl⟩)) (fun r9 e9 => ?_)
      subst e9
      refine vp_callSi (va_Run.run (va_runS (As := [.int (f_B_copiesOf σ side), .int (f_B_behindPlace σ ((2 : Int32) + side) x)]) (rest := []) ⟨hx, hb, hml, hown, hT⟩ (c_B_behindCopy l D cA ad t hap σ (f_B_copiesOf σ side) (f_B_behindPlace σ ((2 : Int32) + side) x) (by first | assumption | exact kin (by decide) | ((rcases hs with rfl | rfl <;> exact kin (by decide))) | exact kin7 _)) (kCS 2 hT ml_B_165 ms_B_behindCopy ⟨Nat.le_of_ble_eq_true rfl, Nat.le_of_ble_eq_true rfl⟩) (bpreS hK hP hZ hS) rfl rfl hl.1 rfl (lv_room (Nat.le_of_ble_eq_true rfl)) d_B_isMissileAt_39 ⟨Nat.le_of_ble_eq_true rfl, Nat.le_of_ble_eq_true rfl⟩)) (fun r9 e9 => ?_)
      subst e9
      refine lv_aload_n hx hb d_B_isMissileAt_42 rfl (lv_at hl 0 rfl) ?_
      refine lv_bipush (v := (17 : Int32)) hx hb d_B_isMissileAt_43 (by decide) ?_
      refine lv_iload_n hx hb d_B_isMissileAt_45 rfl (lv_at hl 1 rfl) ?_
      refine lv_iadd hx hb d_B_isMissileAt_46 ?_
      refine vp_callSi (va_Run.run (va_runV (As := [.int ((17 : Int32) + side)]) (rest := [.int (f_B_behindCopy (f_B_copiesOf σ side) (f_B_behindPlace σ ((2 : Int32) + side) x))]) ⟨hx, hb, hml, hown, hT⟩ (c_B_widthIn l D cA ad t hap σ ((17 : Int32) + side) (by first | assumption | exact kin (by decide) | ((rcases hs with rfl | rfl <;> exact kin (by decide))) | exact kin7 _)) (kCV 1 hT ml_B_168 mi_B_widthIn ⟨Nat.le_of_ble_eq_true rfl, Nat.le_of_ble_eq_true rfl⟩) (bpreV hK hP hZ hS) rfl rfl hl.1 rfl (lv_room (Nat.le_of_ble_eq_true rfl)) d_B_isMissileAt_47 ⟨Nat.le_of_ble_eq_true rfl, Nat.le_of_ble_eq_true rfl⟩)) (fun r9 e9 => ?_)
      subst e9
      refine lv_icmp_ge (tgt := 57) hx hb d_B_isMissileAt_50 (by decide) (fun q3 => ?_) (fun q3 => ?_)
      · refine lv_iconst (v := (0 : Int32)) hx hb d_B_isMissileAt_57 (by decide) ?_
        have e9 : (0 : Int32) = f_B_isMissileAt σ side x := by rw [f_B_isMissileAt, if_neg q1, if_pos q2, if_pos q3]
        exact W.zret (v := (0 : Int32)) hx hb hr (by decide) (fun t ht hW => ⟨_, rfl, e9, ht⟩) (fun _ h => absurd h List.not_mem_nil) d_B_isMissileAt_58
      · refine lv_iconst (v := (1 : Int32)) hx hb d_B_isMissileAt_53 (by decide) ?_
        refine lv_goto (tgt := 58) hx hb d_B_isMissileAt_54 (by decide) ?_
        have e9 : (1 : Int32) = f_B_isMissileAt σ side x := by rw [f_B_isMissileAt, if_neg q1, if_pos q2, if_neg q3]
        exact W.zret (v := (1 : Int32)) hx hb hr (by decide) (fun t ht hW => ⟨_, rfl, e9, ht⟩) (fun _ h => absurd h List.not_mem_nil) d_B_isMissileAt_58
    · refine lv_iconst (v := (0 : Int32)) hx hb d_B_isMissileAt_24 (by decide) ?_
      have e9 : (0 : Int32) = f_B_isMissileAt σ side x := by rw [f_B_isMissileAt, if_neg q1, if_neg q2]
      exact W.zret (v := (0 : Int32)) hx hb hr (by decide) (fun t ht hW => ⟨_, rfl, e9, ht⟩) (fun _ h => absurd h List.not_mem_nil) d_B_isMissileAt_25

def f_B_isPlayerAt (σ : Nat → Nat → Int32) (side : Int32) (x : Int32) : Int32 := (if (f_B_hasBit σ ((11 : Int32) + side) (1 : Int32)) = 0 then (if ((f_B_behindCopy (f_B_copiesOf σ side) (f_B_behindPlace σ side x)) >>> ((tab1 ((f_B_copiesOf σ side)).toNatClampNeg) &&& 31)) ≤ (7 : Int32) then (if (f_B_hasBit σ ((15 : Int32) + side) (8 : Int32)) = 0 then (if (((σ 0 (((9 : Int32) + side)).toNatClampNeg) >>> (((7 : Int32) - ((f_B_behindCopy (f_B_copiesOf σ side) (f_B_behindPlace σ side x)) >>> ((tab1 ((f_B_copiesOf σ side)).toNatClampNeg) &&& 31))) &&& 31)) &&& (1 : Int32)) = 0 then (0 : Int32) else (1 : Int32)) else (if (((σ 0 (((9 : Int32) + side)).toNatClampNeg) >>> (((f_B_behindCopy (f_B_copiesOf σ side) (f_B_behindPlace σ side x)) >>> ((tab1 ((f_B_copiesOf σ side)).toNatClampNeg) &&& 31)) &&& 31)) &&& (1 : Int32)) = 0 then (0 : Int32) else (1 : Int32))) else (0 : Int32)) else (if ((f_B_behindCopy (f_B_copiesOf σ side) (f_B_behindPlace σ side x)) >>> ((tab1 ((f_B_copiesOf σ side)).toNatClampNeg) &&& 31)) ≤ (7 : Int32) then (if (f_B_hasBit σ ((15 : Int32) + side) (8 : Int32)) = 0 then (if (((σ 1 (side).toNatClampNeg) >>> (((7 : Int32) - ((f_B_behindCopy (f_B_copiesOf σ side) (f_B_behindPlace σ side x)) >>> ((tab1 ((f_B_copiesOf σ side)).toNatClampNeg) &&& 31))) &&& 31)) &&& (1 : Int32)) = 0 then (0 : Int32) else (1 : Int32)) else (if (((σ 1 (side).toNatClampNeg) >>> (((f_B_behindCopy (f_B_copiesOf σ side) (f_B_behindPlace σ side x)) >>> ((tab1 ((f_B_copiesOf σ side)).toNatClampNeg) &&& 31)) &&& 31)) &&& (1 : Int32)) = 0 then (0 : Int32) else (1 : Int32))) else (0 : Int32)))

theorem z_B_isPlayerAt (σ : Nat → Nat → Int32) (side : Int32) (x : Int32) : f_B_isPlayerAt σ side x = 0 ∨ f_B_isPlayerAt σ side x = 1 := by
  rw [f_B_isPlayerAt]
  repeat' split
  all_goals first | with_reducible exact Or.inl rfl | with_reducible exact Or.inr rfl

set_option maxRecDepth 100000 in
set_option maxHeartbeats 4000000 in
theorem c_B_isPlayerAt (l : Launch) (D : va_G) (cA ad t : Nat → Nat) (hap : kap 7 ad) (σ : Nat → Nat → Int32) (side : Int32) (x : Int32) (hs : side = 0 ∨ side = 1) : Met l y_B_isPlayerAt w_B_isPlayerAt ({ frames := 2, cells := 0, slots := 0, locals := 44 } : Room) (va_Pc [.ref (ad 0), .int side, .int x] (bPre D cA ad t σ)) (vp_Si (fun v => v = f_B_isPlayerAt σ side x)) 0 0 (fun _ => False) := by
  refine Met.ofW (cc := b_B_isPlayerAt) (maxL := 7) (ret := (some .boolean)) (by decide) rfl ?_
  intro p e s m args below meth c s₁ B hml hv
  obtain ⟨rfl, hv⟩ := hv
  obtain ⟨hP, hK, hZ⟩ := hv
  have hx := B.exec
  have hb := B.bytes
  have hr := B.returns
  have hlocks := B.notSynchronized
  have hT : ∀ w ∈ TB, w.before ([.ref (ad 0), .int side, .int x] : List Value).toArray s = true := fun w h => atoms_spec (ws := w_B_isPlayerAt) B.pre w (List.mem_cons_of_mem _ h)
  have hown : s.vm.findClass R_B = some m.cls := findClass_of_methodNamed B.named
  have hS : va_S (kA 7 ad) s.heap s.heap [] := va_S.rf
  have hl := lv_entry ([.ref (ad 0), .int side, .int x]) (n := 7) (Nat.le_of_ble_eq_true rfl)
  rw [lg_entry_eq]
  generalize (lg_sl ([.ref (ad 0), .int side, .int x]) ++ List.replicate (7 - (lg_sl ([.ref (ad 0), .int side, .int x])).length) Slot.unset).toArray = ls at hl ⊢
  have hl : lv_has ls 7 [(0, .ref (ad 0)), (1, .int side), (2, .int x)] := hl
  refine lv_aload_n hx hb d_B_isPlayerAt_0 rfl (lv_at hl 0 rfl) ?_
  refine lv_bipush (v := (11 : Int32)) hx hb d_B_isPlayerAt_1 (by decide) ?_
  refine lv_iload_n hx hb d_B_isPlayerAt_3 rfl (lv_at hl 1 rfl) ?_
  refine lv_iadd hx hb d_B_isPlayerAt_4 ?_
  refine lv_iconst (v := (1 : Int32)) hx hb d_B_isPlayerAt_5 (by decide) ?_
  refine vp_callSi (va_Run.run (va_runV (As := [.int ((11 : Int32) + side), .int (1 : Int32)]) (rest := []) ⟨hx, hb, hml, hown, hT⟩ (c_B_hasBit l D cA ad t hap σ ((11 : Int32) + side) (1 : Int32) (by first | assumption | exact kin (by decide) | ((rcases hs with rfl | rfl <;> exact kin (by decide))) | exact kin7 _)) (kCV 2 hT ml_B_90 mi_B_hasBit ⟨Nat.le_of_ble_eq_true rfl, Nat.le_of_ble_eq_true rfl⟩) (bpreV hK hP hZ hS) rfl rfl hl.1 rfl (lv_room (Nat.le_of_ble_eq_true rfl)) d_B_isPlayerAt_6 ⟨Nat.le_of_ble_eq_true rfl, Nat.le_of_ble_eq_true rfl⟩)) (fun r9 e9 => ?_)
  subst e9
  refine lv_if_eq (tgt := 21) hx hb d_B_isPlayerAt_9 (by decide) (fun q1 => ?_) (fun q1 => ?_)
  · refine lv_aload_n hx hb d_B_isPlayerAt_21 rfl (lv_at hl 0 rfl) ?_
    refine va_get (D := D) (ci := 0) (v := .ref (ad 1)) (C := R_B) (T := F_B) (N := 10) hx hb hT in_B hown hK hP 0 rfl rfl 0 (by decide) (hT _ fl_B_9) (fun _ h9 => h9) rfl d_B_isPlayerAt_22 ?_
    refine lv_bipush (v := (9 : Int32)) hx hb d_B_isPlayerAt_25 (by decide) ?_
    refine lv_iload_n hx hb d_B_isPlayerAt_27 rfl (lv_at hl 1 rfl) ?_
    refine lv_iadd hx hb d_B_isPlayerAt_28 ?_
    refine va_iald hx hb hK hP 1 0 rfl rfl (by first | assumption | exact kin (by decide) | ((rcases hs with rfl | rfl <;> exact kin (by decide))) | exact kin7 _) d_B_isPlayerAt_29 ?_
    refine lv_istore_n (lv' := [(3, .int (σ 0 (((9 : Int32) + side)).toNatClampNeg)), (0, .ref (ad 0)), (1, .int side), (2, .int x)]) hx hb d_B_isPlayerAt_30 rfl hl (by decide) rfl (fun ls hl => ?_)
    refine lv_aload_n hx hb d_B_isPlayerAt_31 rfl (lv_at hl 1 rfl) ?_
    refine lv_iload_n hx hb d_B_isPlayerAt_32 rfl (lv_at hl 2 rfl) ?_
    refine vp_callSi (va_Run.run (va_runV (As := [.int side]) (rest := []) ⟨hx, hb, hml, hown, hT⟩ (c_B_copiesOf l D cA ad t hap σ side (by first | assumption | exact kin (by decide) | ((rcases hs with rfl | rfl <;> exact kin (by decide))) | exact kin7 _)) (kCV 1 hT ml_B_99 mi_B_copiesOf ⟨Nat.le_of_ble_eq_true rfl, Nat.le_of_ble_eq_true rfl⟩) (bpreV hK hP hZ hS) rfl rfl hl.1 rfl (lv_room (Nat.le_of_ble_eq_true rfl)) d_B_isPlayerAt_33 ⟨Nat.le_of_ble_eq_true rfl, Nat.le_of_ble_eq_true rfl⟩)) (fun r9 e9 => ?_)
    subst e9
    refine lv_istore (lv' := [(4, .int (f_B_copiesOf σ side)), (3, .int (σ 0 (((9 : Int32) + side)).toNatClampNeg)), (0, .ref (ad 0)), (1, .int side), (2, .int x)]) hx hb d_B_isPlayerAt_36 hl (by decide) rfl (fun ls hl => ?_)
    refine lv_iload hx hb d_B_isPlayerAt_38 (lv_at hl 0 rfl) ?_
    refine lv_aload_n hx hb d_B_isPlayerAt_40 rfl (lv_at hl 2 rfl) ?_
    refine lv_iload_n hx hb d_B_isPlayerAt_41 rfl (lv_at hl 3 rfl) ?_
    refine lv_iload_n hx hb d_B_isPlayerAt_42 rfl (lv_at hl 4 rfl) ?_
    refine vp_callSi (va_Run.run (va_runV (As := [.int side, .int x]) (rest := [.int (f_B_copiesOf σ side)]) ⟨hx, hb, hml, hown, hT⟩ (c_B_behindPlace l D cA ad t hap σ side x (by first | assumption | exact kin (by decide) | ((rcases hs with rfl | rfl <;> exact kin (by decide))) | exact kin7 _)) (kCV 2 hT ml_B_162 mi_B_behindPlace ⟨Nat.le_of_ble_eq_true rfl, Nat.le_of_ble_eq_true rfl⟩) (bpreV hK hP hZ hS) rfl rfl hl.1 rfl (lv_room (Nat.le_of_ble_eq_true rfl)) d_B_isPlayerAt_43 ⟨Nat.le_of_ble_eq_true rfl, Nat.le_of_ble_eq_true rfl⟩)) (fun r9 e9 => ?_)
    subst e9
    refine vp_callSi (va_Run.run (va_runS (As := [.int (f_B_copiesOf σ side), .int (f_B_behindPlace σ side x)]) (rest := []) ⟨hx, hb, hml, hown, hT⟩ (c_B_behindCopy l D cA ad t hap σ (f_B_copiesOf σ side) (f_B_behindPlace σ side x) (by first | assumption | exact kin (by decide) | ((rcases hs with rfl | rfl <;> exact kin (by decide))) | exact kin7 _)) (kCS 2 hT ml_B_165 ms_B_behindCopy ⟨Nat.le_of_ble_eq_true rfl, Nat.le_of_ble_eq_true rfl⟩) (bpreS hK hP hZ hS) rfl rfl hl.1 rfl (lv_room (Nat.le_of_ble_eq_true rfl)) d_B_isPlayerAt_46 ⟨Nat.le_of_ble_eq_true rfl, Nat.le_of_ble_eq_true rfl⟩)) (fun r9 e9 => ?_)
    subst e9
    refine va_gets hx hb (kZ_z1 hZ) hS hown (hT _ fl_B_96) (fun _ h9 => h9) d_B_isPlayerAt_49 ?_
    refine lv_iload hx hb d_B_isPlayerAt_52 (lv_at hl 0 rfl) ?_
    refine va_ti (v := .int (tab1 ((f_B_copiesOf σ side)).toNatClampNeg)) hx hb (kZ_t1 hZ) hS (by first | assumption | exact kin (by decide) | ((rcases hs with rfl | rfl <;> exact kin (by decide))) | exact kin7 _) rfl d_B_isPlayerAt_54 ?_
    refine lv_ishr hx hb d_B_isPlayerAt_55 ?_
    refine lv_istore (lv' := [(5, .int ((f_B_behindCopy (f_B_copiesOf σ side) (f_B_behindPlace σ side x)) >>> ((tab1 ((f_B_copiesOf σ side)).toNatClampNeg) &&& 31))), (4, .int (f_B_copiesOf σ side)), (3, .int (σ 0 (((9 : Int32) + side)).toNatClampNeg)), (0, .ref (ad 0)), (1, .int side), (2, .int x)]) hx hb d_B_isPlayerAt_56 hl (by decide) rfl (fun ls hl => ?_)
    refine lv_iload hx hb d_B_isPlayerAt_58 (lv_at hl 0 rfl) ?_
    refine lv_bipush (v := (7 : Int32)) hx hb d_B_isPlayerAt_60 (by decide) ?_
    refine lv_icmp_le (tgt := 67) hx hb d_B_isPlayerAt_62 (by decide) (fun q2 => ?_) (fun q2 => ?_)
    · refine lv_aload_n hx hb d_B_isPlayerAt_67 rfl (lv_at hl 3 rfl) ?_
      refine lv_bipush (v := (15 : Int32)) hx hb d_B_isPlayerAt_68 (by decide) ?_
      refine lv_iload_n hx hb d_B_isPlayerAt_70 rfl (lv_at hl 4 rfl) ?_
      refine lv_iadd hx hb d_B_isPlayerAt_71 ?_
      refine lv_bipush (v := (8 : Int32)) hx hb d_B_isPlayerAt_72 (by decide) ?_
      refine vp_callSi (va_Run.run (va_runV (As := [.int ((15 : Int32) + side), .int (8 : Int32)]) (rest := []) ⟨hx, hb, hml, hown, hT⟩ (c_B_hasBit l D cA ad t hap σ ((15 : Int32) + side) (8 : Int32) (by first | assumption | exact kin (by decide) | ((rcases hs with rfl | rfl <;> exact kin (by decide))) | exact kin7 _)) (kCV 2 hT ml_B_90 mi_B_hasBit ⟨Nat.le_of_ble_eq_true rfl, Nat.le_of_ble_eq_true rfl⟩) (bpreV hK hP hZ hS) rfl rfl hl.1 rfl (lv_room (Nat.le_of_ble_eq_true rfl)) d_B_isPlayerAt_74 ⟨Nat.le_of_ble_eq_true rfl, Nat.le_of_ble_eq_true rfl⟩)) (fun r9 e9 => ?_)
      subst e9
      refine lv_if_eq (tgt := 85) hx hb d_B_isPlayerAt_77 (by decide) (fun q3 => ?_) (fun q3 => ?_)
      · refine lv_bipush (v := (7 : Int32)) hx hb d_B_isPlayerAt_85 (by decide) ?_
        refine lv_iload hx hb d_B_isPlayerAt_87 (lv_at hl 0 rfl) ?_
        refine lv_isub hx hb d_B_isPlayerAt_89 ?_
        refine lv_istore (lv' := [(6, .int ((7 : Int32) - ((f_B_behindCopy (f_B_copiesOf σ side) (f_B_behindPlace σ side x)) >>> ((tab1 ((f_B_copiesOf σ side)).toNatClampNeg) &&& 31)))), (5, .int ((f_B_behindCopy (f_B_copiesOf σ side) (f_B_behindPlace σ side x)) >>> ((tab1 ((f_B_copiesOf σ side)).toNatClampNeg) &&& 31))), (4, .int (f_B_copiesOf σ side)), (3, .int (σ 0 (((9 : Int32) + side)).toNatClampNeg)), (0, .ref (ad 0)), (1, .int side), (2, .int x)]) hx hb d_B_isPlayerAt_90 hl (by decide) rfl (fun ls hl => ?_)
        refine lv_iload_n hx hb d_B_isPlayerAt_92 rfl (lv_at hl 3 rfl) ?_
        refine lv_iload hx hb d_B_isPlayerAt_93 (lv_at hl 0 rfl) ?_
        refine lv_ishr hx hb d_B_isPlayerAt_95 ?_
        refine lv_iconst (v := (1 : Int32)) hx hb d_B_isPlayerAt_96 (by decide) ?_
        refine lv_iand hx hb d_B_isPlayerAt_97 ?_
        refine lv_if_eq (tgt := 105) hx hb d_B_isPlayerAt_98 (by decide) (fun q4 => ?_) (fun q4 => ?_)
        · refine lv_iconst (v := (0 : Int32)) hx hb d_B_isPlayerAt_105 (by decide) ?_
          have e9 : (0 : Int32) = f_B_isPlayerAt σ side x := by rw [f_B_isPlayerAt, if_pos q1, if_pos q2, if_pos q3, if_pos q4]
          exact W.zret (v := (0 : Int32)) hx hb hr (by decide) (fun t ht hW => ⟨_, rfl, e9, ht⟩) (fun _ h => absurd h List.not_mem_nil) d_B_isPlayerAt_106
        · refine lv_iconst (v := (1 : Int32)) hx hb d_B_isPlayerAt_101 (by decide) ?_
          refine lv_goto (tgt := 106) hx hb d_B_isPlayerAt_102 (by decide) ?_
          have e9 : (1 : Int32) = f_B_isPlayerAt σ side x := by rw [f_B_isPlayerAt, if_pos q1, if_pos q2, if_pos q3, if_neg q4]
          exact W.zret (v := (1 : Int32)) hx hb hr (by decide) (fun t ht hW => ⟨_, rfl, e9, ht⟩) (fun _ h => absurd h List.not_mem_nil) d_B_isPlayerAt_106
      · refine lv_iload hx hb d_B_isPlayerAt_80 (lv_at hl 0 rfl) ?_
        refine lv_goto (tgt := 90) hx hb d_B_isPlayerAt_82 (by decide) ?_
        refine lv_istore (lv' := [(6, .int ((f_B_behindCopy (f_B_copiesOf σ side) (f_B_behindPlace σ side x)) >>> ((tab1 ((f_B_copiesOf σ side)).toNatClampNeg) &&& 31))), (5, .int ((f_B_behindCopy (f_B_copiesOf σ side) (f_B_behindPlace σ side x)) >>> ((tab1 ((f_B_copiesOf σ side)).toNatClampNeg) &&& 31))), (4, .int (f_B_copiesOf σ side)), (3, .int (σ 0 (((9 : Int32) + side)).toNatClampNeg)), (0, .ref (ad 0)), (1, .int side), (2, .int x)]) hx hb d_B_isPlayerAt_90 hl (by decide) rfl (fun ls hl => ?_)
        refine lv_iload_n hx hb d_B_isPlayerAt_92 rfl (lv_at hl 3 rfl) ?_
        refine lv_iload hx hb d_B_isPlayerAt_93 (lv_at hl 0 rfl) ?_
        refine lv_ishr hx hb d_B_isPlayerAt_95 ?_
        refine lv_iconst (v := (1 : Int32)) hx hb d_B_isPlayerAt_96 (by decide) ?_
        refine lv_iand hx hb d_B_isPlayerAt_97 ?_
        refine lv_if_eq (tgt := 105) hx hb d_B_isPlayerAt_98 (by decide) (fun q5 => ?_) (fun q5 => ?_)
        · refine lv_iconst (v := (0 : Int32)) hx hb d_B_isPlayerAt_105 (by decide) ?_
          have e9 : (0 : Int32) = f_B_isPlayerAt σ side x := by rw [f_B_isPlayerAt, if_pos q1, if_pos q2, if_neg q3, if_pos q5]
          exact W.zret (v := (0 : Int32)) hx hb hr (by decide) (fun t ht hW => ⟨_, rfl, e9, ht⟩) (fun _ h => absurd h List.not_mem_nil) d_B_isPlayerAt_106
        · refine lv_iconst (v := (1 : Int32)) hx hb d_B_isPlayerAt_101 (by decide) ?_
          refine lv_goto (tgt := 106) hx hb d_B_isPlayerAt_102 (by decide) ?_
          have e9 : (1 : Int32) = f_B_isPlayerAt σ side x := by rw [f_B_isPlayerAt, if_pos q1, if_pos q2, if_neg q3, if_neg q5]
          exact W.zret (v := (1 : Int32)) hx hb hr (by decide) (fun t ht hW => ⟨_, rfl, e9, ht⟩) (fun _ h => absurd h List.not_mem_nil) d_B_isPlayerAt_106
    · refine lv_iconst (v := (0 : Int32)) hx hb d_B_isPlayerAt_65 (by decide) ?_
      have e9 : (0 : Int32) = f_B_isPlayerAt σ side x := by rw [f_B_isPlayerAt, if_pos q1, if_neg q2]
      exact W.zret (v := (0 : Int32)) hx hb hr (by decide) (fun t ht hW => ⟨_, rfl, e9, ht⟩) (fun _ h => absurd h List.not_mem_nil) d_B_isPlayerAt_66
  · refine lv_aload_n hx hb d_B_isPlayerAt_12 rfl (lv_at hl 0 rfl) ?_
    refine va_get (D := D) (ci := 0) (v := .ref (ad 2)) (C := R_B) (T := F_B) (N := 10) hx hb hT in_B hown hK hP 0 rfl rfl 1 (by decide) (hT _ fl_B_13) (fun _ h9 => h9) rfl d_B_isPlayerAt_13 ?_
    refine lv_iload_n hx hb d_B_isPlayerAt_16 rfl (lv_at hl 1 rfl) ?_
    refine va_iald hx hb hK hP 2 0 rfl rfl (by first | assumption | exact kin (by decide) | ((rcases hs with rfl | rfl <;> exact kin (by decide))) | exact kin7 _) d_B_isPlayerAt_17 ?_
    refine lv_goto (tgt := 30) hx hb d_B_isPlayerAt_18 (by decide) ?_
    refine lv_istore_n (lv' := [(3, .int (σ 1 (side).toNatClampNeg)), (0, .ref (ad 0)), (1, .int side), (2, .int x)]) hx hb d_B_isPlayerAt_30 rfl hl (by decide) rfl (fun ls hl => ?_)
    refine lv_aload_n hx hb d_B_isPlayerAt_31 rfl (lv_at hl 1 rfl) ?_
    refine lv_iload_n hx hb d_B_isPlayerAt_32 rfl (lv_at hl 2 rfl) ?_
    refine vp_callSi (va_Run.run (va_runV (As := [.int side]) (rest := []) ⟨hx, hb, hml, hown, hT⟩ (c_B_copiesOf l D cA ad t hap σ side (by first | assumption | exact kin (by decide) | ((rcases hs with rfl | rfl <;> exact kin (by decide))) | exact kin7 _)) (kCV 1 hT ml_B_99 mi_B_copiesOf ⟨Nat.le_of_ble_eq_true rfl, Nat.le_of_ble_eq_true rfl⟩) (bpreV hK hP hZ hS) rfl rfl hl.1 rfl (lv_room (Nat.le_of_ble_eq_true rfl)) d_B_isPlayerAt_33 ⟨Nat.le_of_ble_eq_true rfl, Nat.le_of_ble_eq_true rfl⟩)) (fun r9 e9 => ?_)
    subst e9
    refine lv_istore (lv' := [(4, .int (f_B_copiesOf σ side)), (3, .int (σ 1 (side).toNatClampNeg)), (0, .ref (ad 0)), (1, .int side), (2, .int x)]) hx hb d_B_isPlayerAt_36 hl (by decide) rfl (fun ls hl => ?_)
    refine lv_iload hx hb d_B_isPlayerAt_38 (lv_at hl 0 rfl) ?_
    refine lv_aload_n hx hb d_B_isPlayerAt_40 rfl (lv_at hl 2 rfl) ?_
    refine lv_iload_n hx hb d_B_isPlayerAt_41 rfl (lv_at hl 3 rfl) ?_
    refine lv_iload_n hx hb d_B_isPlayerAt_42 rfl (lv_at hl 4 rfl) ?_
    refine vp_callSi (va_Run.run (va_runV (As := [.int side, .int x]) (rest := [.int (f_B_copiesOf σ side)]) ⟨hx, hb, hml, hown, hT⟩ (c_B_behindPlace l D cA ad t hap σ side x (by first | assumption | exact kin (by decide) | ((rcases hs with rfl | rfl <;> exact kin (by decide))) | exact kin7 _)) (kCV 2 hT ml_B_162 mi_B_behindPlace ⟨Nat.le_of_ble_eq_true rfl, Nat.le_of_ble_eq_true rfl⟩) (bpreV hK hP hZ hS) rfl rfl hl.1 rfl (lv_room (Nat.le_of_ble_eq_true rfl)) d_B_isPlayerAt_43 ⟨Nat.le_of_ble_eq_true rfl, Nat.le_of_ble_eq_true rfl⟩)) (fun r9 e9 => ?_)
    subst e9
    refine vp_callSi (va_Run.run (va_runS (As := [.int (f_B_copiesOf σ side), .int (f_B_behindPlace σ side x)]) (rest := []) ⟨hx, hb, hml, hown, hT⟩ (c_B_behindCopy l D cA ad t hap σ (f_B_copiesOf σ side) (f_B_behindPlace σ side x) (by first | assumption | exact kin (by decide) | ((rcases hs with rfl | rfl <;> exact kin (by decide))) | exact kin7 _)) (kCS 2 hT ml_B_165 ms_B_behindCopy ⟨Nat.le_of_ble_eq_true rfl, Nat.le_of_ble_eq_true rfl⟩) (bpreS hK hP hZ hS) rfl rfl hl.1 rfl (lv_room (Nat.le_of_ble_eq_true rfl)) d_B_isPlayerAt_46 ⟨Nat.le_of_ble_eq_true rfl, Nat.le_of_ble_eq_true rfl⟩)) (fun r9 e9 => ?_)
    subst e9
    refine va_gets hx hb (kZ_z1 hZ) hS hown (hT _ fl_B_96) (fun _ h9 => h9) d_B_isPlayerAt_49 ?_
    refine lv_iload hx hb d_B_isPlayerAt_52 (lv_at hl 0 rfl) ?_
    refine va_ti (v := .int (tab1 ((f_B_copiesOf σ side)).toNatClampNeg)) hx hb (kZ_t1 hZ) hS (by first | assumption | exact kin (by decide) | ((rcases hs with rfl | rfl <;> exact kin (by decide))) | exact kin7 _) rfl d_B_isPlayerAt_54 ?_
    refine lv_ishr hx hb d_B_isPlayerAt_55 ?_
    refine lv_istore (lv' := [(5, .int ((f_B_behindCopy (f_B_copiesOf σ side) (f_B_behindPlace σ side x)) >>> ((tab1 ((f_B_copiesOf σ side)).toNatClampNeg) &&& 31))), (4, .int (f_B_copiesOf σ side)), (3, .int (σ 1 (side).toNatClampNeg)), (0, .ref (ad 0)), (1, .int side), (2, .int x)]) hx hb d_B_isPlayerAt_56 hl (by decide) rfl (fun ls hl => ?_)
    refine lv_iload hx hb d_B_isPlayerAt_58 (lv_at hl 0 rfl) ?_
    refine lv_bipush (v := (7 : Int32)) hx hb d_B_isPlayerAt_60 (by decide) ?_
    refine lv_icmp_le (tgt := 67) hx hb d_B_isPlayerAt_62 (by decide) (fun q6 => ?_) (fun q6 => ?_)
    · refine lv_aload_n hx hb d_B_isPlayerAt_67 rfl (lv_at hl 3 rfl) ?_
      refine lv_bipush (v := (15 : Int32)) hx hb d_B_isPlayerAt_68 (by decide) ?_
      refine lv_iload_n hx hb d_B_isPlayerAt_70 rfl (lv_at hl 4 rfl) ?_
      refine lv_iadd hx hb d_B_isPlayerAt_71 ?_
      refine lv_bipush (v := (8 : Int32)) hx hb d_B_isPlayerAt_72 (by decide) ?_
      refine vp_callSi (va_Run.run (va_runV (As := [.int ((15 : Int32) + side), .int (8 : Int32)]) (rest := []) ⟨hx, hb, hml, hown, hT⟩ (c_B_hasBit l D cA ad t hap σ ((15 : Int32) + side) (8 : Int32) (by first | assumption | exact kin (by decide) | ((rcases hs with rfl | rfl <;> exact kin (by decide))) | exact kin7 _)) (kCV 2 hT ml_B_90 mi_B_hasBit ⟨Nat.le_of_ble_eq_true rfl, Nat.le_of_ble_eq_true rfl⟩) (bpreV hK hP hZ hS) rfl rfl hl.1 rfl (lv_room (Nat.le_of_ble_eq_true rfl)) d_B_isPlayerAt_74 ⟨Nat.le_of_ble_eq_true rfl, Nat.le_of_ble_eq_true rfl⟩)) (fun r9 e9 => ?_)
      subst e9
      refine lv_if_eq (tgt := 85) hx hb d_B_isPlayerAt_77 (by decide) (fun q7 => ?_) (fun q7 => ?_)
      · refine lv_bipush (v := (7 : Int32)) hx hb d_B_isPlayerAt_85 (by decide) ?_
        refine lv_iload hx hb d_B_isPlayerAt_87 (lv_at hl 0 rfl) ?_
        refine lv_isub hx hb d_B_isPlayerAt_89 ?_
        refine lv_istore (lv' := [(6, .int ((7 : Int32) - ((f_B_behindCopy (f_B_copiesOf σ side) (f_B_behindPlace σ side x)) >>> ((tab1 ((f_B_copiesOf σ side)).toNatClampNeg) &&& 31)))), (5, .int ((f_B_behindCopy (f_B_copiesOf σ side) (f_B_behindPlace σ side x)) >>> ((tab1 ((f_B_copiesOf σ side)).toNatClampNeg) &&& 31))), (4, .int (f_B_copiesOf σ side)), (3, .int (σ 1 (side).toNatClampNeg)), (0, .ref (ad 0)), (1, .int side), (2, .int x)]) hx hb d_B_isPlayerAt_90 hl (by decide) rfl (fun ls hl => ?_)
        refine lv_iload_n hx hb d_B_isPlayerAt_92 rfl (lv_at hl 3 rfl) ?_
        refine lv_iload hx hb d_B_isPlayerAt_93 (lv_at hl 0 rfl) ?_
        refine lv_ishr hx hb d_B_isPlayerAt_95 ?_
        refine lv_iconst (v := (1 : Int32)) hx hb d_B_isPlayerAt_96 (by decide) ?_
        refine lv_iand hx hb d_B_isPlayerAt_97 ?_
        refine lv_if_eq (tgt := 105) hx hb d_B_isPlayerAt_98 (by decide) (fun q8 => ?_) (fun q8 => ?_)
        · refine lv_iconst (v := (0 : Int32)) hx hb d_B_isPlayerAt_105 (by decide) ?_
          have e9 : (0 : Int32) = f_B_isPlayerAt σ side x := by rw [f_B_isPlayerAt, if_neg q1, if_pos q6, if_pos q7, if_pos q8]
          exact W.zret (v := (0 : Int32)) hx hb hr (by decide) (fun t ht hW => ⟨_, rfl, e9, ht⟩) (fun _ h => absurd h List.not_mem_nil) d_B_isPlayerAt_106
        · refine lv_iconst (v := (1 : Int32)) hx hb d_B_isPlayerAt_101 (by decide) ?_
          refine lv_goto (tgt := 106) hx hb d_B_isPlayerAt_102 (by decide) ?_
          have e9 : (1 : Int32) = f_B_isPlayerAt σ side x := by rw [f_B_isPlayerAt, if_neg q1, if_pos q6, if_pos q7, if_neg q8]
          exact W.zret (v := (1 : Int32)) hx hb hr (by decide) (fun t ht hW => ⟨_, rfl, e9, ht⟩) (fun _ h => absurd h List.not_mem_nil) d_B_isPlayerAt_106
      · refine lv_iload hx hb d_B_isPlayerAt_80 (lv_at hl 0 rfl) ?_
        refine lv_goto (tgt := 90) hx hb d_B_isPlayerAt_82 (by decide) ?_
        refine lv_istore (lv' := [(6, .int ((f_B_behindCopy (f_B_copiesOf σ side) (f_B_behindPlace σ side x)) >>> ((tab1 ((f_B_copiesOf σ side)).toNatClampNeg) &&& 31))), (5, .int ((f_B_behindCopy (f_B_copiesOf σ side) (f_B_behindPlace σ side x)) >>> ((tab1 ((f_B_copiesOf σ side)).toNatClampNeg) &&& 31))), (4, .int (f_B_copiesOf σ side)), (3, .int (σ 1 (side).toNatClampNeg)), (0, .ref (ad 0)), (1, .int side), (2, .int x)]) hx hb d_B_isPlayerAt_90 hl (by decide) rfl (fun ls hl => ?_)
        refine lv_iload_n hx hb d_B_isPlayerAt_92 rfl (lv_at hl 3 rfl) ?_
        refine lv_iload hx hb d_B_isPlayerAt_93 (lv_at hl 0 rfl) ?_
        refine lv_ishr hx hb d_B_isPlayerAt_95 ?_
        refine lv_iconst (v := (1 : Int32)) hx hb d_B_isPlayerAt_96 (by decide) ?_
        refine lv_iand hx hb d_B_isPlayerAt_97 ?_
        refine lv_if_eq (tgt := 105) hx hb d_B_isPlayerAt_98 (by decide) (fun q9 => ?_) (fun q9 => ?_)
        · refine lv_iconst (v := (0 : Int32)) hx hb d_B_isPlayerAt_105 (by decide) ?_
          have e9 : (0 : Int32) = f_B_isPlayerAt σ side x := by rw [f_B_isPlayerAt, if_neg q1, if_pos q6, if_neg q7, if_pos q9]
          exact W.zret (v := (0 : Int32)) hx hb hr (by decide) (fun t ht hW => ⟨_, rfl, e9, ht⟩) (fun _ h => absurd h List.not_mem_nil) d_B_isPlayerAt_106
        · refine lv_iconst (v := (1 : Int32)) hx hb d_B_isPlayerAt_101 (by decide) ?_
          refine lv_goto (tgt := 106) hx hb d_B_isPlayerAt_102 (by decide) ?_
          have e9 : (1 : Int32) = f_B_isPlayerAt σ side x := by rw [f_B_isPlayerAt, if_neg q1, if_pos q6, if_neg q7, if_neg q9]
          exact W.zret (v := (1 : Int32)) hx hb hr (by decide) (fun t ht hW => ⟨_, rfl, e9, ht⟩) (fun _ h => absurd h List.not_mem_nil) d_B_isPlayerAt_106
    · refine lv_iconst (v := (0 : Int32)) hx hb d_B_isPlayerAt_65 (by decide) ?_
      have e9 : (0 : Int32) = f_B_isPlayerAt σ side x := by rw [f_B_isPlayerAt, if_neg q1, if_neg q6]
      exact W.zret (v := (0 : Int32)) hx hb hr (by decide) (fun t ht hW => ⟨_, rfl, e9, ht⟩) (fun _ h => absurd h List.not_mem_nil) d_B_isPlayerAt_66

def f_B_isAt (σ : Nat → Nat → Int32) (o : Int32) (x : Int32) : Int32 := (if (2 : Int32) ≤ o then (if (4 : Int32) ≤ o then (if (5 : Int32) ≤ o then (f_B_isFieldAt σ x) else (f_B_isBallAt σ x)) else (f_B_isMissileAt σ (o - (2 : Int32)) x)) else (f_B_isPlayerAt σ o x))

theorem z_B_isAt (σ : Nat → Nat → Int32) (o : Int32) (x : Int32) : f_B_isAt σ o x = 0 ∨ f_B_isAt σ o x = 1 := by
  rw [f_B_isAt]
  repeat' split
  all_goals first | with_reducible exact Or.inl rfl | with_reducible exact Or.inr rfl | with_reducible exact z_B_isBallAt .. | with_reducible exact z_B_isFieldAt .. | with_reducible exact z_B_isMissileAt .. | with_reducible exact z_B_isPlayerAt ..

set_option maxRecDepth 100000 in
set_option maxHeartbeats 4000000 in
theorem c_B_isAt (l : Launch) (D : va_G) (cA ad t : Nat → Nat) (hap : kap 7 ad) (σ : Nat → Nat → Int32) (o : Int32) (x : Int32) (h1 : vp_in o 6) : Met l y_B_isAt w_B_isAt ({ frames := 3, cells := 0, slots := 0, locals := 70 } : Room) (va_Pc [.ref (ad 0), .int o, .int x] (bPre D cA ad t σ)) (vp_Si (fun v => v = f_B_isAt σ o x)) 0 0 (fun _ => False) := by
  refine Met.ofW (cc := b_B_isAt) (maxL := 3) (ret := (some .boolean)) (by decide) rfl ?_
  intro p e s m args below meth c s₁ B hml hv
  obtain ⟨rfl, hv⟩ := hv
  obtain ⟨hP, hK, hZ⟩ := hv
  have hx := B.exec
  have hb := B.bytes
  have hr := B.returns
  have hlocks := B.notSynchronized
  have hT : ∀ w ∈ TB, w.before ([.ref (ad 0), .int o, .int x] : List Value).toArray s = true := fun w h => atoms_spec (ws := w_B_isAt) B.pre w (List.mem_cons_of_mem _ h)
  have hown : s.vm.findClass R_B = some m.cls := findClass_of_methodNamed B.named
  have hS : va_S (kA 7 ad) s.heap s.heap [] := va_S.rf
  have hl := lv_entry ([.ref (ad 0), .int o, .int x]) (n := 3) (Nat.le_of_ble_eq_true rfl)
  rw [lg_entry_eq]
  generalize (lg_sl ([.ref (ad 0), .int o, .int x]) ++ List.replicate (3 - (lg_sl ([.ref (ad 0), .int o, .int x])).length) Slot.unset).toArray = ls at hl ⊢
  have hl : lv_has ls 3 [(0, .ref (ad 0)), (1, .int o), (2, .int x)] := hl
  refine lv_iload_n hx hb d_B_isAt_0 rfl (lv_at hl 1 rfl) ?_
  refine lv_iconst (v := (2 : Int32)) hx hb d_B_isAt_1 (by decide) ?_
  refine lv_icmp_ge (tgt := 12) hx hb d_B_isAt_2 (by decide) (fun q1 => ?_) (fun q1 => ?_)
  · refine lv_iload_n hx hb d_B_isAt_12 rfl (lv_at hl 1 rfl) ?_
    refine lv_iconst (v := (4 : Int32)) hx hb d_B_isAt_13 (by decide) ?_
    refine lv_icmp_ge (tgt := 26) hx hb d_B_isAt_14 (by decide) (fun q2 => ?_) (fun q2 => ?_)
    · refine lv_iload_n hx hb d_B_isAt_26 rfl (lv_at hl 1 rfl) ?_
      refine lv_iconst (v := (5 : Int32)) hx hb d_B_isAt_27 (by decide) ?_
      refine lv_icmp_ge (tgt := 39) hx hb d_B_isAt_28 (by decide) (fun q3 => ?_) (fun q3 => ?_)
      · refine lv_aload_n hx hb d_B_isAt_39 rfl (lv_at hl 0 rfl) ?_
        refine lv_iload_n hx hb d_B_isAt_40 rfl (lv_at hl 2 rfl) ?_
        refine vp_callSi (va_Run.run (va_runV (As := [.int x]) (rest := []) ⟨hx, hb, hml, hown, hT⟩ (c_B_isFieldAt l D cA ad t hap σ x) (kCV 1 hT ml_B_159 mi_B_isFieldAt ⟨Nat.le_of_ble_eq_true rfl, Nat.le_of_ble_eq_true rfl⟩) (bpreV hK hP hZ hS) rfl rfl hl.1 rfl (lv_room (Nat.le_of_ble_eq_true rfl)) d_B_isAt_41 ⟨Nat.le_of_ble_eq_true rfl, Nat.le_of_ble_eq_true rfl⟩)) (fun r9 e9 => ?_)
        subst e9
        have e9 : (f_B_isFieldAt σ x) = f_B_isAt σ o x := by rw [f_B_isAt, if_pos q1, if_pos q2, if_pos q3]
        exact W.zret (v := (f_B_isFieldAt σ x)) hx hb hr (kz_nar (z_B_isFieldAt ..)) (fun t ht hW => ⟨_, rfl, e9, ht⟩) (fun _ h => absurd h List.not_mem_nil) d_B_isAt_44
      · refine lv_aload_n hx hb d_B_isAt_31 rfl (lv_at hl 0 rfl) ?_
        refine lv_iload_n hx hb d_B_isAt_32 rfl (lv_at hl 2 rfl) ?_
        refine vp_callSi (va_Run.run (va_runV (As := [.int x]) (rest := []) ⟨hx, hb, hml, hown, hT⟩ (c_B_isBallAt l D cA ad t hap σ x) (kCV 1 hT ml_B_156 mi_B_isBallAt ⟨Nat.le_of_ble_eq_true rfl, Nat.le_of_ble_eq_true rfl⟩) (bpreV hK hP hZ hS) rfl rfl hl.1 rfl (lv_room (Nat.le_of_ble_eq_true rfl)) d_B_isAt_33 ⟨Nat.le_of_ble_eq_true rfl, Nat.le_of_ble_eq_true rfl⟩)) (fun r9 e9 => ?_)
        subst e9
        refine lv_goto (tgt := 44) hx hb d_B_isAt_36 (by decide) ?_
        have e9 : (f_B_isBallAt σ x) = f_B_isAt σ o x := by rw [f_B_isAt, if_pos q1, if_pos q2, if_neg q3]
        exact W.zret (v := (f_B_isBallAt σ x)) hx hb hr (kz_nar (z_B_isBallAt ..)) (fun t ht hW => ⟨_, rfl, e9, ht⟩) (fun _ h => absurd h List.not_mem_nil) d_B_isAt_44
    · refine lv_aload_n hx hb d_B_isAt_17 rfl (lv_at hl 0 rfl) ?_
      refine lv_iload_n hx hb d_B_isAt_18 rfl (lv_at hl 1 rfl) ?_
      refine lv_iconst (v := (2 : Int32)) hx hb d_B_isAt_19 (by decide) ?_
      refine lv_isub hx hb d_B_isAt_20 ?_
      refine lv_iload_n hx hb d_B_isAt_21 rfl (lv_at hl 2 rfl) ?_
      refine vp_callSi (va_Run.run (va_runV (As := [.int (o - (2 : Int32)), .int x]) (rest := []) ⟨hx, hb, hml, hown, hT⟩ (c_B_isMissileAt l D cA ad t hap σ (o - (2 : Int32)) x (by first | assumption | exact kin (by decide) | exact kside2 h1 (by assumption) | exact kside4 h1 (by assumption) (by assumption))) (kCV 2 hT ml_B_153 mi_B_isMissileAt ⟨Nat.le_of_ble_eq_true rfl, Nat.le_of_ble_eq_true rfl⟩) (bpreV hK hP hZ hS) rfl rfl hl.1 rfl (lv_room (Nat.le_of_ble_eq_true rfl)) d_B_isAt_22 ⟨Nat.le_of_ble_eq_true rfl, Nat.le_of_ble_eq_true rfl⟩)) (fun r9 e9 => ?_)
      subst e9
      have e9 : (f_B_isMissileAt σ (o - (2 : Int32)) x) = f_B_isAt σ o x := by rw [f_B_isAt, if_pos q1, if_neg q2]
      exact W.zret (v := (f_B_isMissileAt σ (o - (2 : Int32)) x)) hx hb hr (kz_nar (z_B_isMissileAt ..)) (fun t ht hW => ⟨_, rfl, e9, ht⟩) (fun _ h => absurd h List.not_mem_nil) d_B_isAt_25
  · refine lv_aload_n hx hb d_B_isAt_5 rfl (lv_at hl 0 rfl) ?_
    refine lv_iload_n hx hb d_B_isAt_6 rfl (lv_at hl 1 rfl) ?_
    refine lv_iload_n hx hb d_B_isAt_7 rfl (lv_at hl 2 rfl) ?_
    refine vp_callSi (va_Run.run (va_runV (As := [.int o, .int x]) (rest := []) ⟨hx, hb, hml, hown, hT⟩ (c_B_isPlayerAt l D cA ad t hap σ o x (by first | assumption | exact kin (by decide) | exact kside2 h1 (by assumption) | exact kside4 h1 (by assumption) (by assumption))) (kCV 2 hT ml_B_150 mi_B_isPlayerAt ⟨Nat.le_of_ble_eq_true rfl, Nat.le_of_ble_eq_true rfl⟩) (bpreV hK hP hZ hS) rfl rfl hl.1 rfl (lv_room (Nat.le_of_ble_eq_true rfl)) d_B_isAt_8 ⟨Nat.le_of_ble_eq_true rfl, Nat.le_of_ble_eq_true rfl⟩)) (fun r9 e9 => ?_)
    subst e9
    have e9 : (f_B_isPlayerAt σ o x) = f_B_isAt σ o x := by rw [f_B_isAt, if_neg q1]
    exact W.zret (v := (f_B_isPlayerAt σ o x)) hx hb hr (kz_nar (z_B_isPlayerAt ..)) (fun t ht hW => ⟨_, rfl, e9, ht⟩) (fun _ h => absurd h List.not_mem_nil) d_B_isAt_11
