def f_B_fieldColour (σ : Nat → Nat → Int32) (x : Int32) (he : Int32) : Int32 := (if (he &&& (32 : Int32)) = 0 then (σ 0 ((1 : Int32)).toNatClampNeg) else (if (f_B_hasBit σ (8 : Int32) (2 : Int32)) = 0 then (σ 0 ((1 : Int32)).toNatClampNeg) else (if (80 : Int32) ≤ x then (σ 0 ((3 : Int32)).toNatClampNeg) else (σ 0 ((2 : Int32)).toNatClampNeg))))

set_option maxRecDepth 100000 in
set_option maxHeartbeats 4000000 in
theorem c_B_fieldColour (l : Launch) (D : va_G) (cA ad t : Nat → Nat) (hap : kap 7 ad) (σ : Nat → Nat → Int32) (x : Int32) (he : Int32) : Met l y_B_fieldColour w_B_fieldColour ({ frames := 1, cells := 0, slots := 0, locals := 22 } : Room) (va_Pc [.ref (ad 0), .int x, .int he] (bPre D cA ad t σ)) (vp_Si (fun v => v = f_B_fieldColour σ x he)) 0 0 (fun _ => False) := by
  refine Met.ofW (cc := b_B_fieldColour) (maxL := 3) (ret := (some .int)) (by decide) rfl ?_
  intro p e s m args below meth c s₁ B hml hv
  obtain ⟨rfl, hv⟩ := hv
  obtain ⟨hP, hK, hZ⟩ := hv
  have hx := B.exec
  have hb := B.bytes
  have hr := B.returns
  have hlocks := B.notSynchronized
  have hT : ∀ w ∈ TB, w.before ([.ref (ad 0), .int x, .int he] : List Value).toArray s = true := fun w h => atoms_spec (ws := w_B_fieldColour) B.pre w (List.mem_cons_of_mem _ h)
  have hown : s.vm.findClass R_B = some m.cls := findClass_of_methodNamed B.named
  have hS : va_S (kA 7 ad) s.heap s.heap [] := va_S.rf
  have hl := lv_entry ([.ref (ad 0), .int x, .int he]) (n := 3) (Nat.le_of_ble_eq_true rfl)
  rw [lg_entry_eq]
  generalize (lg_sl ([.ref (ad 0), .int x, .int he]) ++ List.replicate (3 - (lg_sl ([.ref (ad 0), .int x, .int he])).length) Slot.unset).toArray = ls at hl ⊢
  have hl : lv_has ls 3 [(0, .ref (ad 0)), (1, .int x), (2, .int he)] := hl
  refine lv_iload_n hx hb d_B_fieldColour_0 rfl (lv_at hl 2 rfl) ?_
  refine lv_bipush (v := (32 : Int32)) hx hb d_B_fieldColour_1 (by decide) ?_
  refine lv_iand hx hb d_B_fieldColour_3 ?_
  refine lv_if_eq (tgt := 17) hx hb d_B_fieldColour_4 (by decide) (fun q1 => ?_) (fun q1 => ?_)
  · refine lv_aload_n hx hb d_B_fieldColour_17 rfl (lv_at hl 0 rfl) ?_
    refine va_get (D := D) (ci := 0) (v := .ref (ad 1)) (C := R_B) (T := F_B) (N := 10) hx hb hT in_B hown hK hP 0 rfl rfl 0 (by decide) (hT _ fl_B_9) (fun _ h9 => h9) rfl d_B_fieldColour_18 ?_
    refine lv_iconst (v := (1 : Int32)) hx hb d_B_fieldColour_21 (by decide) ?_
    refine va_iald hx hb hK hP 1 0 rfl rfl (by first | assumption | exact kin (by decide)) d_B_fieldColour_22 ?_
    have e9 : (σ 0 ((1 : Int32)).toNatClampNeg) = f_B_fieldColour σ x he := by rw [f_B_fieldColour, if_pos q1]
    exact W.iret (v := (σ 0 ((1 : Int32)).toNatClampNeg)) hx hb hr (fun t ht hW => ⟨_, rfl, e9, ht⟩) (fun _ h => absurd h List.not_mem_nil) d_B_fieldColour_23
  · refine lv_aload_n hx hb d_B_fieldColour_7 rfl (lv_at hl 0 rfl) ?_
    refine lv_bipush (v := (8 : Int32)) hx hb d_B_fieldColour_8 (by decide) ?_
    refine lv_iconst (v := (2 : Int32)) hx hb d_B_fieldColour_10 (by decide) ?_
    refine vp_callSi (va_Run.run (va_runV (As := [.int (8 : Int32), .int (2 : Int32)]) (rest := []) ⟨hx, hb, hml, hown, hT⟩ (c_B_hasBit l D cA ad t hap σ (8 : Int32) (2 : Int32) (by first | assumption | exact kin (by decide))) (kCV 2 hT ml_B_90 mi_B_hasBit ⟨Nat.le_of_ble_eq_true rfl, Nat.le_of_ble_eq_true rfl⟩) (bpreV hK hP hZ hS) rfl rfl hl.1 rfl (lv_room (Nat.le_of_ble_eq_true rfl)) d_B_fieldColour_11 ⟨Nat.le_of_ble_eq_true rfl, Nat.le_of_ble_eq_true rfl⟩)) (fun r9 e9 => ?_)
    subst e9
    refine lv_if_ne (tgt := 24) hx hb d_B_fieldColour_14 (by decide) (fun q2 => ?_) (fun q2 => ?_)
    · refine lv_aload_n hx hb d_B_fieldColour_24 rfl (lv_at hl 0 rfl) ?_
      refine va_get (D := D) (ci := 0) (v := .ref (ad 1)) (C := R_B) (T := F_B) (N := 10) hx hb hT in_B hown hK hP 0 rfl rfl 0 (by decide) (hT _ fl_B_9) (fun _ h9 => h9) rfl d_B_fieldColour_25 ?_
      refine lv_iload_n hx hb d_B_fieldColour_28 rfl (lv_at hl 1 rfl) ?_
      refine lv_bipush (v := (80 : Int32)) hx hb d_B_fieldColour_29 (by decide) ?_
      refine lv_icmp_ge (tgt := 38) hx hb d_B_fieldColour_31 (by decide) (fun q3 => ?_) (fun q3 => ?_)
      · refine lv_iconst (v := (3 : Int32)) hx hb d_B_fieldColour_38 (by decide) ?_
        refine va_iald hx hb hK hP 1 0 rfl rfl (by first | assumption | exact kin (by decide)) d_B_fieldColour_39 ?_
        have e9 : (σ 0 ((3 : Int32)).toNatClampNeg) = f_B_fieldColour σ x he := by rw [f_B_fieldColour, if_neg q1, if_neg q2, if_pos q3]
        exact W.iret (v := (σ 0 ((3 : Int32)).toNatClampNeg)) hx hb hr (fun t ht hW => ⟨_, rfl, e9, ht⟩) (fun _ h => absurd h List.not_mem_nil) d_B_fieldColour_40
      · refine lv_iconst (v := (2 : Int32)) hx hb d_B_fieldColour_34 (by decide) ?_
        refine lv_goto (tgt := 39) hx hb d_B_fieldColour_35 (by decide) ?_
        refine va_iald hx hb hK hP 1 0 rfl rfl (by first | assumption | exact kin (by decide)) d_B_fieldColour_39 ?_
        have e9 : (σ 0 ((2 : Int32)).toNatClampNeg) = f_B_fieldColour σ x he := by rw [f_B_fieldColour, if_neg q1, if_neg q2, if_neg q3]
        exact W.iret (v := (σ 0 ((2 : Int32)).toNatClampNeg)) hx hb hr (fun t ht hW => ⟨_, rfl, e9, ht⟩) (fun _ h => absurd h List.not_mem_nil) d_B_fieldColour_40
    · refine lv_aload_n hx hb d_B_fieldColour_17 rfl (lv_at hl 0 rfl) ?_
      refine va_get (D := D) (ci := 0) (v := .ref (ad 1)) (C := R_B) (T := F_B) (N := 10) hx hb hT in_B hown hK hP 0 rfl rfl 0 (by decide) (hT _ fl_B_9) (fun _ h9 => h9) rfl d_B_fieldColour_18 ?_
      refine lv_iconst (v := (1 : Int32)) hx hb d_B_fieldColour_21 (by decide) ?_
      refine va_iald hx hb hK hP 1 0 rfl rfl (by first | assumption | exact kin (by decide)) d_B_fieldColour_22 ?_
      have e9 : (σ 0 ((1 : Int32)).toNatClampNeg) = f_B_fieldColour σ x he := by rw [f_B_fieldColour, if_neg q1, if_pos q2]
      exact W.iret (v := (σ 0 ((1 : Int32)).toNatClampNeg)) hx hb hr (fun t ht hW => ⟨_, rfl, e9, ht⟩) (fun _ h => absurd h List.not_mem_nil) d_B_fieldColour_23

def f_B_colourAt (σ : Nat → Nat → Int32) (x : Int32) (he : Int32) : Int32 := (if (f_B_hasBit σ (4 : Int32) (1 : Int32)) = 0 then (if (he &&& (48 : Int32)) = 0 then (if (he &&& (5 : Int32)) = 0 then (if (he &&& (10 : Int32)) = 0 then (σ 0 ((0 : Int32)).toNatClampNeg) else (σ 0 ((3 : Int32)).toNatClampNeg)) else (σ 0 ((2 : Int32)).toNatClampNeg)) else (if (f_B_hasBit σ (8 : Int32) (4 : Int32)) = 0 then (if (he &&& (5 : Int32)) = 0 then (if (he &&& (10 : Int32)) = 0 then (f_B_fieldColour σ x he) else (σ 0 ((3 : Int32)).toNatClampNeg)) else (σ 0 ((2 : Int32)).toNatClampNeg)) else (f_B_fieldColour σ x he))) else (0 : Int32))

set_option maxRecDepth 100000 in
set_option maxHeartbeats 4000000 in
theorem c_B_colourAt (l : Launch) (D : va_G) (cA ad t : Nat → Nat) (hap : kap 7 ad) (σ : Nat → Nat → Int32) (x : Int32) (he : Int32) : Met l y_B_colourAt w_B_colourAt ({ frames := 2, cells := 0, slots := 0, locals := 44 } : Room) (va_Pc [.ref (ad 0), .int x, .int he] (bPre D cA ad t σ)) (vp_Si (fun v => v = f_B_colourAt σ x he)) 0 0 (fun _ => False) := by
  refine Met.ofW (cc := b_B_colourAt) (maxL := 4) (ret := (some .int)) (by decide) rfl ?_
  intro p e s m args below meth c s₁ B hml hv
  obtain ⟨rfl, hv⟩ := hv
  obtain ⟨hP, hK, hZ⟩ := hv
  have hx := B.exec
  have hb := B.bytes
  have hr := B.returns
  have hlocks := B.notSynchronized
  have hT : ∀ w ∈ TB, w.before ([.ref (ad 0), .int x, .int he] : List Value).toArray s = true := fun w h => atoms_spec (ws := w_B_colourAt) B.pre w (List.mem_cons_of_mem _ h)
  have hown : s.vm.findClass R_B = some m.cls := findClass_of_methodNamed B.named
  have hS : va_S (kA 7 ad) s.heap s.heap [] := va_S.rf
  have hl := lv_entry ([.ref (ad 0), .int x, .int he]) (n := 4) (Nat.le_of_ble_eq_true rfl)
  rw [lg_entry_eq]
  generalize (lg_sl ([.ref (ad 0), .int x, .int he]) ++ List.replicate (4 - (lg_sl ([.ref (ad 0), .int x, .int he])).length) Slot.unset).toArray = ls at hl ⊢
  have hl : lv_has ls 4 [(0, .ref (ad 0)), (1, .int x), (2, .int he)] := hl
  refine lv_aload_n hx hb d_B_colourAt_0 rfl (lv_at hl 0 rfl) ?_
  refine lv_iconst (v := (4 : Int32)) hx hb d_B_colourAt_1 (by decide) ?_
  refine lv_iconst (v := (1 : Int32)) hx hb d_B_colourAt_2 (by decide) ?_
  refine vp_callSi (va_Run.run (va_runV (As := [.int (4 : Int32), .int (1 : Int32)]) (rest := []) ⟨hx, hb, hml, hown, hT⟩ (c_B_hasBit l D cA ad t hap σ (4 : Int32) (1 : Int32) (by first | assumption | exact kin (by decide))) (kCV 2 hT ml_B_90 mi_B_hasBit ⟨Nat.le_of_ble_eq_true rfl, Nat.le_of_ble_eq_true rfl⟩) (bpreV hK hP hZ hS) rfl rfl hl.1 rfl (lv_room (Nat.le_of_ble_eq_true rfl)) d_B_colourAt_3 ⟨Nat.le_of_ble_eq_true rfl, Nat.le_of_ble_eq_true rfl⟩)) (fun r9 e9 => ?_)
  subst e9
  refine lv_if_eq (tgt := 11) hx hb d_B_colourAt_6 (by decide) (fun q1 => ?_) (fun q1 => ?_)
  · refine lv_iload_n hx hb d_B_colourAt_11 rfl (lv_at hl 2 rfl) ?_
    refine lv_bipush (v := (48 : Int32)) hx hb d_B_colourAt_12 (by decide) ?_
    refine lv_iand hx hb d_B_colourAt_14 ?_
    refine lv_if_eq (tgt := 22) hx hb d_B_colourAt_15 (by decide) (fun q2 => ?_) (fun q2 => ?_)
    · refine lv_iconst (v := (0 : Int32)) hx hb d_B_colourAt_22 (by decide) ?_
      refine lv_istore_n (lv' := [(3, .int (0 : Int32)), (0, .ref (ad 0)), (1, .int x), (2, .int he)]) hx hb d_B_colourAt_23 rfl hl (by decide) rfl (fun ls hl => ?_)
      refine lv_iload_n hx hb d_B_colourAt_24 rfl (lv_at hl 0 rfl) ?_
      refine lv_if_eq (tgt := 45) hx hb d_B_colourAt_25 (by decide) (fun _ => ?_) (fun h9 => absurd (by decide) h9)
      refine lv_iload_n hx hb d_B_colourAt_45 rfl (lv_at hl 3 rfl) ?_
      refine lv_iconst (v := (5 : Int32)) hx hb d_B_colourAt_46 (by decide) ?_
      refine lv_iand hx hb d_B_colourAt_47 ?_
      refine lv_if_eq (tgt := 58) hx hb d_B_colourAt_48 (by decide) (fun q3 => ?_) (fun q3 => ?_)
      · refine lv_iload_n hx hb d_B_colourAt_58 rfl (lv_at hl 3 rfl) ?_
        refine lv_bipush (v := (10 : Int32)) hx hb d_B_colourAt_59 (by decide) ?_
        refine lv_iand hx hb d_B_colourAt_61 ?_
        refine lv_if_eq (tgt := 72) hx hb d_B_colourAt_62 (by decide) (fun q4 => ?_) (fun q4 => ?_)
        · refine lv_iload_n hx hb d_B_colourAt_72 rfl (lv_at hl 0 rfl) ?_
          refine lv_if_eq (tgt := 85) hx hb d_B_colourAt_73 (by decide) (fun _ => ?_) (fun h9 => absurd (by decide) h9)
          refine lv_aload_n hx hb d_B_colourAt_85 rfl (lv_at hl 1 rfl) ?_
          refine va_get (D := D) (ci := 0) (v := .ref (ad 1)) (C := R_B) (T := F_B) (N := 10) hx hb hT in_B hown hK hP 0 rfl rfl 0 (by decide) (hT _ fl_B_9) (fun _ h9 => h9) rfl d_B_colourAt_86 ?_
          refine lv_iconst (v := (0 : Int32)) hx hb d_B_colourAt_89 (by decide) ?_
          refine va_iald hx hb hK hP 1 0 rfl rfl (by first | assumption | exact kin (by decide)) d_B_colourAt_90 ?_
          have e9 : (σ 0 ((0 : Int32)).toNatClampNeg) = f_B_colourAt σ x he := by rw [f_B_colourAt, if_pos q1, if_pos q2, if_pos q3, if_pos q4]
          exact W.iret (v := (σ 0 ((0 : Int32)).toNatClampNeg)) hx hb hr (fun t ht hW => ⟨_, rfl, e9, ht⟩) (fun _ h => absurd h List.not_mem_nil) d_B_colourAt_91
        · refine lv_aload_n hx hb d_B_colourAt_65 rfl (lv_at hl 1 rfl) ?_
          refine va_get (D := D) (ci := 0) (v := .ref (ad 1)) (C := R_B) (T := F_B) (N := 10) hx hb hT in_B hown hK hP 0 rfl rfl 0 (by decide) (hT _ fl_B_9) (fun _ h9 => h9) rfl d_B_colourAt_66 ?_
          refine lv_iconst (v := (3 : Int32)) hx hb d_B_colourAt_69 (by decide) ?_
          refine va_iald hx hb hK hP 1 0 rfl rfl (by first | assumption | exact kin (by decide)) d_B_colourAt_70 ?_
          have e9 : (σ 0 ((3 : Int32)).toNatClampNeg) = f_B_colourAt σ x he := by rw [f_B_colourAt, if_pos q1, if_pos q2, if_pos q3, if_neg q4]
          exact W.iret (v := (σ 0 ((3 : Int32)).toNatClampNeg)) hx hb hr (fun t ht hW => ⟨_, rfl, e9, ht⟩) (fun _ h => absurd h List.not_mem_nil) d_B_colourAt_71
      · refine lv_aload_n hx hb d_B_colourAt_51 rfl (lv_at hl 1 rfl) ?_
        refine va_get (D := D) (ci := 0) (v := .ref (ad 1)) (C := R_B) (T := F_B) (N := 10) hx hb hT in_B hown hK hP 0 rfl rfl 0 (by decide) (hT _ fl_B_9) (fun _ h9 => h9) rfl d_B_colourAt_52 ?_
        refine lv_iconst (v := (2 : Int32)) hx hb d_B_colourAt_55 (by decide) ?_
        refine va_iald hx hb hK hP 1 0 rfl rfl (by first | assumption | exact kin (by decide)) d_B_colourAt_56 ?_
        have e9 : (σ 0 ((2 : Int32)).toNatClampNeg) = f_B_colourAt σ x he := by rw [f_B_colourAt, if_pos q1, if_pos q2, if_neg q3]
        exact W.iret (v := (σ 0 ((2 : Int32)).toNatClampNeg)) hx hb hr (fun t ht hW => ⟨_, rfl, e9, ht⟩) (fun _ h => absurd h List.not_mem_nil) d_B_colourAt_57
    · refine lv_iconst (v := (1 : Int32)) hx hb d_B_colourAt_18 (by decide) ?_
      refine lv_goto (tgt := 23) hx hb d_B_colourAt_19 (by decide) ?_
      refine lv_istore_n (lv' := [(3, .int (1 : Int32)), (0, .ref (ad 0)), (1, .int x), (2, .int he)]) hx hb d_B_colourAt_23 rfl hl (by decide) rfl (fun ls hl => ?_)
      refine lv_iload_n hx hb d_B_colourAt_24 rfl (lv_at hl 0 rfl) ?_
      refine lv_if_eq (tgt := 45) hx hb d_B_colourAt_25 (by decide) (fun h9 => absurd h9 (by decide)) (fun _ => ?_)
      refine lv_aload_n hx hb d_B_colourAt_28 rfl (lv_at hl 1 rfl) ?_
      refine lv_bipush (v := (8 : Int32)) hx hb d_B_colourAt_29 (by decide) ?_
      refine lv_iconst (v := (4 : Int32)) hx hb d_B_colourAt_31 (by decide) ?_
      refine vp_callSi (va_Run.run (va_runV (As := [.int (8 : Int32), .int (4 : Int32)]) (rest := []) ⟨hx, hb, hml, hown, hT⟩ (c_B_hasBit l D cA ad t hap σ (8 : Int32) (4 : Int32) (by first | assumption | exact kin (by decide))) (kCV 2 hT ml_B_90 mi_B_hasBit ⟨Nat.le_of_ble_eq_true rfl, Nat.le_of_ble_eq_true rfl⟩) (bpreV hK hP hZ hS) rfl rfl hl.1 rfl (lv_room (Nat.le_of_ble_eq_true rfl)) d_B_colourAt_32 ⟨Nat.le_of_ble_eq_true rfl, Nat.le_of_ble_eq_true rfl⟩)) (fun r9 e9 => ?_)
      subst e9
      refine lv_if_eq (tgt := 45) hx hb d_B_colourAt_35 (by decide) (fun q5 => ?_) (fun q5 => ?_)
      · refine lv_iload_n hx hb d_B_colourAt_45 rfl (lv_at hl 3 rfl) ?_
        refine lv_iconst (v := (5 : Int32)) hx hb d_B_colourAt_46 (by decide) ?_
        refine lv_iand hx hb d_B_colourAt_47 ?_
        refine lv_if_eq (tgt := 58) hx hb d_B_colourAt_48 (by decide) (fun q6 => ?_) (fun q6 => ?_)
        · refine lv_iload_n hx hb d_B_colourAt_58 rfl (lv_at hl 3 rfl) ?_
          refine lv_bipush (v := (10 : Int32)) hx hb d_B_colourAt_59 (by decide) ?_
          refine lv_iand hx hb d_B_colourAt_61 ?_
          refine lv_if_eq (tgt := 72) hx hb d_B_colourAt_62 (by decide) (fun q7 => ?_) (fun q7 => ?_)
          · refine lv_iload_n hx hb d_B_colourAt_72 rfl (lv_at hl 0 rfl) ?_
            refine lv_if_eq (tgt := 85) hx hb d_B_colourAt_73 (by decide) (fun h9 => absurd h9 (by decide)) (fun _ => ?_)
            refine lv_aload_n hx hb d_B_colourAt_76 rfl (lv_at hl 1 rfl) ?_
            refine lv_iload_n hx hb d_B_colourAt_77 rfl (lv_at hl 2 rfl) ?_
            refine lv_iload_n hx hb d_B_colourAt_78 rfl (lv_at hl 3 rfl) ?_
            refine vp_callSi (va_Run.run (va_runV (As := [.int x, .int he]) (rest := []) ⟨hx, hb, hml, hown, hT⟩ (c_B_fieldColour l D cA ad t hap σ x he) (kCV 2 hT ml_B_142 mi_B_fieldColour ⟨Nat.le_of_ble_eq_true rfl, Nat.le_of_ble_eq_true rfl⟩) (bpreV hK hP hZ hS) rfl rfl hl.1 rfl (lv_room (Nat.le_of_ble_eq_true rfl)) d_B_colourAt_79 ⟨Nat.le_of_ble_eq_true rfl, Nat.le_of_ble_eq_true rfl⟩)) (fun r9 e9 => ?_)
            subst e9
            refine lv_goto (tgt := 91) hx hb d_B_colourAt_82 (by decide) ?_
            have e9 : (f_B_fieldColour σ x he) = f_B_colourAt σ x he := by rw [f_B_colourAt, if_pos q1, if_neg q2, if_pos q5, if_pos q6, if_pos q7]
            exact W.iret (v := (f_B_fieldColour σ x he)) hx hb hr (fun t ht hW => ⟨_, rfl, e9, ht⟩) (fun _ h => absurd h List.not_mem_nil) d_B_colourAt_91
          · refine lv_aload_n hx hb d_B_colourAt_65 rfl (lv_at hl 1 rfl) ?_
            refine va_get (D := D) (ci := 0) (v := .ref (ad 1)) (C := R_B) (T := F_B) (N := 10) hx hb hT in_B hown hK hP 0 rfl rfl 0 (by decide) (hT _ fl_B_9) (fun _ h9 => h9) rfl d_B_colourAt_66 ?_
            refine lv_iconst (v := (3 : Int32)) hx hb d_B_colourAt_69 (by decide) ?_
            refine va_iald hx hb hK hP 1 0 rfl rfl (by first | assumption | exact kin (by decide)) d_B_colourAt_70 ?_
            have e9 : (σ 0 ((3 : Int32)).toNatClampNeg) = f_B_colourAt σ x he := by rw [f_B_colourAt, if_pos q1, if_neg q2, if_pos q5, if_pos q6, if_neg q7]
            exact W.iret (v := (σ 0 ((3 : Int32)).toNatClampNeg)) hx hb hr (fun t ht hW => ⟨_, rfl, e9, ht⟩) (fun _ h => absurd h List.not_mem_nil) d_B_colourAt_71
        · refine lv_aload_n hx hb d_B_colourAt_51 rfl (lv_at hl 1 rfl) ?_
          refine va_get (D := D) (ci := 0) (v := .ref (ad 1)) (C := R_B) (T := F_B) (N := 10) hx hb hT in_B hown hK hP 0 rfl rfl 0 (by decide) (hT _ fl_B_9) (fun _ h9 => h9) rfl d_B_colourAt_52 ?_
          refine lv_iconst (v := (2 : Int32)) hx hb d_B_colourAt_55 (by decide) ?_
          refine va_iald hx hb hK hP 1 0 rfl rfl (by first | assumption | exact kin (by decide)) d_B_colourAt_56 ?_
          have e9 : (σ 0 ((2 : Int32)).toNatClampNeg) = f_B_colourAt σ x he := by rw [f_B_colourAt, if_pos q1, if_neg q2, if_pos q5, if_neg q6]
          exact W.iret (v := (σ 0 ((2 : Int32)).toNatClampNeg)) hx hb hr (fun t ht hW => ⟨_, rfl, e9, ht⟩) (fun _ h => absurd h List.not_mem_nil) d_B_colourAt_57
      · refine lv_aload_n hx hb d_B_colourAt_38 rfl (lv_at hl 1 rfl) ?_
        refine lv_iload_n hx hb d_B_colourAt_39 rfl (lv_at hl 2 rfl) ?_
        refine lv_iload_n hx hb d_B_colourAt_40 rfl (lv_at hl 3 rfl) ?_
        refine vp_callSi (va_Run.run (va_runV (As := [.int x, .int he]) (rest := []) ⟨hx, hb, hml, hown, hT⟩ (c_B_fieldColour l D cA ad t hap σ x he) (kCV 2 hT ml_B_142 mi_B_fieldColour ⟨Nat.le_of_ble_eq_true rfl, Nat.le_of_ble_eq_true rfl⟩) (bpreV hK hP hZ hS) rfl rfl hl.1 rfl (lv_room (Nat.le_of_ble_eq_true rfl)) d_B_colourAt_41 ⟨Nat.le_of_ble_eq_true rfl, Nat.le_of_ble_eq_true rfl⟩)) (fun r9 e9 => ?_)
        subst e9
        have e9 : (f_B_fieldColour σ x he) = f_B_colourAt σ x he := by rw [f_B_colourAt, if_pos q1, if_neg q2, if_neg q5]
        exact W.iret (v := (f_B_fieldColour σ x he)) hx hb hr (fun t ht hW => ⟨_, rfl, e9, ht⟩) (fun _ h => absurd h List.not_mem_nil) d_B_colourAt_44
  · refine lv_iconst (v := (0 : Int32)) hx hb d_B_colourAt_9 (by decide) ?_
    have e9 : (0 : Int32) = f_B_colourAt σ x he := by rw [f_B_colourAt, if_neg q1]
    exact W.iret (v := (0 : Int32)) hx hb hr (fun t ht hW => ⟨_, rfl, e9, ht⟩) (fun _ h => absurd h List.not_mem_nil) d_B_colourAt_10

def f_B_countMeetings_lp13 (σ : Nat → Nat → Int32) : Nat → Int32 → Int32 → Int32
  | 0, i, acc => (acc / (2 : Int32))
  | n + 1, i, acc => (f_B_countMeetings_lp13 σ n (i + 1) (acc + (f_J_bitCount (σ 4 (i).toNatClampNeg))))
theorem f_B_countMeetings_lp13_z (σ : Nat → Nat → Int32) (i : Int32) (acc : Int32) : f_B_countMeetings_lp13 σ 0 i acc = (acc / (2 : Int32)) := rfl
theorem f_B_countMeetings_lp13_s (σ : Nat → Nat → Int32) (n : Nat) (i : Int32) (acc : Int32) : f_B_countMeetings_lp13 σ (n + 1) i acc = (f_B_countMeetings_lp13 σ n (i + 1) (acc + (f_J_bitCount (σ 4 (i).toNatClampNeg)))) := rfl

def f_B_countMeetings (σ : Nat → Nat → Int32) : Int32 := (f_B_countMeetings_lp13 σ 6 (0 : Int32) (0 : Int32))

set_option maxRecDepth 100000 in
set_option maxHeartbeats 4000000 in
theorem c_B_countMeetings (l : Launch) (D : va_G) (cA ad t : Nat → Nat) (hap : kap 7 ad) (σ : Nat → Nat → Int32) : Met l y_B_countMeetings w_B_countMeetings ({ frames := 1, cells := 0, slots := 0, locals := 20 } : Room) (va_Pc [.ref (ad 0)] (bPre D cA ad t σ)) (vp_Si (fun v => v = f_B_countMeetings σ)) 0 0 (fun _ => False) := by
  refine Met.ofW (cc := b_B_countMeetings) (maxL := 6) (ret := (some .int)) (by decide) rfl ?_
  intro p e s m args below meth c s₁ B hml hv
  obtain ⟨rfl, hv⟩ := hv
  obtain ⟨hP, hK, hZ⟩ := hv
  have hx := B.exec
  have hb := B.bytes
  have hr := B.returns
  have hlocks := B.notSynchronized
  have hT : ∀ w ∈ TB, w.before ([.ref (ad 0)] : List Value).toArray s = true := fun w h => atoms_spec (ws := w_B_countMeetings) B.pre w (List.mem_cons_of_mem _ h)
  have hown : s.vm.findClass R_B = some m.cls := findClass_of_methodNamed B.named
  have hS : va_S (kA 7 ad) s.heap s.heap [] := va_S.rf
  have hl := lv_entry ([.ref (ad 0)]) (n := 6) (Nat.le_of_ble_eq_true rfl)
  rw [lg_entry_eq]
  generalize (lg_sl ([.ref (ad 0)]) ++ List.replicate (6 - (lg_sl ([.ref (ad 0)])).length) Slot.unset).toArray = ls at hl ⊢
  have hl : lv_has ls 6 [(0, .ref (ad 0))] := hl
  have loop13 : ∀ (n i : Nat) (acc : Int32) (ls : Array Slot), i + n = 6 → lv_has ls 6 [(4, .int (nI i)), (3, .int (6 : Int32)), (2, .ref (ad 5)), (1, .int acc), (0, .ref (ad 0))] → f_B_countMeetings_lp13 σ n (nI i) acc = f_B_countMeetings σ → W p l e (headSpec w_B_countMeetings ({ frames := 1, cells := 0, slots := 0, locals := 20 } : Room)).room s m ([.ref (ad 0)] : List Value).toArray below meth c s.heap [] 0 0 (MQ below (vp_Si (fun v => v = f_B_countMeetings σ)) ([.ref (ad 0)] : List Value).toArray s 0 0 (fun _ => False)) (F0 m 13 ls []) := by
    intro n
    induction n with
    | zero =>
      intro i acc ls hi hl hg
      refine lv_iload hx hb d_B_countMeetings_13 (lv_at hl 0 rfl) ?_
      refine lv_iload_n hx hb d_B_countMeetings_15 rfl (lv_at hl 1 rfl) ?_
      refine lv_icmp_ge (tgt := 39) hx hb d_B_countMeetings_16 (by decide) (fun _ => ?_) (fun h9 => absurd (nI_le (a := 6) (b := i) (by omega) (by omega)) h9)
      refine lv_iload_n hx hb d_B_countMeetings_39 rfl (lv_at hl 3 rfl) ?_
      refine lv_iconst (v := (2 : Int32)) hx hb d_B_countMeetings_40 (by decide) ?_
      refine lv_idiv hx hb d_B_countMeetings_41 (by decide) ?_
      have e9 : (acc / (2 : Int32)) = f_B_countMeetings σ := by rw [← hg, f_B_countMeetings_lp13_z]
      exact W.iret (v := (acc / (2 : Int32))) hx hb hr (fun t ht hW => ⟨_, rfl, e9, ht⟩) (fun _ h => absurd h List.not_mem_nil) d_B_countMeetings_42
    | succ n ih =>
      intro i acc ls hi hl hg
      refine lv_iload hx hb d_B_countMeetings_13 (lv_at hl 0 rfl) ?_
      refine lv_iload_n hx hb d_B_countMeetings_15 rfl (lv_at hl 1 rfl) ?_
      refine lv_icmp_ge (tgt := 39) hx hb d_B_countMeetings_16 (by decide) (fun h9 => absurd h9 (nI_ge (a := i) (b := 6) (by omega) (by decide))) (fun _ => ?_)
      refine lv_aload_n hx hb d_B_countMeetings_19 rfl (lv_at hl 2 rfl) ?_
      refine lv_iload hx hb d_B_countMeetings_20 (lv_at hl 0 rfl) ?_
      refine va_iald hx hb hK hP 5 0 rfl rfl (by first | assumption | exact kin (by decide) | exact vp_in_nI (by omega) (by decide)) d_B_countMeetings_22 ?_
      refine lv_istore (lv' := [(5, .int (σ 4 ((nI i)).toNatClampNeg)), (4, .int (nI i)), (3, .int (6 : Int32)), (2, .ref (ad 5)), (1, .int acc), (0, .ref (ad 0))]) hx hb d_B_countMeetings_23 hl (by decide) rfl (fun ls hl => ?_)
      refine lv_iload_n hx hb d_B_countMeetings_25 rfl (lv_at hl 4 rfl) ?_
      refine lv_iload hx hb d_B_countMeetings_26 (lv_at hl 0 rfl) ?_
      refine vp_callSi (va_Run.run (va_runS (As := [.int (σ 4 ((nI i)).toNatClampNeg)]) (rest := [.int acc]) ⟨hx, hb, hml, hown, hT⟩ (c_J_bitCount l (σ 4 ((nI i)).toNatClampNeg)) (kCS 1 hT ml_B_145 ms_JI_bitCount ⟨Nat.le_of_ble_eq_true rfl, Nat.le_of_ble_eq_true rfl⟩) (kpreJ) rfl rfl hl.1 rfl (lv_room (Nat.le_of_ble_eq_true rfl)) d_B_countMeetings_28 ⟨Nat.le_of_ble_eq_true rfl, Nat.le_of_ble_eq_true rfl⟩)) (fun r9 e9 => ?_)
      subst e9
      refine lv_iadd hx hb d_B_countMeetings_31 ?_
      refine lv_istore_n (lv' := [(1, .int (acc + (f_J_bitCount (σ 4 ((nI i)).toNatClampNeg)))), (5, .int (σ 4 ((nI i)).toNatClampNeg)), (4, .int (nI i)), (3, .int (6 : Int32)), (2, .ref (ad 5)), (0, .ref (ad 0))]) hx hb d_B_countMeetings_32 rfl hl (by decide) rfl (fun ls hl => ?_)
      refine lv_iinc (v := (nI (i + 1))) (lv' := [(4, .int (nI (i + 1))), (1, .int (acc + (f_J_bitCount (σ 4 ((nI i)).toNatClampNeg)))), (5, .int (σ 4 ((nI i)).toNatClampNeg)), (3, .int (6 : Int32)), (2, .ref (ad 5)), (0, .ref (ad 0))]) hx hb d_B_countMeetings_33 hl (k := 2) rfl (by rw [nI_succ]; rfl) (by decide) rfl (fun ls hl => ?_)
      refine lv_goto (tgt := 13) hx hb d_B_countMeetings_36 (by decide) ?_
      exact ih (i + 1) (acc + (f_J_bitCount (σ 4 ((nI i)).toNatClampNeg))) ls (by omega) (lv_sub hl [0, 3, 4, 1, 5] rfl) (by rw [← hg, f_B_countMeetings_lp13_s, nI_succ])
  refine lv_iconst (v := (0 : Int32)) hx hb d_B_countMeetings_0 (by decide) ?_
  refine lv_istore_n (lv' := [(1, .int (0 : Int32)), (0, .ref (ad 0))]) hx hb d_B_countMeetings_1 rfl hl (by decide) rfl (fun ls hl => ?_)
  refine lv_aload_n hx hb d_B_countMeetings_2 rfl (lv_at hl 1 rfl) ?_
  refine va_get (D := D) (ci := 0) (v := .ref (ad 5)) (C := R_B) (T := F_B) (N := 10) hx hb hT in_B hown hK hP 0 rfl rfl 4 (by decide) (hT _ fl_B_22) (fun _ h9 => h9) rfl d_B_countMeetings_3 ?_
  refine lv_astore_n (lv' := [(2, .ref (ad 5)), (1, .int (0 : Int32)), (0, .ref (ad 0))]) hx hb d_B_countMeetings_6 rfl hl (by decide) rfl (fun ls hl => ?_)
  refine lv_aload_n hx hb d_B_countMeetings_7 rfl (lv_at hl 0 rfl) ?_
  refine va_alen (v := (6 : Int32)) hx hb hK hP 5 0 rfl rfl rfl d_B_countMeetings_8 ?_
  refine lv_istore_n (lv' := [(3, .int (6 : Int32)), (2, .ref (ad 5)), (1, .int (0 : Int32)), (0, .ref (ad 0))]) hx hb d_B_countMeetings_9 rfl hl (by decide) rfl (fun ls hl => ?_)
  refine lv_iconst (v := (0 : Int32)) hx hb d_B_countMeetings_10 (by decide) ?_
  refine lv_istore (lv' := [(4, .int (0 : Int32)), (3, .int (6 : Int32)), (2, .ref (ad 5)), (1, .int (0 : Int32)), (0, .ref (ad 0))]) hx hb d_B_countMeetings_11 hl (by decide) rfl (fun ls hl => ?_)
  exact loop13 6 0 (0 : Int32) ls rfl (lv_sub hl [0, 1, 2, 3, 4] rfl) (by rw [f_B_countMeetings]; rfl)
