def f_M_isThere (σ : Nat → Nat → Int32) (o : Int32) (x : Int32) : Int32 := (if o = (0 : Int32) then (f_M_player σ o x) else (if o = (1 : Int32) then (f_M_player σ o x) else (if o = (2 : Int32) then (f_M_missile σ (o - (2 : Int32)) x) else (if o = (3 : Int32) then (f_M_missile σ (o - (2 : Int32)) x) else (if o = (4 : Int32) then (if (f_M_bit σ (14 : Int32) (0 : Int32)) = 0 then (if (σ 7 1) = 0 then (0 : Int32) else (if (f_M_size (σ 0 ((8 : Int32)).toNatClampNeg)) ≤ (f_M_behind x (σ 1 ((4 : Int32)).toNatClampNeg)) then (0 : Int32) else (1 : Int32))) else (if (σ 7 2) = 0 then (0 : Int32) else (if (f_M_size (σ 0 ((8 : Int32)).toNatClampNeg)) ≤ (f_M_behind x (σ 1 ((4 : Int32)).toNatClampNeg)) then (0 : Int32) else (1 : Int32)))) else (f_M_playfield σ x))))))

theorem z_M_isThere (σ : Nat → Nat → Int32) (o : Int32) (x : Int32) : f_M_isThere σ o x = 0 ∨ f_M_isThere σ o x = 1 := by
  rw [f_M_isThere]
  repeat' split
  all_goals first | with_reducible exact Or.inl rfl | with_reducible exact Or.inr rfl | with_reducible exact z_M_missile .. | with_reducible exact z_M_player .. | with_reducible exact z_M_playfield ..

set_option maxRecDepth 100000 in
set_option maxHeartbeats 4000000 in
theorem c_M_isThere (l : Launch) (D : va_G) (cA ad : Nat → Nat) (hap : kap 8 ad) (σ : Nat → Nat → Int32) (o : Int32) (x : Int32) (h1 : vp_in o 6) : Met l y_M_isThere w_M_isThere ({ frames := 3, cells := 0, slots := 0, locals := 71 } : Room) (va_Pc [.ref (ad 0), .int o, .int x] (mPre D cA ad σ)) (vp_Si (fun v => v = f_M_isThere σ o x)) 0 0 (fun _ => False) := by
  refine Met.ofW (cc := b_M_isThere) (maxL := 3) (ret := (some .boolean)) (by decide) rfl ?_
  intro p e s m args below meth c s₁ B hml hv
  obtain ⟨rfl, hv⟩ := hv
  obtain ⟨hP, hK⟩ := hv
  have hx := B.exec
  have hb := B.bytes
  have hr := B.returns
  have hlocks := B.notSynchronized
  have hT : ∀ w ∈ TB, w.before ([.ref (ad 0), .int o, .int x] : List Value).toArray s = true := fun w h => atoms_spec (ws := w_M_isThere) B.pre w (List.mem_cons_of_mem _ h)
  have hown : s.vm.findClass R_M = some m.cls := findClass_of_methodNamed B.named
  have hS : va_S (kA 8 ad) s.heap s.heap [] := va_S.rf
  have hl := lv_entry ([.ref (ad 0), .int o, .int x]) (n := 3) (Nat.le_of_ble_eq_true rfl)
  rw [lg_entry_eq]
  generalize (lg_sl ([.ref (ad 0), .int o, .int x]) ++ List.replicate (3 - (lg_sl ([.ref (ad 0), .int o, .int x])).length) Slot.unset).toArray = ls at hl ⊢
  have hl : lv_has ls 3 [(0, .ref (ad 0)), (1, .int o), (2, .int x)] := hl
  refine lv_iload_n hx hb d_M_isThere_0 rfl (lv_at hl 1 rfl) ?_
  by_cases q1 : o = (0 : Int32)
  · refine lv_tableIn (tgt := 36) (off := 35) hx hb d_M_isThere_1 (by rw [q1]; decide) (by rw [q1]; decide) (by rw [q1]; rfl) (by decide) ?_
    refine lv_aload_n hx hb d_M_isThere_36 rfl (lv_at hl 0 rfl) ?_
    refine lv_iload_n hx hb d_M_isThere_37 rfl (lv_at hl 1 rfl) ?_
    refine lv_iload_n hx hb d_M_isThere_38 rfl (lv_at hl 2 rfl) ?_
    refine vp_callSi (va_Run.run (va_runV (As := [.int o, .int x]) (rest := []) ⟨hx, hb, hml, hown, hT⟩ (c_M_player l D cA ad hap σ o x (by first | assumption | exact kin (by decide) | exact Or.inl (by assumption) | exact Or.inr (by assumption) | (exact Or.inl (by rw [show o = (2 : Int32) by assumption]; rfl)) | (exact Or.inr (by rw [show o = (3 : Int32) by assumption]; rfl)))) (kCV 2 hT ml_M_88 mi_M_player ⟨Nat.le_of_ble_eq_true rfl, Nat.le_of_ble_eq_true rfl⟩) (mpreV hK hP) rfl rfl hl.1 rfl (lv_room (Nat.le_of_ble_eq_true rfl)) d_M_isThere_39 ⟨Nat.le_of_ble_eq_true rfl, Nat.le_of_ble_eq_true rfl⟩)) (fun r9 e9 => ?_)
    subst e9
    have e9 : (f_M_player σ o x) = f_M_isThere σ o x := by rw [f_M_isThere, if_pos q1]
    exact W.zret (v := (f_M_player σ o x)) hx hb hr (kz_nar (z_M_player ..)) (fun t ht hW => ⟨_, rfl, e9, ht⟩) (fun _ h => absurd h List.not_mem_nil) d_M_isThere_42
  by_cases q2 : o = (1 : Int32)
  · refine lv_tableIn (tgt := 36) (off := 35) hx hb d_M_isThere_1 (by rw [q2]; decide) (by rw [q2]; decide) (by rw [q2]; rfl) (by decide) ?_
    refine lv_aload_n hx hb d_M_isThere_36 rfl (lv_at hl 0 rfl) ?_
    refine lv_iload_n hx hb d_M_isThere_37 rfl (lv_at hl 1 rfl) ?_
    refine lv_iload_n hx hb d_M_isThere_38 rfl (lv_at hl 2 rfl) ?_
    refine vp_callSi (va_Run.run (va_runV (As := [.int o, .int x]) (rest := []) ⟨hx, hb, hml, hown, hT⟩ (c_M_player l D cA ad hap σ o x (by first | assumption | exact kin (by decide) | exact Or.inl (by assumption) | exact Or.inr (by assumption) | (exact Or.inl (by rw [show o = (2 : Int32) by assumption]; rfl)) | (exact Or.inr (by rw [show o = (3 : Int32) by assumption]; rfl)))) (kCV 2 hT ml_M_88 mi_M_player ⟨Nat.le_of_ble_eq_true rfl, Nat.le_of_ble_eq_true rfl⟩) (mpreV hK hP) rfl rfl hl.1 rfl (lv_room (Nat.le_of_ble_eq_true rfl)) d_M_isThere_39 ⟨Nat.le_of_ble_eq_true rfl, Nat.le_of_ble_eq_true rfl⟩)) (fun r9 e9 => ?_)
    subst e9
    have e9 : (f_M_player σ o x) = f_M_isThere σ o x := by rw [f_M_isThere, if_neg q1, if_pos q2]
    exact W.zret (v := (f_M_player σ o x)) hx hb hr (kz_nar (z_M_player ..)) (fun t ht hW => ⟨_, rfl, e9, ht⟩) (fun _ h => absurd h List.not_mem_nil) d_M_isThere_42
  by_cases q3 : o = (2 : Int32)
  · refine lv_tableIn (tgt := 43) (off := 42) hx hb d_M_isThere_1 (by rw [q3]; decide) (by rw [q3]; decide) (by rw [q3]; rfl) (by decide) ?_
    refine lv_aload_n hx hb d_M_isThere_43 rfl (lv_at hl 0 rfl) ?_
    refine lv_iload_n hx hb d_M_isThere_44 rfl (lv_at hl 1 rfl) ?_
    refine lv_iconst (v := (2 : Int32)) hx hb d_M_isThere_45 (by decide) ?_
    refine lv_isub hx hb d_M_isThere_46 ?_
    refine lv_iload_n hx hb d_M_isThere_47 rfl (lv_at hl 2 rfl) ?_
    refine vp_callSi (va_Run.run (va_runV (As := [.int (o - (2 : Int32)), .int x]) (rest := []) ⟨hx, hb, hml, hown, hT⟩ (c_M_missile l D cA ad hap σ (o - (2 : Int32)) x (by first | assumption | exact kin (by decide) | exact Or.inl (by assumption) | exact Or.inr (by assumption) | (exact Or.inl (by rw [show o = (2 : Int32) by assumption]; rfl)) | (exact Or.inr (by rw [show o = (3 : Int32) by assumption]; rfl)))) (kCV 2 hT ml_M_91 mi_M_missile ⟨Nat.le_of_ble_eq_true rfl, Nat.le_of_ble_eq_true rfl⟩) (mpreV hK hP) rfl rfl hl.1 rfl (lv_room (Nat.le_of_ble_eq_true rfl)) d_M_isThere_48 ⟨Nat.le_of_ble_eq_true rfl, Nat.le_of_ble_eq_true rfl⟩)) (fun r9 e9 => ?_)
    subst e9
    have e9 : (f_M_missile σ (o - (2 : Int32)) x) = f_M_isThere σ o x := by rw [f_M_isThere, if_neg q1, if_neg q2, if_pos q3]
    exact W.zret (v := (f_M_missile σ (o - (2 : Int32)) x)) hx hb hr (kz_nar (z_M_missile ..)) (fun t ht hW => ⟨_, rfl, e9, ht⟩) (fun _ h => absurd h List.not_mem_nil) d_M_isThere_51
  by_cases q4 : o = (3 : Int32)
  · refine lv_tableIn (tgt := 43) (off := 42) hx hb d_M_isThere_1 (by rw [q4]; decide) (by rw [q4]; decide) (by rw [q4]; rfl) (by decide) ?_
    refine lv_aload_n hx hb d_M_isThere_43 rfl (lv_at hl 0 rfl) ?_
    refine lv_iload_n hx hb d_M_isThere_44 rfl (lv_at hl 1 rfl) ?_
    refine lv_iconst (v := (2 : Int32)) hx hb d_M_isThere_45 (by decide) ?_
    refine lv_isub hx hb d_M_isThere_46 ?_
    refine lv_iload_n hx hb d_M_isThere_47 rfl (lv_at hl 2 rfl) ?_
    refine vp_callSi (va_Run.run (va_runV (As := [.int (o - (2 : Int32)), .int x]) (rest := []) ⟨hx, hb, hml, hown, hT⟩ (c_M_missile l D cA ad hap σ (o - (2 : Int32)) x (by first | assumption | exact kin (by decide) | exact Or.inl (by assumption) | exact Or.inr (by assumption) | (exact Or.inl (by rw [show o = (2 : Int32) by assumption]; rfl)) | (exact Or.inr (by rw [show o = (3 : Int32) by assumption]; rfl)))) (kCV 2 hT ml_M_91 mi_M_missile ⟨Nat.le_of_ble_eq_true rfl, Nat.le_of_ble_eq_true rfl⟩) (mpreV hK hP) rfl rfl hl.1 rfl (lv_room (Nat.le_of_ble_eq_true rfl)) d_M_isThere_48 ⟨Nat.le_of_ble_eq_true rfl, Nat.le_of_ble_eq_true rfl⟩)) (fun r9 e9 => ?_)
    subst e9
    have e9 : (f_M_missile σ (o - (2 : Int32)) x) = f_M_isThere σ o x := by rw [f_M_isThere, if_neg q1, if_neg q2, if_neg q3, if_pos q4]
    exact W.zret (v := (f_M_missile σ (o - (2 : Int32)) x)) hx hb hr (kz_nar (z_M_missile ..)) (fun t ht hW => ⟨_, rfl, e9, ht⟩) (fun _ h => absurd h List.not_mem_nil) d_M_isThere_51
  by_cases q5 : o = (4 : Int32)
  · refine lv_tableIn (tgt := 52) (off := 51) hx hb d_M_isThere_1 (by rw [q5]; decide) (by rw [q5]; decide) (by rw [q5]; rfl) (by decide) ?_
    refine lv_aload_n hx hb d_M_isThere_52 rfl (lv_at hl 0 rfl) ?_
    refine lv_bipush (v := (14 : Int32)) hx hb d_M_isThere_53 (by decide) ?_
    refine lv_iconst (v := (0 : Int32)) hx hb d_M_isThere_55 (by decide) ?_
    refine vp_callSi (va_Run.run (va_runV (As := [.int (14 : Int32), .int (0 : Int32)]) (rest := []) ⟨hx, hb, hml, hown, hT⟩ (c_M_bit l D cA ad hap σ (14 : Int32) (0 : Int32) (by first | assumption | exact kin (by decide) | exact Or.inl (by assumption) | exact Or.inr (by assumption) | (exact Or.inl (by rw [show o = (2 : Int32) by assumption]; rfl)) | (exact Or.inr (by rw [show o = (3 : Int32) by assumption]; rfl)))) (kCV 2 hT ml_M_43 mi_M_bit ⟨Nat.le_of_ble_eq_true rfl, Nat.le_of_ble_eq_true rfl⟩) (mpreV hK hP) rfl rfl hl.1 rfl (lv_room (Nat.le_of_ble_eq_true rfl)) d_M_isThere_56 ⟨Nat.le_of_ble_eq_true rfl, Nat.le_of_ble_eq_true rfl⟩)) (fun r9 e9 => ?_)
    subst e9
    refine lv_if_eq (tgt := 72) hx hb d_M_isThere_59 (by decide) (fun q6 => ?_) (fun q6 => ?_)
    · refine lv_aload_n hx hb d_M_isThere_72 rfl (lv_at hl 0 rfl) ?_
      refine va_get (D := D) (ci := 2) (v := .int (σ 7 1)) (C := R_M) (T := F_M) (N := 17) hx hb hT in_M hown hK hP 0 rfl rfl 5 (by decide) (hT _ fl_M_67) (fun _ h9 => h9) rfl d_M_isThere_73 ?_
      refine lv_if_eq (tgt := 106) hx hb d_M_isThere_76 (by decide) (fun q7 => ?_) (fun q7 => ?_)
      · refine lv_iconst (v := (0 : Int32)) hx hb d_M_isThere_106 (by decide) ?_
        have e9 : (0 : Int32) = f_M_isThere σ o x := by rw [f_M_isThere, if_neg q1, if_neg q2, if_neg q3, if_neg q4, if_pos q5, if_pos q6, if_pos q7]
        exact W.zret (v := (0 : Int32)) hx hb hr (by decide) (fun t ht hW => ⟨_, rfl, e9, ht⟩) (fun _ h => absurd h List.not_mem_nil) d_M_isThere_107
      · refine lv_iload_n hx hb d_M_isThere_79 rfl (lv_at hl 2 rfl) ?_
        refine lv_aload_n hx hb d_M_isThere_80 rfl (lv_at hl 0 rfl) ?_
        refine va_get (D := D) (ci := 2) (v := .ref (ad 2)) (C := R_M) (T := F_M) (N := 17) hx hb hT in_M hown hK hP 0 rfl rfl 2 (by decide) (hT _ fl_M_13) (fun _ h9 => h9) rfl d_M_isThere_81 ?_
        refine lv_iconst (v := (4 : Int32)) hx hb d_M_isThere_84 (by decide) ?_
        refine va_iald hx hb hK hP 2 0 rfl rfl (by first | assumption | exact kin (by decide) | exact Or.inl (by assumption) | exact Or.inr (by assumption) | (exact Or.inl (by rw [show o = (2 : Int32) by assumption]; rfl)) | (exact Or.inr (by rw [show o = (3 : Int32) by assumption]; rfl))) d_M_isThere_85 ?_
        refine vp_callSi (va_Run.run (va_runS (As := [.int x, .int (σ 1 ((4 : Int32)).toNatClampNeg)]) (rest := []) ⟨hx, hb, hml, hown, hT⟩ (c_M_behind l D cA ad hap σ x (σ 1 ((4 : Int32)).toNatClampNeg)) (kCS 2 hT ml_M_78 ms_M_behind ⟨Nat.le_of_ble_eq_true rfl, Nat.le_of_ble_eq_true rfl⟩) (mpreS hK hP) rfl rfl hl.1 rfl (lv_room (Nat.le_of_ble_eq_true rfl)) d_M_isThere_86 ⟨Nat.le_of_ble_eq_true rfl, Nat.le_of_ble_eq_true rfl⟩)) (fun r9 e9 => ?_)
        subst e9
        refine lv_aload_n hx hb d_M_isThere_89 rfl (lv_at hl 0 rfl) ?_
        refine va_get (D := D) (ci := 2) (v := .ref (ad 1)) (C := R_M) (T := F_M) (N := 17) hx hb hT in_M hown hK hP 0 rfl rfl 1 (by decide) (hT _ fl_M_7) (fun _ h9 => h9) rfl d_M_isThere_90 ?_
        refine lv_bipush (v := (8 : Int32)) hx hb d_M_isThere_93 (by decide) ?_
        refine va_iald hx hb hK hP 1 0 rfl rfl (by first | assumption | exact kin (by decide) | exact Or.inl (by assumption) | exact Or.inr (by assumption) | (exact Or.inl (by rw [show o = (2 : Int32) by assumption]; rfl)) | (exact Or.inr (by rw [show o = (3 : Int32) by assumption]; rfl))) d_M_isThere_95 ?_
        refine vp_callSi (va_Run.run (va_runS (As := [.int (σ 0 ((8 : Int32)).toNatClampNeg)]) (rest := [.int (f_M_behind x (σ 1 ((4 : Int32)).toNatClampNeg))]) ⟨hx, hb, hml, hown, hT⟩ (c_M_size l D cA ad hap σ (σ 0 ((8 : Int32)).toNatClampNeg)) (kCS 1 hT ml_M_85 ms_M_size ⟨Nat.le_of_ble_eq_true rfl, Nat.le_of_ble_eq_true rfl⟩) (mpreS hK hP) rfl rfl hl.1 rfl (lv_room (Nat.le_of_ble_eq_true rfl)) d_M_isThere_96 ⟨Nat.le_of_ble_eq_true rfl, Nat.le_of_ble_eq_true rfl⟩)) (fun r9 e9 => ?_)
        subst e9
        refine lv_icmp_ge (tgt := 106) hx hb d_M_isThere_99 (by decide) (fun q8 => ?_) (fun q8 => ?_)
        · refine lv_iconst (v := (0 : Int32)) hx hb d_M_isThere_106 (by decide) ?_
          have e9 : (0 : Int32) = f_M_isThere σ o x := by rw [f_M_isThere, if_neg q1, if_neg q2, if_neg q3, if_neg q4, if_pos q5, if_pos q6, if_neg q7, if_pos q8]
          exact W.zret (v := (0 : Int32)) hx hb hr (by decide) (fun t ht hW => ⟨_, rfl, e9, ht⟩) (fun _ h => absurd h List.not_mem_nil) d_M_isThere_107
        · refine lv_iconst (v := (1 : Int32)) hx hb d_M_isThere_102 (by decide) ?_
          refine lv_goto (tgt := 107) hx hb d_M_isThere_103 (by decide) ?_
          have e9 : (1 : Int32) = f_M_isThere σ o x := by rw [f_M_isThere, if_neg q1, if_neg q2, if_neg q3, if_neg q4, if_pos q5, if_pos q6, if_neg q7, if_neg q8]
          exact W.zret (v := (1 : Int32)) hx hb hr (by decide) (fun t ht hW => ⟨_, rfl, e9, ht⟩) (fun _ h => absurd h List.not_mem_nil) d_M_isThere_107
    · refine lv_aload_n hx hb d_M_isThere_62 rfl (lv_at hl 0 rfl) ?_
      refine va_get (D := D) (ci := 2) (v := .int (σ 7 2)) (C := R_M) (T := F_M) (N := 17) hx hb hT in_M hown hK hP 0 rfl rfl 6 (by decide) (hT _ fl_M_71) (fun _ h9 => h9) rfl d_M_isThere_63 ?_
      refine lv_if_eq (tgt := 106) hx hb d_M_isThere_66 (by decide) (fun q9 => ?_) (fun q9 => ?_)
      · refine lv_iconst (v := (0 : Int32)) hx hb d_M_isThere_106 (by decide) ?_
        have e9 : (0 : Int32) = f_M_isThere σ o x := by rw [f_M_isThere, if_neg q1, if_neg q2, if_neg q3, if_neg q4, if_pos q5, if_neg q6, if_pos q9]
        exact W.zret (v := (0 : Int32)) hx hb hr (by decide) (fun t ht hW => ⟨_, rfl, e9, ht⟩) (fun _ h => absurd h List.not_mem_nil) d_M_isThere_107
      · refine lv_goto (tgt := 79) hx hb d_M_isThere_69 (by decide) ?_
        refine lv_iload_n hx hb d_M_isThere_79 rfl (lv_at hl 2 rfl) ?_
        refine lv_aload_n hx hb d_M_isThere_80 rfl (lv_at hl 0 rfl) ?_
        refine va_get (D := D) (ci := 2) (v := .ref (ad 2)) (C := R_M) (T := F_M) (N := 17) hx hb hT in_M hown hK hP 0 rfl rfl 2 (by decide) (hT _ fl_M_13) (fun _ h9 => h9) rfl d_M_isThere_81 ?_
        refine lv_iconst (v := (4 : Int32)) hx hb d_M_isThere_84 (by decide) ?_
        refine va_iald hx hb hK hP 2 0 rfl rfl (by first | assumption | exact kin (by decide) | exact Or.inl (by assumption) | exact Or.inr (by assumption) | (exact Or.inl (by rw [show o = (2 : Int32) by assumption]; rfl)) | (exact Or.inr (by rw [show o = (3 : Int32) by assumption]; rfl))) d_M_isThere_85 ?_
        refine vp_callSi (va_Run.run (va_runS (As := [.int x, .int (σ 1 ((4 : Int32)).toNatClampNeg)]) (rest := []) ⟨hx, hb, hml, hown, hT⟩ (c_M_behind l D cA ad hap σ x (σ 1 ((4 : Int32)).toNatClampNeg)) (kCS 2 hT ml_M_78 ms_M_behind ⟨Nat.le_of_ble_eq_true rfl, Nat.le_of_ble_eq_true rfl⟩) (mpreS hK hP) rfl rfl hl.1 rfl (lv_room (Nat.le_of_ble_eq_true rfl)) d_M_isThere_86 ⟨Nat.le_of_ble_eq_true rfl, Nat.le_of_ble_eq_true rfl⟩)) (fun r9 e9 => ?_)
        subst e9
        refine lv_aload_n hx hb d_M_isThere_89 rfl (lv_at hl 0 rfl) ?_
        refine va_get (D := D) (ci := 2) (v := .ref (ad 1)) (C := R_M) (T := F_M) (N := 17) hx hb hT in_M hown hK hP 0 rfl rfl 1 (by decide) (hT _ fl_M_7) (fun _ h9 => h9) rfl d_M_isThere_90 ?_
        refine lv_bipush (v := (8 : Int32)) hx hb d_M_isThere_93 (by decide) ?_
        refine va_iald hx hb hK hP 1 0 rfl rfl (by first | assumption | exact kin (by decide) | exact Or.inl (by assumption) | exact Or.inr (by assumption) | (exact Or.inl (by rw [show o = (2 : Int32) by assumption]; rfl)) | (exact Or.inr (by rw [show o = (3 : Int32) by assumption]; rfl))) d_M_isThere_95 ?_
        refine vp_callSi (va_Run.run (va_runS (As := [.int (σ 0 ((8 : Int32)).toNatClampNeg)]) (rest := [.int (f_M_behind x (σ 1 ((4 : Int32)).toNatClampNeg))]) ⟨hx, hb, hml, hown, hT⟩ (c_M_size l D cA ad hap σ (σ 0 ((8 : Int32)).toNatClampNeg)) (kCS 1 hT ml_M_85 ms_M_size ⟨Nat.le_of_ble_eq_true rfl, Nat.le_of_ble_eq_true rfl⟩) (mpreS hK hP) rfl rfl hl.1 rfl (lv_room (Nat.le_of_ble_eq_true rfl)) d_M_isThere_96 ⟨Nat.le_of_ble_eq_true rfl, Nat.le_of_ble_eq_true rfl⟩)) (fun r9 e9 => ?_)
        subst e9
        refine lv_icmp_ge (tgt := 106) hx hb d_M_isThere_99 (by decide) (fun q10 => ?_) (fun q10 => ?_)
        · refine lv_iconst (v := (0 : Int32)) hx hb d_M_isThere_106 (by decide) ?_
          have e9 : (0 : Int32) = f_M_isThere σ o x := by rw [f_M_isThere, if_neg q1, if_neg q2, if_neg q3, if_neg q4, if_pos q5, if_neg q6, if_neg q9, if_pos q10]
          exact W.zret (v := (0 : Int32)) hx hb hr (by decide) (fun t ht hW => ⟨_, rfl, e9, ht⟩) (fun _ h => absurd h List.not_mem_nil) d_M_isThere_107
        · refine lv_iconst (v := (1 : Int32)) hx hb d_M_isThere_102 (by decide) ?_
          refine lv_goto (tgt := 107) hx hb d_M_isThere_103 (by decide) ?_
          have e9 : (1 : Int32) = f_M_isThere σ o x := by rw [f_M_isThere, if_neg q1, if_neg q2, if_neg q3, if_neg q4, if_pos q5, if_neg q6, if_neg q9, if_neg q10]
          exact W.zret (v := (1 : Int32)) hx hb hr (by decide) (fun t ht hW => ⟨_, rfl, e9, ht⟩) (fun _ h => absurd h List.not_mem_nil) d_M_isThere_107
  refine lv_tableOut (tgt := 108) hx hb d_M_isThere_1 (by have a0 := lv_neT q1 (a := 0) rfl; have a1 := lv_neT q2 (a := 1) rfl; have a2 := lv_neT q3 (a := 2) rfl; have a3 := lv_neT q4 (a := 3) rfl; have a4 := lv_neT q5 (a := 4) rfl; omega) (by decide) ?_
  refine lv_aload_n hx hb d_M_isThere_108 rfl (lv_at hl 0 rfl) ?_
  refine lv_iload_n hx hb d_M_isThere_109 rfl (lv_at hl 2 rfl) ?_
  refine vp_callSi (va_Run.run (va_runV (As := [.int x]) (rest := []) ⟨hx, hb, hml, hown, hT⟩ (c_M_playfield l D cA ad hap σ x) (kCV 1 hT ml_M_94 mi_M_playfield ⟨Nat.le_of_ble_eq_true rfl, Nat.le_of_ble_eq_true rfl⟩) (mpreV hK hP) rfl rfl hl.1 rfl (lv_room (Nat.le_of_ble_eq_true rfl)) d_M_isThere_110 ⟨Nat.le_of_ble_eq_true rfl, Nat.le_of_ble_eq_true rfl⟩)) (fun r9 e9 => ?_)
  subst e9
  have e9 : (f_M_playfield σ x) = f_M_isThere σ o x := by rw [f_M_isThere, if_neg q1, if_neg q2, if_neg q3, if_neg q4, if_neg q5]
  exact W.zret (v := (f_M_playfield σ x)) hx hb hr (kz_nar (z_M_playfield ..)) (fun t ht hW => ⟨_, rfl, e9, ht⟩) (fun _ h => absurd h List.not_mem_nil) d_M_isThere_113

def f_M_colour (σ : Nat → Nat → Int32) (x : Int32) : Int32 := (if (σ 6 ((4 : Int32)).toNatClampNeg) = 0 then (if (σ 6 ((5 : Int32)).toNatClampNeg) = 0 then (if (f_M_bit σ (4 : Int32) (0 : Int32)) = 0 then (if (f_M_bit σ (8 : Int32) (2 : Int32)) = 0 then (if (σ 6 ((0 : Int32)).toNatClampNeg) = 0 then (if (σ 6 ((2 : Int32)).toNatClampNeg) = 0 then (if (σ 6 ((1 : Int32)).toNatClampNeg) = 0 then (if (σ 6 ((3 : Int32)).toNatClampNeg) = 0 then (σ 0 ((0 : Int32)).toNatClampNeg) else (σ 0 ((3 : Int32)).toNatClampNeg)) else (σ 0 ((3 : Int32)).toNatClampNeg)) else (σ 0 ((2 : Int32)).toNatClampNeg)) else (σ 0 ((2 : Int32)).toNatClampNeg)) else (if (σ 6 ((0 : Int32)).toNatClampNeg) = 0 then (if (σ 6 ((2 : Int32)).toNatClampNeg) = 0 then (if (σ 6 ((1 : Int32)).toNatClampNeg) = 0 then (if (σ 6 ((3 : Int32)).toNatClampNeg) = 0 then (σ 0 ((0 : Int32)).toNatClampNeg) else (σ 0 ((3 : Int32)).toNatClampNeg)) else (σ 0 ((3 : Int32)).toNatClampNeg)) else (σ 0 ((2 : Int32)).toNatClampNeg)) else (σ 0 ((2 : Int32)).toNatClampNeg))) else (0 : Int32)) else (if (f_M_bit σ (4 : Int32) (0 : Int32)) = 0 then (if (f_M_bit σ (8 : Int32) (2 : Int32)) = 0 then (if (σ 6 ((0 : Int32)).toNatClampNeg) = 0 then (if (σ 6 ((2 : Int32)).toNatClampNeg) = 0 then (if (σ 6 ((1 : Int32)).toNatClampNeg) = 0 then (if (σ 6 ((3 : Int32)).toNatClampNeg) = 0 then (if (f_M_bit σ (8 : Int32) (1 : Int32)) = 0 then (σ 0 ((1 : Int32)).toNatClampNeg) else (if (80 : Int32) ≤ x then (σ 0 ((3 : Int32)).toNatClampNeg) else (σ 0 ((2 : Int32)).toNatClampNeg))) else (σ 0 ((3 : Int32)).toNatClampNeg)) else (σ 0 ((3 : Int32)).toNatClampNeg)) else (σ 0 ((2 : Int32)).toNatClampNeg)) else (σ 0 ((2 : Int32)).toNatClampNeg)) else (if (f_M_bit σ (8 : Int32) (1 : Int32)) = 0 then (σ 0 ((1 : Int32)).toNatClampNeg) else (if (80 : Int32) ≤ x then (σ 0 ((3 : Int32)).toNatClampNeg) else (σ 0 ((2 : Int32)).toNatClampNeg)))) else (0 : Int32))) else (if (f_M_bit σ (4 : Int32) (0 : Int32)) = 0 then (if (f_M_bit σ (8 : Int32) (2 : Int32)) = 0 then (if (σ 6 ((0 : Int32)).toNatClampNeg) = 0 then (if (σ 6 ((2 : Int32)).toNatClampNeg) = 0 then (if (σ 6 ((1 : Int32)).toNatClampNeg) = 0 then (if (σ 6 ((3 : Int32)).toNatClampNeg) = 0 then (if (f_M_bit σ (8 : Int32) (1 : Int32)) = 0 then (σ 0 ((1 : Int32)).toNatClampNeg) else (if (σ 6 ((5 : Int32)).toNatClampNeg) = 0 then (σ 0 ((1 : Int32)).toNatClampNeg) else (if (80 : Int32) ≤ x then (σ 0 ((3 : Int32)).toNatClampNeg) else (σ 0 ((2 : Int32)).toNatClampNeg)))) else (σ 0 ((3 : Int32)).toNatClampNeg)) else (σ 0 ((3 : Int32)).toNatClampNeg)) else (σ 0 ((2 : Int32)).toNatClampNeg)) else (σ 0 ((2 : Int32)).toNatClampNeg)) else (if (f_M_bit σ (8 : Int32) (1 : Int32)) = 0 then (σ 0 ((1 : Int32)).toNatClampNeg) else (if (σ 6 ((5 : Int32)).toNatClampNeg) = 0 then (σ 0 ((1 : Int32)).toNatClampNeg) else (if (80 : Int32) ≤ x then (σ 0 ((3 : Int32)).toNatClampNeg) else (σ 0 ((2 : Int32)).toNatClampNeg))))) else (0 : Int32)))

set_option maxRecDepth 100000 in
set_option maxHeartbeats 4000000 in
theorem c_M_colour (l : Launch) (D : va_G) (cA ad : Nat → Nat) (hap : kap 8 ad) (σ : Nat → Nat → Int32) (x : Int32) : Met l y_M_colour w_M_colour ({ frames := 1, cells := 0, slots := 0, locals := 22 } : Room) (va_Pc [.ref (ad 0), .int x] (mPre D cA ad σ)) (vp_Si (fun v => v = f_M_colour σ x)) 0 0 (fun _ => False) := by
  refine Met.ofW (cc := b_M_colour) (maxL := 4) (ret := (some .int)) (by decide) rfl ?_
  intro p e s m args below meth c s₁ B hml hv
  obtain ⟨rfl, hv⟩ := hv
  obtain ⟨hP, hK⟩ := hv
  have hx := B.exec
  have hb := B.bytes
  have hr := B.returns
  have hlocks := B.notSynchronized
  have hT : ∀ w ∈ TB, w.before ([.ref (ad 0), .int x] : List Value).toArray s = true := fun w h => atoms_spec (ws := w_M_colour) B.pre w (List.mem_cons_of_mem _ h)
  have hown : s.vm.findClass R_M = some m.cls := findClass_of_methodNamed B.named
  have hS : va_S (kA 8 ad) s.heap s.heap [] := va_S.rf
  have hl := lv_entry ([.ref (ad 0), .int x]) (n := 4) (Nat.le_of_ble_eq_true rfl)
  rw [lg_entry_eq]
  generalize (lg_sl ([.ref (ad 0), .int x]) ++ List.replicate (4 - (lg_sl ([.ref (ad 0), .int x])).length) Slot.unset).toArray = ls at hl ⊢
  have hl : lv_has ls 4 [(0, .ref (ad 0)), (1, .int x)] := hl
  refine lv_aload_n hx hb d_M_colour_0 rfl (lv_at hl 0 rfl) ?_
  refine lv_bipush (v := (8 : Int32)) hx hb d_M_colour_1 (by decide) ?_
  refine lv_iconst (v := (2 : Int32)) hx hb d_M_colour_3 (by decide) ?_
  refine vp_callSi (va_Run.run (va_runV (As := [.int (8 : Int32), .int (2 : Int32)]) (rest := []) ⟨hx, hb, hml, hown, hT⟩ (c_M_bit l D cA ad hap σ (8 : Int32) (2 : Int32) (by first | assumption | exact kin (by decide))) (kCV 2 hT ml_M_43 mi_M_bit ⟨Nat.le_of_ble_eq_true rfl, Nat.le_of_ble_eq_true rfl⟩) (mpreV hK hP) rfl rfl hl.1 rfl (lv_room (Nat.le_of_ble_eq_true rfl)) d_M_colour_4 ⟨Nat.le_of_ble_eq_true rfl, Nat.le_of_ble_eq_true rfl⟩)) (fun r9 e9 => ?_)
  subst e9
  refine lv_istore_n (lv' := [(2, .int (f_M_bit σ (8 : Int32) (2 : Int32))), (0, .ref (ad 0)), (1, .int x)]) hx hb d_M_colour_7 rfl hl (by decide) rfl (fun ls hl => ?_)
  refine lv_aload_n hx hb d_M_colour_8 rfl (lv_at hl 1 rfl) ?_
  refine va_get (D := D) (ci := 2) (v := .ref (ad 7)) (C := R_M) (T := F_M) (N := 17) hx hb hT in_M hown hK hP 0 rfl rfl 9 (by decide) (hT _ fl_M_29) (fun _ h9 => h9) rfl d_M_colour_9 ?_
  refine lv_iconst (v := (4 : Int32)) hx hb d_M_colour_12 (by decide) ?_
  refine va_zald hx hb hK hP 7 1 rfl rfl (by first | assumption | exact kin (by decide)) d_M_colour_13 ?_
  refine lv_if_ne (tgt := 26) hx hb d_M_colour_14 (by decide) (fun q1 => ?_) (fun q1 => ?_)
  · refine lv_iconst (v := (1 : Int32)) hx hb d_M_colour_26 (by decide) ?_
    refine lv_goto (tgt := 31) hx hb d_M_colour_27 (by decide) ?_
    refine lv_istore_n (lv' := [(3, .int (1 : Int32)), (2, .int (f_M_bit σ (8 : Int32) (2 : Int32))), (0, .ref (ad 0)), (1, .int x)]) hx hb d_M_colour_31 rfl hl (by decide) rfl (fun ls hl => ?_)
    refine lv_aload_n hx hb d_M_colour_32 rfl (lv_at hl 2 rfl) ?_
    refine lv_iconst (v := (4 : Int32)) hx hb d_M_colour_33 (by decide) ?_
    refine lv_iconst (v := (0 : Int32)) hx hb d_M_colour_34 (by decide) ?_
    refine vp_callSi (va_Run.run (va_runV (As := [.int (4 : Int32), .int (0 : Int32)]) (rest := []) ⟨hx, hb, hml, hown, hT⟩ (c_M_bit l D cA ad hap σ (4 : Int32) (0 : Int32) (by first | assumption | exact kin (by decide))) (kCV 2 hT ml_M_43 mi_M_bit ⟨Nat.le_of_ble_eq_true rfl, Nat.le_of_ble_eq_true rfl⟩) (mpreV hK hP) rfl rfl hl.1 rfl (lv_room (Nat.le_of_ble_eq_true rfl)) d_M_colour_35 ⟨Nat.le_of_ble_eq_true rfl, Nat.le_of_ble_eq_true rfl⟩)) (fun r9 e9 => ?_)
    subst e9
    refine lv_if_eq (tgt := 43) hx hb d_M_colour_38 (by decide) (fun q2 => ?_) (fun q2 => ?_)
    · refine lv_iload_n hx hb d_M_colour_43 rfl (lv_at hl 1 rfl) ?_
      refine lv_if_eq (tgt := 51) hx hb d_M_colour_44 (by decide) (fun q3 => ?_) (fun q3 => ?_)
      · refine lv_aload_n hx hb d_M_colour_51 rfl (lv_at hl 2 rfl) ?_
        refine va_get (D := D) (ci := 2) (v := .ref (ad 7)) (C := R_M) (T := F_M) (N := 17) hx hb hT in_M hown hK hP 0 rfl rfl 9 (by decide) (hT _ fl_M_29) (fun _ h9 => h9) rfl d_M_colour_52 ?_
        refine lv_iconst (v := (0 : Int32)) hx hb d_M_colour_55 (by decide) ?_
        refine va_zald hx hb hK hP 7 1 rfl rfl (by first | assumption | exact kin (by decide)) d_M_colour_56 ?_
        refine lv_if_ne (tgt := 69) hx hb d_M_colour_57 (by decide) (fun q4 => ?_) (fun q4 => ?_)
        · refine lv_aload_n hx hb d_M_colour_69 rfl (lv_at hl 2 rfl) ?_
          refine va_get (D := D) (ci := 2) (v := .ref (ad 1)) (C := R_M) (T := F_M) (N := 17) hx hb hT in_M hown hK hP 0 rfl rfl 1 (by decide) (hT _ fl_M_7) (fun _ h9 => h9) rfl d_M_colour_70 ?_
          refine lv_iconst (v := (2 : Int32)) hx hb d_M_colour_73 (by decide) ?_
          refine va_iald hx hb hK hP 1 0 rfl rfl (by first | assumption | exact kin (by decide)) d_M_colour_74 ?_
          have e9 : (σ 0 ((2 : Int32)).toNatClampNeg) = f_M_colour σ x := by rw [f_M_colour, if_neg q1, if_pos q2, if_pos q3, if_neg q4]
          exact W.iret (v := (σ 0 ((2 : Int32)).toNatClampNeg)) hx hb hr (fun t ht hW => ⟨_, rfl, e9, ht⟩) (fun _ h => absurd h List.not_mem_nil) d_M_colour_75
        · refine lv_aload_n hx hb d_M_colour_60 rfl (lv_at hl 2 rfl) ?_
          refine va_get (D := D) (ci := 2) (v := .ref (ad 7)) (C := R_M) (T := F_M) (N := 17) hx hb hT in_M hown hK hP 0 rfl rfl 9 (by decide) (hT _ fl_M_29) (fun _ h9 => h9) rfl d_M_colour_61 ?_
          refine lv_iconst (v := (2 : Int32)) hx hb d_M_colour_64 (by decide) ?_
          refine va_zald hx hb hK hP 7 1 rfl rfl (by first | assumption | exact kin (by decide)) d_M_colour_65 ?_
          refine lv_if_eq (tgt := 76) hx hb d_M_colour_66 (by decide) (fun q5 => ?_) (fun q5 => ?_)
          · refine lv_aload_n hx hb d_M_colour_76 rfl (lv_at hl 2 rfl) ?_
            refine va_get (D := D) (ci := 2) (v := .ref (ad 7)) (C := R_M) (T := F_M) (N := 17) hx hb hT in_M hown hK hP 0 rfl rfl 9 (by decide) (hT _ fl_M_29) (fun _ h9 => h9) rfl d_M_colour_77 ?_
            refine lv_iconst (v := (1 : Int32)) hx hb d_M_colour_80 (by decide) ?_
            refine va_zald hx hb hK hP 7 1 rfl rfl (by first | assumption | exact kin (by decide)) d_M_colour_81 ?_
            refine lv_if_ne (tgt := 94) hx hb d_M_colour_82 (by decide) (fun q6 => ?_) (fun q6 => ?_)
            · refine lv_aload_n hx hb d_M_colour_94 rfl (lv_at hl 2 rfl) ?_
              refine va_get (D := D) (ci := 2) (v := .ref (ad 1)) (C := R_M) (T := F_M) (N := 17) hx hb hT in_M hown hK hP 0 rfl rfl 1 (by decide) (hT _ fl_M_7) (fun _ h9 => h9) rfl d_M_colour_95 ?_
              refine lv_iconst (v := (3 : Int32)) hx hb d_M_colour_98 (by decide) ?_
              refine va_iald hx hb hK hP 1 0 rfl rfl (by first | assumption | exact kin (by decide)) d_M_colour_99 ?_
              have e9 : (σ 0 ((3 : Int32)).toNatClampNeg) = f_M_colour σ x := by rw [f_M_colour, if_neg q1, if_pos q2, if_pos q3, if_pos q4, if_pos q5, if_neg q6]
              exact W.iret (v := (σ 0 ((3 : Int32)).toNatClampNeg)) hx hb hr (fun t ht hW => ⟨_, rfl, e9, ht⟩) (fun _ h => absurd h List.not_mem_nil) d_M_colour_100
            · refine lv_aload_n hx hb d_M_colour_85 rfl (lv_at hl 2 rfl) ?_
              refine va_get (D := D) (ci := 2) (v := .ref (ad 7)) (C := R_M) (T := F_M) (N := 17) hx hb hT in_M hown hK hP 0 rfl rfl 9 (by decide) (hT _ fl_M_29) (fun _ h9 => h9) rfl d_M_colour_86 ?_
              refine lv_iconst (v := (3 : Int32)) hx hb d_M_colour_89 (by decide) ?_
              refine va_zald hx hb hK hP 7 1 rfl rfl (by first | assumption | exact kin (by decide)) d_M_colour_90 ?_
              refine lv_if_eq (tgt := 101) hx hb d_M_colour_91 (by decide) (fun q7 => ?_) (fun q7 => ?_)
              · refine lv_iload_n hx hb d_M_colour_101 rfl (lv_at hl 0 rfl) ?_
                refine lv_if_ne (tgt := 112) hx hb d_M_colour_102 (by decide) (fun _ => ?_) (fun h9 => absurd h9 (by decide))
                refine lv_aload_n hx hb d_M_colour_112 rfl (lv_at hl 2 rfl) ?_
                refine lv_bipush (v := (8 : Int32)) hx hb d_M_colour_113 (by decide) ?_
                refine lv_iconst (v := (1 : Int32)) hx hb d_M_colour_115 (by decide) ?_
                refine vp_callSi (va_Run.run (va_runV (As := [.int (8 : Int32), .int (1 : Int32)]) (rest := []) ⟨hx, hb, hml, hown, hT⟩ (c_M_bit l D cA ad hap σ (8 : Int32) (1 : Int32) (by first | assumption | exact kin (by decide))) (kCV 2 hT ml_M_43 mi_M_bit ⟨Nat.le_of_ble_eq_true rfl, Nat.le_of_ble_eq_true rfl⟩) (mpreV hK hP) rfl rfl hl.1 rfl (lv_room (Nat.le_of_ble_eq_true rfl)) d_M_colour_116 ⟨Nat.le_of_ble_eq_true rfl, Nat.le_of_ble_eq_true rfl⟩)) (fun r9 e9 => ?_)
                subst e9
                refine lv_if_eq (tgt := 150) hx hb d_M_colour_119 (by decide) (fun q8 => ?_) (fun q8 => ?_)
                · refine lv_aload_n hx hb d_M_colour_150 rfl (lv_at hl 2 rfl) ?_
                  refine va_get (D := D) (ci := 2) (v := .ref (ad 1)) (C := R_M) (T := F_M) (N := 17) hx hb hT in_M hown hK hP 0 rfl rfl 1 (by decide) (hT _ fl_M_7) (fun _ h9 => h9) rfl d_M_colour_151 ?_
                  refine lv_iconst (v := (1 : Int32)) hx hb d_M_colour_154 (by decide) ?_
                  refine va_iald hx hb hK hP 1 0 rfl rfl (by first | assumption | exact kin (by decide)) d_M_colour_155 ?_
                  have e9 : (σ 0 ((1 : Int32)).toNatClampNeg) = f_M_colour σ x := by rw [f_M_colour, if_neg q1, if_pos q2, if_pos q3, if_pos q4, if_pos q5, if_pos q6, if_pos q7, if_pos q8]
                  exact W.iret (v := (σ 0 ((1 : Int32)).toNatClampNeg)) hx hb hr (fun t ht hW => ⟨_, rfl, e9, ht⟩) (fun _ h => absurd h List.not_mem_nil) d_M_colour_156
                · refine lv_aload_n hx hb d_M_colour_122 rfl (lv_at hl 2 rfl) ?_
                  refine va_get (D := D) (ci := 2) (v := .ref (ad 7)) (C := R_M) (T := F_M) (N := 17) hx hb hT in_M hown hK hP 0 rfl rfl 9 (by decide) (hT _ fl_M_29) (fun _ h9 => h9) rfl d_M_colour_123 ?_
                  refine lv_iconst (v := (5 : Int32)) hx hb d_M_colour_126 (by decide) ?_
                  refine va_zald hx hb hK hP 7 1 rfl rfl (by first | assumption | exact kin (by decide)) d_M_colour_127 ?_
                  refine lv_if_eq (tgt := 150) hx hb d_M_colour_128 (by decide) (fun q9 => ?_) (fun q9 => ?_)
                  · refine lv_aload_n hx hb d_M_colour_150 rfl (lv_at hl 2 rfl) ?_
                    refine va_get (D := D) (ci := 2) (v := .ref (ad 1)) (C := R_M) (T := F_M) (N := 17) hx hb hT in_M hown hK hP 0 rfl rfl 1 (by decide) (hT _ fl_M_7) (fun _ h9 => h9) rfl d_M_colour_151 ?_
                    refine lv_iconst (v := (1 : Int32)) hx hb d_M_colour_154 (by decide) ?_
                    refine va_iald hx hb hK hP 1 0 rfl rfl (by first | assumption | exact kin (by decide)) d_M_colour_155 ?_
                    have e9 : (σ 0 ((1 : Int32)).toNatClampNeg) = f_M_colour σ x := by rw [f_M_colour, if_neg q1, if_pos q2, if_pos q3, if_pos q4, if_pos q5, if_pos q6, if_pos q7, if_neg q8, if_pos q9]
                    exact W.iret (v := (σ 0 ((1 : Int32)).toNatClampNeg)) hx hb hr (fun t ht hW => ⟨_, rfl, e9, ht⟩) (fun _ h => absurd h List.not_mem_nil) d_M_colour_156
                  · refine lv_aload_n hx hb d_M_colour_131 rfl (lv_at hl 2 rfl) ?_
                    refine va_get (D := D) (ci := 2) (v := .ref (ad 1)) (C := R_M) (T := F_M) (N := 17) hx hb hT in_M hown hK hP 0 rfl rfl 1 (by decide) (hT _ fl_M_7) (fun _ h9 => h9) rfl d_M_colour_132 ?_
                    refine lv_iload_n hx hb d_M_colour_135 rfl (lv_at hl 3 rfl) ?_
                    refine lv_bipush (v := (80 : Int32)) hx hb d_M_colour_136 (by decide) ?_
                    refine lv_icmp_ge (tgt := 145) hx hb d_M_colour_138 (by decide) (fun q10 => ?_) (fun q10 => ?_)
                    · refine lv_iconst (v := (3 : Int32)) hx hb d_M_colour_145 (by decide) ?_
                      refine va_iald hx hb hK hP 1 0 rfl rfl (by first | assumption | exact kin (by decide)) d_M_colour_146 ?_
                      refine lv_goto (tgt := 156) hx hb d_M_colour_147 (by decide) ?_
                      have e9 : (σ 0 ((3 : Int32)).toNatClampNeg) = f_M_colour σ x := by rw [f_M_colour, if_neg q1, if_pos q2, if_pos q3, if_pos q4, if_pos q5, if_pos q6, if_pos q7, if_neg q8, if_neg q9, if_pos q10]
                      exact W.iret (v := (σ 0 ((3 : Int32)).toNatClampNeg)) hx hb hr (fun t ht hW => ⟨_, rfl, e9, ht⟩) (fun _ h => absurd h List.not_mem_nil) d_M_colour_156
                    · refine lv_iconst (v := (2 : Int32)) hx hb d_M_colour_141 (by decide) ?_
                      refine lv_goto (tgt := 146) hx hb d_M_colour_142 (by decide) ?_
                      refine va_iald hx hb hK hP 1 0 rfl rfl (by first | assumption | exact kin (by decide)) d_M_colour_146 ?_
                      refine lv_goto (tgt := 156) hx hb d_M_colour_147 (by decide) ?_
                      have e9 : (σ 0 ((2 : Int32)).toNatClampNeg) = f_M_colour σ x := by rw [f_M_colour, if_neg q1, if_pos q2, if_pos q3, if_pos q4, if_pos q5, if_pos q6, if_pos q7, if_neg q8, if_neg q9, if_neg q10]
                      exact W.iret (v := (σ 0 ((2 : Int32)).toNatClampNeg)) hx hb hr (fun t ht hW => ⟨_, rfl, e9, ht⟩) (fun _ h => absurd h List.not_mem_nil) d_M_colour_156
              · refine lv_aload_n hx hb d_M_colour_94 rfl (lv_at hl 2 rfl) ?_
                refine va_get (D := D) (ci := 2) (v := .ref (ad 1)) (C := R_M) (T := F_M) (N := 17) hx hb hT in_M hown hK hP 0 rfl rfl 1 (by decide) (hT _ fl_M_7) (fun _ h9 => h9) rfl d_M_colour_95 ?_
                refine lv_iconst (v := (3 : Int32)) hx hb d_M_colour_98 (by decide) ?_
                refine va_iald hx hb hK hP 1 0 rfl rfl (by first | assumption | exact kin (by decide)) d_M_colour_99 ?_
                have e9 : (σ 0 ((3 : Int32)).toNatClampNeg) = f_M_colour σ x := by rw [f_M_colour, if_neg q1, if_pos q2, if_pos q3, if_pos q4, if_pos q5, if_pos q6, if_neg q7]
                exact W.iret (v := (σ 0 ((3 : Int32)).toNatClampNeg)) hx hb hr (fun t ht hW => ⟨_, rfl, e9, ht⟩) (fun _ h => absurd h List.not_mem_nil) d_M_colour_100
          · refine lv_aload_n hx hb d_M_colour_69 rfl (lv_at hl 2 rfl) ?_
            refine va_get (D := D) (ci := 2) (v := .ref (ad 1)) (C := R_M) (T := F_M) (N := 17) hx hb hT in_M hown hK hP 0 rfl rfl 1 (by decide) (hT _ fl_M_7) (fun _ h9 => h9) rfl d_M_colour_70 ?_
            refine lv_iconst (v := (2 : Int32)) hx hb d_M_colour_73 (by decide) ?_
            refine va_iald hx hb hK hP 1 0 rfl rfl (by first | assumption | exact kin (by decide)) d_M_colour_74 ?_
            have e9 : (σ 0 ((2 : Int32)).toNatClampNeg) = f_M_colour σ x := by rw [f_M_colour, if_neg q1, if_pos q2, if_pos q3, if_pos q4, if_neg q5]
            exact W.iret (v := (σ 0 ((2 : Int32)).toNatClampNeg)) hx hb hr (fun t ht hW => ⟨_, rfl, e9, ht⟩) (fun _ h => absurd h List.not_mem_nil) d_M_colour_75
      · refine lv_iload_n hx hb d_M_colour_47 rfl (lv_at hl 0 rfl) ?_
        refine lv_if_ne (tgt := 101) hx hb d_M_colour_48 (by decide) (fun _ => ?_) (fun h9 => absurd h9 (by decide))
        refine lv_iload_n hx hb d_M_colour_101 rfl (lv_at hl 0 rfl) ?_
        refine lv_if_ne (tgt := 112) hx hb d_M_colour_102 (by decide) (fun _ => ?_) (fun h9 => absurd h9 (by decide))
        refine lv_aload_n hx hb d_M_colour_112 rfl (lv_at hl 2 rfl) ?_
        refine lv_bipush (v := (8 : Int32)) hx hb d_M_colour_113 (by decide) ?_
        refine lv_iconst (v := (1 : Int32)) hx hb d_M_colour_115 (by decide) ?_
        refine vp_callSi (va_Run.run (va_runV (As := [.int (8 : Int32), .int (1 : Int32)]) (rest := []) ⟨hx, hb, hml, hown, hT⟩ (c_M_bit l D cA ad hap σ (8 : Int32) (1 : Int32) (by first | assumption | exact kin (by decide))) (kCV 2 hT ml_M_43 mi_M_bit ⟨Nat.le_of_ble_eq_true rfl, Nat.le_of_ble_eq_true rfl⟩) (mpreV hK hP) rfl rfl hl.1 rfl (lv_room (Nat.le_of_ble_eq_true rfl)) d_M_colour_116 ⟨Nat.le_of_ble_eq_true rfl, Nat.le_of_ble_eq_true rfl⟩)) (fun r9 e9 => ?_)
        subst e9
        refine lv_if_eq (tgt := 150) hx hb d_M_colour_119 (by decide) (fun q11 => ?_) (fun q11 => ?_)
        · refine lv_aload_n hx hb d_M_colour_150 rfl (lv_at hl 2 rfl) ?_
          refine va_get (D := D) (ci := 2) (v := .ref (ad 1)) (C := R_M) (T := F_M) (N := 17) hx hb hT in_M hown hK hP 0 rfl rfl 1 (by decide) (hT _ fl_M_7) (fun _ h9 => h9) rfl d_M_colour_151 ?_
          refine lv_iconst (v := (1 : Int32)) hx hb d_M_colour_154 (by decide) ?_
          refine va_iald hx hb hK hP 1 0 rfl rfl (by first | assumption | exact kin (by decide)) d_M_colour_155 ?_
          have e9 : (σ 0 ((1 : Int32)).toNatClampNeg) = f_M_colour σ x := by rw [f_M_colour, if_neg q1, if_pos q2, if_neg q3, if_pos q11]
          exact W.iret (v := (σ 0 ((1 : Int32)).toNatClampNeg)) hx hb hr (fun t ht hW => ⟨_, rfl, e9, ht⟩) (fun _ h => absurd h List.not_mem_nil) d_M_colour_156
        · refine lv_aload_n hx hb d_M_colour_122 rfl (lv_at hl 2 rfl) ?_
          refine va_get (D := D) (ci := 2) (v := .ref (ad 7)) (C := R_M) (T := F_M) (N := 17) hx hb hT in_M hown hK hP 0 rfl rfl 9 (by decide) (hT _ fl_M_29) (fun _ h9 => h9) rfl d_M_colour_123 ?_
          refine lv_iconst (v := (5 : Int32)) hx hb d_M_colour_126 (by decide) ?_
          refine va_zald hx hb hK hP 7 1 rfl rfl (by first | assumption | exact kin (by decide)) d_M_colour_127 ?_
          refine lv_if_eq (tgt := 150) hx hb d_M_colour_128 (by decide) (fun q12 => ?_) (fun q12 => ?_)
          · refine lv_aload_n hx hb d_M_colour_150 rfl (lv_at hl 2 rfl) ?_
            refine va_get (D := D) (ci := 2) (v := .ref (ad 1)) (C := R_M) (T := F_M) (N := 17) hx hb hT in_M hown hK hP 0 rfl rfl 1 (by decide) (hT _ fl_M_7) (fun _ h9 => h9) rfl d_M_colour_151 ?_
            refine lv_iconst (v := (1 : Int32)) hx hb d_M_colour_154 (by decide) ?_
            refine va_iald hx hb hK hP 1 0 rfl rfl (by first | assumption | exact kin (by decide)) d_M_colour_155 ?_
            have e9 : (σ 0 ((1 : Int32)).toNatClampNeg) = f_M_colour σ x := by rw [f_M_colour, if_neg q1, if_pos q2, if_neg q3, if_neg q11, if_pos q12]
            exact W.iret (v := (σ 0 ((1 : Int32)).toNatClampNeg)) hx hb hr (fun t ht hW => ⟨_, rfl, e9, ht⟩) (fun _ h => absurd h List.not_mem_nil) d_M_colour_156
          · refine lv_aload_n hx hb d_M_colour_131 rfl (lv_at hl 2 rfl) ?_
            refine va_get (D := D) (ci := 2) (v := .ref (ad 1)) (C := R_M) (T := F_M) (N := 17) hx hb hT in_M hown hK hP 0 rfl rfl 1 (by decide) (hT _ fl_M_7) (fun _ h9 => h9) rfl d_M_colour_132 ?_
            refine lv_iload_n hx hb d_M_colour_135 rfl (lv_at hl 3 rfl) ?_
            refine lv_bipush (v := (80 : Int32)) hx hb d_M_colour_136 (by decide) ?_
            refine lv_icmp_ge (tgt := 145) hx hb d_M_colour_138 (by decide) (fun q13 => ?_) (fun q13 => ?_)
            · refine lv_iconst (v := (3 : Int32)) hx hb d_M_colour_145 (by decide) ?_
              refine va_iald hx hb hK hP 1 0 rfl rfl (by first | assumption | exact kin (by decide)) d_M_colour_146 ?_
              refine lv_goto (tgt := 156) hx hb d_M_colour_147 (by decide) ?_
              have e9 : (σ 0 ((3 : Int32)).toNatClampNeg) = f_M_colour σ x := by rw [f_M_colour, if_neg q1, if_pos q2, if_neg q3, if_neg q11, if_neg q12, if_pos q13]
              exact W.iret (v := (σ 0 ((3 : Int32)).toNatClampNeg)) hx hb hr (fun t ht hW => ⟨_, rfl, e9, ht⟩) (fun _ h => absurd h List.not_mem_nil) d_M_colour_156
            · refine lv_iconst (v := (2 : Int32)) hx hb d_M_colour_141 (by decide) ?_
              refine lv_goto (tgt := 146) hx hb d_M_colour_142 (by decide) ?_
              refine va_iald hx hb hK hP 1 0 rfl rfl (by first | assumption | exact kin (by decide)) d_M_colour_146 ?_
              refine lv_goto (tgt := 156) hx hb d_M_colour_147 (by decide) ?_
              have e9 : (σ 0 ((2 : Int32)).toNatClampNeg) = f_M_colour σ x := by rw [f_M_colour, if_neg q1, if_pos q2, if_neg q3, if_neg q11, if_neg q12, if_neg q13]
              exact W.iret (v := (σ 0 ((2 : Int32)).toNatClampNeg)) hx hb hr (fun t ht hW => ⟨_, rfl, e9, ht⟩) (fun _ h => absurd h List.not_mem_nil) d_M_colour_156
    · refine lv_iconst (v := (0 : Int32)) hx hb d_M_colour_41 (by decide) ?_
      have e9 : (0 : Int32) = f_M_colour σ x := by rw [f_M_colour, if_neg q1, if_neg q2]
      exact W.iret (v := (0 : Int32)) hx hb hr (fun t ht hW => ⟨_, rfl, e9, ht⟩) (fun _ h => absurd h List.not_mem_nil) d_M_colour_42
  · refine lv_aload_n hx hb d_M_colour_17 rfl (lv_at hl 1 rfl) ?_
    refine va_get (D := D) (ci := 2) (v := .ref (ad 7)) (C := R_M) (T := F_M) (N := 17) hx hb hT in_M hown hK hP 0 rfl rfl 9 (by decide) (hT _ fl_M_29) (fun _ h9 => h9) rfl d_M_colour_18 ?_
    refine lv_iconst (v := (5 : Int32)) hx hb d_M_colour_21 (by decide) ?_
    refine va_zald hx hb hK hP 7 1 rfl rfl (by first | assumption | exact kin (by decide)) d_M_colour_22 ?_
    refine lv_if_eq (tgt := 30) hx hb d_M_colour_23 (by decide) (fun q14 => ?_) (fun q14 => ?_)
    · refine lv_iconst (v := (0 : Int32)) hx hb d_M_colour_30 (by decide) ?_
      refine lv_istore_n (lv' := [(3, .int (0 : Int32)), (2, .int (f_M_bit σ (8 : Int32) (2 : Int32))), (0, .ref (ad 0)), (1, .int x)]) hx hb d_M_colour_31 rfl hl (by decide) rfl (fun ls hl => ?_)
      refine lv_aload_n hx hb d_M_colour_32 rfl (lv_at hl 2 rfl) ?_
      refine lv_iconst (v := (4 : Int32)) hx hb d_M_colour_33 (by decide) ?_
      refine lv_iconst (v := (0 : Int32)) hx hb d_M_colour_34 (by decide) ?_
      refine vp_callSi (va_Run.run (va_runV (As := [.int (4 : Int32), .int (0 : Int32)]) (rest := []) ⟨hx, hb, hml, hown, hT⟩ (c_M_bit l D cA ad hap σ (4 : Int32) (0 : Int32) (by first | assumption | exact kin (by decide))) (kCV 2 hT ml_M_43 mi_M_bit ⟨Nat.le_of_ble_eq_true rfl, Nat.le_of_ble_eq_true rfl⟩) (mpreV hK hP) rfl rfl hl.1 rfl (lv_room (Nat.le_of_ble_eq_true rfl)) d_M_colour_35 ⟨Nat.le_of_ble_eq_true rfl, Nat.le_of_ble_eq_true rfl⟩)) (fun r9 e9 => ?_)
      subst e9
      refine lv_if_eq (tgt := 43) hx hb d_M_colour_38 (by decide) (fun q15 => ?_) (fun q15 => ?_)
      · refine lv_iload_n hx hb d_M_colour_43 rfl (lv_at hl 1 rfl) ?_
        refine lv_if_eq (tgt := 51) hx hb d_M_colour_44 (by decide) (fun q16 => ?_) (fun q16 => ?_)
        · refine lv_aload_n hx hb d_M_colour_51 rfl (lv_at hl 2 rfl) ?_
          refine va_get (D := D) (ci := 2) (v := .ref (ad 7)) (C := R_M) (T := F_M) (N := 17) hx hb hT in_M hown hK hP 0 rfl rfl 9 (by decide) (hT _ fl_M_29) (fun _ h9 => h9) rfl d_M_colour_52 ?_
          refine lv_iconst (v := (0 : Int32)) hx hb d_M_colour_55 (by decide) ?_
          refine va_zald hx hb hK hP 7 1 rfl rfl (by first | assumption | exact kin (by decide)) d_M_colour_56 ?_
          refine lv_if_ne (tgt := 69) hx hb d_M_colour_57 (by decide) (fun q17 => ?_) (fun q17 => ?_)
          · refine lv_aload_n hx hb d_M_colour_69 rfl (lv_at hl 2 rfl) ?_
            refine va_get (D := D) (ci := 2) (v := .ref (ad 1)) (C := R_M) (T := F_M) (N := 17) hx hb hT in_M hown hK hP 0 rfl rfl 1 (by decide) (hT _ fl_M_7) (fun _ h9 => h9) rfl d_M_colour_70 ?_
            refine lv_iconst (v := (2 : Int32)) hx hb d_M_colour_73 (by decide) ?_
            refine va_iald hx hb hK hP 1 0 rfl rfl (by first | assumption | exact kin (by decide)) d_M_colour_74 ?_
            have e9 : (σ 0 ((2 : Int32)).toNatClampNeg) = f_M_colour σ x := by rw [f_M_colour, if_pos q1, if_pos q14, if_pos q15, if_pos q16, if_neg q17]
            exact W.iret (v := (σ 0 ((2 : Int32)).toNatClampNeg)) hx hb hr (fun t ht hW => ⟨_, rfl, e9, ht⟩) (fun _ h => absurd h List.not_mem_nil) d_M_colour_75
          · refine lv_aload_n hx hb d_M_colour_60 rfl (lv_at hl 2 rfl) ?_
            refine va_get (D := D) (ci := 2) (v := .ref (ad 7)) (C := R_M) (T := F_M) (N := 17) hx hb hT in_M hown hK hP 0 rfl rfl 9 (by decide) (hT _ fl_M_29) (fun _ h9 => h9) rfl d_M_colour_61 ?_
            refine lv_iconst (v := (2 : Int32)) hx hb d_M_colour_64 (by decide) ?_
            refine va_zald hx hb hK hP 7 1 rfl rfl (by first | assumption | exact kin (by decide)) d_M_colour_65 ?_
            refine lv_if_eq (tgt := 76) hx hb d_M_colour_66 (by decide) (fun q18 => ?_) (fun q18 => ?_)
            · refine lv_aload_n hx hb d_M_colour_76 rfl (lv_at hl 2 rfl) ?_
              refine va_get (D := D) (ci := 2) (v := .ref (ad 7)) (C := R_M) (T := F_M) (N := 17) hx hb hT in_M hown hK hP 0 rfl rfl 9 (by decide) (hT _ fl_M_29) (fun _ h9 => h9) rfl d_M_colour_77 ?_
              refine lv_iconst (v := (1 : Int32)) hx hb d_M_colour_80 (by decide) ?_
              refine va_zald hx hb hK hP 7 1 rfl rfl (by first | assumption | exact kin (by decide)) d_M_colour_81 ?_
              refine lv_if_ne (tgt := 94) hx hb d_M_colour_82 (by decide) (fun q19 => ?_) (fun q19 => ?_)
              · refine lv_aload_n hx hb d_M_colour_94 rfl (lv_at hl 2 rfl) ?_
                refine va_get (D := D) (ci := 2) (v := .ref (ad 1)) (C := R_M) (T := F_M) (N := 17) hx hb hT in_M hown hK hP 0 rfl rfl 1 (by decide) (hT _ fl_M_7) (fun _ h9 => h9) rfl d_M_colour_95 ?_
                refine lv_iconst (v := (3 : Int32)) hx hb d_M_colour_98 (by decide) ?_
                refine va_iald hx hb hK hP 1 0 rfl rfl (by first | assumption | exact kin (by decide)) d_M_colour_99 ?_
                have e9 : (σ 0 ((3 : Int32)).toNatClampNeg) = f_M_colour σ x := by rw [f_M_colour, if_pos q1, if_pos q14, if_pos q15, if_pos q16, if_pos q17, if_pos q18, if_neg q19]
                exact W.iret (v := (σ 0 ((3 : Int32)).toNatClampNeg)) hx hb hr (fun t ht hW => ⟨_, rfl, e9, ht⟩) (fun _ h => absurd h List.not_mem_nil) d_M_colour_100
              · refine lv_aload_n hx hb d_M_colour_85 rfl (lv_at hl 2 rfl) ?_
                refine va_get (D := D) (ci := 2) (v := .ref (ad 7)) (C := R_M) (T := F_M) (N := 17) hx hb hT in_M hown hK hP 0 rfl rfl 9 (by decide) (hT _ fl_M_29) (fun _ h9 => h9) rfl d_M_colour_86 ?_
                refine lv_iconst (v := (3 : Int32)) hx hb d_M_colour_89 (by decide) ?_
                refine va_zald hx hb hK hP 7 1 rfl rfl (by first | assumption | exact kin (by decide)) d_M_colour_90 ?_
                refine lv_if_eq (tgt := 101) hx hb d_M_colour_91 (by decide) (fun q20 => ?_) (fun q20 => ?_)
                · refine lv_iload_n hx hb d_M_colour_101 rfl (lv_at hl 0 rfl) ?_
                  refine lv_if_ne (tgt := 112) hx hb d_M_colour_102 (by decide) (fun h9 => absurd (by decide) h9) (fun _ => ?_)
                  refine lv_aload_n hx hb d_M_colour_105 rfl (lv_at hl 2 rfl) ?_
                  refine va_get (D := D) (ci := 2) (v := .ref (ad 1)) (C := R_M) (T := F_M) (N := 17) hx hb hT in_M hown hK hP 0 rfl rfl 1 (by decide) (hT _ fl_M_7) (fun _ h9 => h9) rfl d_M_colour_106 ?_
                  refine lv_iconst (v := (0 : Int32)) hx hb d_M_colour_109 (by decide) ?_
                  refine va_iald hx hb hK hP 1 0 rfl rfl (by first | assumption | exact kin (by decide)) d_M_colour_110 ?_
                  have e9 : (σ 0 ((0 : Int32)).toNatClampNeg) = f_M_colour σ x := by rw [f_M_colour, if_pos q1, if_pos q14, if_pos q15, if_pos q16, if_pos q17, if_pos q18, if_pos q19, if_pos q20]
                  exact W.iret (v := (σ 0 ((0 : Int32)).toNatClampNeg)) hx hb hr (fun t ht hW => ⟨_, rfl, e9, ht⟩) (fun _ h => absurd h List.not_mem_nil) d_M_colour_111
                · refine lv_aload_n hx hb d_M_colour_94 rfl (lv_at hl 2 rfl) ?_
                  refine va_get (D := D) (ci := 2) (v := .ref (ad 1)) (C := R_M) (T := F_M) (N := 17) hx hb hT in_M hown hK hP 0 rfl rfl 1 (by decide) (hT _ fl_M_7) (fun _ h9 => h9) rfl d_M_colour_95 ?_
                  refine lv_iconst (v := (3 : Int32)) hx hb d_M_colour_98 (by decide) ?_
                  refine va_iald hx hb hK hP 1 0 rfl rfl (by first | assumption | exact kin (by decide)) d_M_colour_99 ?_
                  have e9 : (σ 0 ((3 : Int32)).toNatClampNeg) = f_M_colour σ x := by rw [f_M_colour, if_pos q1, if_pos q14, if_pos q15, if_pos q16, if_pos q17, if_pos q18, if_pos q19, if_neg q20]
                  exact W.iret (v := (σ 0 ((3 : Int32)).toNatClampNeg)) hx hb hr (fun t ht hW => ⟨_, rfl, e9, ht⟩) (fun _ h => absurd h List.not_mem_nil) d_M_colour_100
            · refine lv_aload_n hx hb d_M_colour_69 rfl (lv_at hl 2 rfl) ?_
              refine va_get (D := D) (ci := 2) (v := .ref (ad 1)) (C := R_M) (T := F_M) (N := 17) hx hb hT in_M hown hK hP 0 rfl rfl 1 (by decide) (hT _ fl_M_7) (fun _ h9 => h9) rfl d_M_colour_70 ?_
              refine lv_iconst (v := (2 : Int32)) hx hb d_M_colour_73 (by decide) ?_
              refine va_iald hx hb hK hP 1 0 rfl rfl (by first | assumption | exact kin (by decide)) d_M_colour_74 ?_
              have e9 : (σ 0 ((2 : Int32)).toNatClampNeg) = f_M_colour σ x := by rw [f_M_colour, if_pos q1, if_pos q14, if_pos q15, if_pos q16, if_pos q17, if_neg q18]
              exact W.iret (v := (σ 0 ((2 : Int32)).toNatClampNeg)) hx hb hr (fun t ht hW => ⟨_, rfl, e9, ht⟩) (fun _ h => absurd h List.not_mem_nil) d_M_colour_75
        · refine lv_iload_n hx hb d_M_colour_47 rfl (lv_at hl 0 rfl) ?_
          refine lv_if_ne (tgt := 101) hx hb d_M_colour_48 (by decide) (fun h9 => absurd (by decide) h9) (fun _ => ?_)
          refine lv_aload_n hx hb d_M_colour_51 rfl (lv_at hl 2 rfl) ?_
          refine va_get (D := D) (ci := 2) (v := .ref (ad 7)) (C := R_M) (T := F_M) (N := 17) hx hb hT in_M hown hK hP 0 rfl rfl 9 (by decide) (hT _ fl_M_29) (fun _ h9 => h9) rfl d_M_colour_52 ?_
          refine lv_iconst (v := (0 : Int32)) hx hb d_M_colour_55 (by decide) ?_
          refine va_zald hx hb hK hP 7 1 rfl rfl (by first | assumption | exact kin (by decide)) d_M_colour_56 ?_
          refine lv_if_ne (tgt := 69) hx hb d_M_colour_57 (by decide) (fun q21 => ?_) (fun q21 => ?_)
          · refine lv_aload_n hx hb d_M_colour_69 rfl (lv_at hl 2 rfl) ?_
            refine va_get (D := D) (ci := 2) (v := .ref (ad 1)) (C := R_M) (T := F_M) (N := 17) hx hb hT in_M hown hK hP 0 rfl rfl 1 (by decide) (hT _ fl_M_7) (fun _ h9 => h9) rfl d_M_colour_70 ?_
            refine lv_iconst (v := (2 : Int32)) hx hb d_M_colour_73 (by decide) ?_
            refine va_iald hx hb hK hP 1 0 rfl rfl (by first | assumption | exact kin (by decide)) d_M_colour_74 ?_
            have e9 : (σ 0 ((2 : Int32)).toNatClampNeg) = f_M_colour σ x := by rw [f_M_colour, if_pos q1, if_pos q14, if_pos q15, if_neg q16, if_neg q21]
            exact W.iret (v := (σ 0 ((2 : Int32)).toNatClampNeg)) hx hb hr (fun t ht hW => ⟨_, rfl, e9, ht⟩) (fun _ h => absurd h List.not_mem_nil) d_M_colour_75
          · refine lv_aload_n hx hb d_M_colour_60 rfl (lv_at hl 2 rfl) ?_
            refine va_get (D := D) (ci := 2) (v := .ref (ad 7)) (C := R_M) (T := F_M) (N := 17) hx hb hT in_M hown hK hP 0 rfl rfl 9 (by decide) (hT _ fl_M_29) (fun _ h9 => h9) rfl d_M_colour_61 ?_
            refine lv_iconst (v := (2 : Int32)) hx hb d_M_colour_64 (by decide) ?_
            refine va_zald hx hb hK hP 7 1 rfl rfl (by first | assumption | exact kin (by decide)) d_M_colour_65 ?_
            refine lv_if_eq (tgt := 76) hx hb d_M_colour_66 (by decide) (fun q22 => ?_) (fun q22 => ?_)
            · refine lv_aload_n hx hb d_M_colour_76 rfl (lv_at hl 2 rfl) ?_
              refine va_get (D := D) (ci := 2) (v := .ref (ad 7)) (C := R_M) (T := F_M) (N := 17) hx hb hT in_M hown hK hP 0 rfl rfl 9 (by decide) (hT _ fl_M_29) (fun _ h9 => h9) rfl d_M_colour_77 ?_
              refine lv_iconst (v := (1 : Int32)) hx hb d_M_colour_80 (by decide) ?_
              refine va_zald hx hb hK hP 7 1 rfl rfl (by first | assumption | exact kin (by decide)) d_M_colour_81 ?_
              refine lv_if_ne (tgt := 94) hx hb d_M_colour_82 (by decide) (fun q23 => ?_) (fun q23 => ?_)
              · refine lv_aload_n hx hb d_M_colour_94 rfl (lv_at hl 2 rfl) ?_
                refine va_get (D := D) (ci := 2) (v := .ref (ad 1)) (C := R_M) (T := F_M) (N := 17) hx hb hT in_M hown hK hP 0 rfl rfl 1 (by decide) (hT _ fl_M_7) (fun _ h9 => h9) rfl d_M_colour_95 ?_
                refine lv_iconst (v := (3 : Int32)) hx hb d_M_colour_98 (by decide) ?_
                refine va_iald hx hb hK hP 1 0 rfl rfl (by first | assumption | exact kin (by decide)) d_M_colour_99 ?_
                have e9 : (σ 0 ((3 : Int32)).toNatClampNeg) = f_M_colour σ x := by rw [f_M_colour, if_pos q1, if_pos q14, if_pos q15, if_neg q16, if_pos q21, if_pos q22, if_neg q23]
                exact W.iret (v := (σ 0 ((3 : Int32)).toNatClampNeg)) hx hb hr (fun t ht hW => ⟨_, rfl, e9, ht⟩) (fun _ h => absurd h List.not_mem_nil) d_M_colour_100
              · refine lv_aload_n hx hb d_M_colour_85 rfl (lv_at hl 2 rfl) ?_
                refine va_get (D := D) (ci := 2) (v := .ref (ad 7)) (C := R_M) (T := F_M) (N := 17) hx hb hT in_M hown hK hP 0 rfl rfl 9 (by decide) (hT _ fl_M_29) (fun _ h9 => h9) rfl d_M_colour_86 ?_
                refine lv_iconst (v := (3 : Int32)) hx hb d_M_colour_89 (by decide) ?_
                refine va_zald hx hb hK hP 7 1 rfl rfl (by first | assumption | exact kin (by decide)) d_M_colour_90 ?_
                refine lv_if_eq (tgt := 101) hx hb d_M_colour_91 (by decide) (fun q24 => ?_) (fun q24 => ?_)
                · refine lv_iload_n hx hb d_M_colour_101 rfl (lv_at hl 0 rfl) ?_
                  refine lv_if_ne (tgt := 112) hx hb d_M_colour_102 (by decide) (fun h9 => absurd (by decide) h9) (fun _ => ?_)
                  refine lv_aload_n hx hb d_M_colour_105 rfl (lv_at hl 2 rfl) ?_
                  refine va_get (D := D) (ci := 2) (v := .ref (ad 1)) (C := R_M) (T := F_M) (N := 17) hx hb hT in_M hown hK hP 0 rfl rfl 1 (by decide) (hT _ fl_M_7) (fun _ h9 => h9) rfl d_M_colour_106 ?_
                  refine lv_iconst (v := (0 : Int32)) hx hb d_M_colour_109 (by decide) ?_
                  refine va_iald hx hb hK hP 1 0 rfl rfl (by first | assumption | exact kin (by decide)) d_M_colour_110 ?_
                  have e9 : (σ 0 ((0 : Int32)).toNatClampNeg) = f_M_colour σ x := by rw [f_M_colour, if_pos q1, if_pos q14, if_pos q15, if_neg q16, if_pos q21, if_pos q22, if_pos q23, if_pos q24]
                  exact W.iret (v := (σ 0 ((0 : Int32)).toNatClampNeg)) hx hb hr (fun t ht hW => ⟨_, rfl, e9, ht⟩) (fun _ h => absurd h List.not_mem_nil) d_M_colour_111
                · refine lv_aload_n hx hb d_M_colour_94 rfl (lv_at hl 2 rfl) ?_
                  refine va_get (D := D) (ci := 2) (v := .ref (ad 1)) (C := R_M) (T := F_M) (N := 17) hx hb hT in_M hown hK hP 0 rfl rfl 1 (by decide) (hT _ fl_M_7) (fun _ h9 => h9) rfl d_M_colour_95 ?_
                  refine lv_iconst (v := (3 : Int32)) hx hb d_M_colour_98 (by decide) ?_
                  refine va_iald hx hb hK hP 1 0 rfl rfl (by first | assumption | exact kin (by decide)) d_M_colour_99 ?_
                  have e9 : (σ 0 ((3 : Int32)).toNatClampNeg) = f_M_colour σ x := by rw [f_M_colour, if_pos q1, if_pos q14, if_pos q15, if_neg q16, if_pos q21, if_pos q22, if_pos q23, if_neg q24]
                  exact W.iret (v := (σ 0 ((3 : Int32)).toNatClampNeg)) hx hb hr (fun t ht hW => ⟨_, rfl, e9, ht⟩) (fun _ h => absurd h List.not_mem_nil) d_M_colour_100
            · refine lv_aload_n hx hb d_M_colour_69 rfl (lv_at hl 2 rfl) ?_
              refine va_get (D := D) (ci := 2) (v := .ref (ad 1)) (C := R_M) (T := F_M) (N := 17) hx hb hT in_M hown hK hP 0 rfl rfl 1 (by decide) (hT _ fl_M_7) (fun _ h9 => h9) rfl d_M_colour_70 ?_
              refine lv_iconst (v := (2 : Int32)) hx hb d_M_colour_73 (by decide) ?_
              refine va_iald hx hb hK hP 1 0 rfl rfl (by first | assumption | exact kin (by decide)) d_M_colour_74 ?_
              have e9 : (σ 0 ((2 : Int32)).toNatClampNeg) = f_M_colour σ x := by rw [f_M_colour, if_pos q1, if_pos q14, if_pos q15, if_neg q16, if_pos q21, if_neg q22]
              exact W.iret (v := (σ 0 ((2 : Int32)).toNatClampNeg)) hx hb hr (fun t ht hW => ⟨_, rfl, e9, ht⟩) (fun _ h => absurd h List.not_mem_nil) d_M_colour_75
      · refine lv_iconst (v := (0 : Int32)) hx hb d_M_colour_41 (by decide) ?_
        have e9 : (0 : Int32) = f_M_colour σ x := by rw [f_M_colour, if_pos q1, if_pos q14, if_neg q15]
        exact W.iret (v := (0 : Int32)) hx hb hr (fun t ht hW => ⟨_, rfl, e9, ht⟩) (fun _ h => absurd h List.not_mem_nil) d_M_colour_42
    · refine lv_iconst (v := (1 : Int32)) hx hb d_M_colour_26 (by decide) ?_
      refine lv_goto (tgt := 31) hx hb d_M_colour_27 (by decide) ?_
      refine lv_istore_n (lv' := [(3, .int (1 : Int32)), (2, .int (f_M_bit σ (8 : Int32) (2 : Int32))), (0, .ref (ad 0)), (1, .int x)]) hx hb d_M_colour_31 rfl hl (by decide) rfl (fun ls hl => ?_)
      refine lv_aload_n hx hb d_M_colour_32 rfl (lv_at hl 2 rfl) ?_
      refine lv_iconst (v := (4 : Int32)) hx hb d_M_colour_33 (by decide) ?_
      refine lv_iconst (v := (0 : Int32)) hx hb d_M_colour_34 (by decide) ?_
      refine vp_callSi (va_Run.run (va_runV (As := [.int (4 : Int32), .int (0 : Int32)]) (rest := []) ⟨hx, hb, hml, hown, hT⟩ (c_M_bit l D cA ad hap σ (4 : Int32) (0 : Int32) (by first | assumption | exact kin (by decide))) (kCV 2 hT ml_M_43 mi_M_bit ⟨Nat.le_of_ble_eq_true rfl, Nat.le_of_ble_eq_true rfl⟩) (mpreV hK hP) rfl rfl hl.1 rfl (lv_room (Nat.le_of_ble_eq_true rfl)) d_M_colour_35 ⟨Nat.le_of_ble_eq_true rfl, Nat.le_of_ble_eq_true rfl⟩)) (fun r9 e9 => ?_)
      subst e9
      refine lv_if_eq (tgt := 43) hx hb d_M_colour_38 (by decide) (fun q25 => ?_) (fun q25 => ?_)
      · refine lv_iload_n hx hb d_M_colour_43 rfl (lv_at hl 1 rfl) ?_
        refine lv_if_eq (tgt := 51) hx hb d_M_colour_44 (by decide) (fun q26 => ?_) (fun q26 => ?_)
        · refine lv_aload_n hx hb d_M_colour_51 rfl (lv_at hl 2 rfl) ?_
          refine va_get (D := D) (ci := 2) (v := .ref (ad 7)) (C := R_M) (T := F_M) (N := 17) hx hb hT in_M hown hK hP 0 rfl rfl 9 (by decide) (hT _ fl_M_29) (fun _ h9 => h9) rfl d_M_colour_52 ?_
          refine lv_iconst (v := (0 : Int32)) hx hb d_M_colour_55 (by decide) ?_
          refine va_zald hx hb hK hP 7 1 rfl rfl (by first | assumption | exact kin (by decide)) d_M_colour_56 ?_
          refine lv_if_ne (tgt := 69) hx hb d_M_colour_57 (by decide) (fun q27 => ?_) (fun q27 => ?_)
          · refine lv_aload_n hx hb d_M_colour_69 rfl (lv_at hl 2 rfl) ?_
            refine va_get (D := D) (ci := 2) (v := .ref (ad 1)) (C := R_M) (T := F_M) (N := 17) hx hb hT in_M hown hK hP 0 rfl rfl 1 (by decide) (hT _ fl_M_7) (fun _ h9 => h9) rfl d_M_colour_70 ?_
            refine lv_iconst (v := (2 : Int32)) hx hb d_M_colour_73 (by decide) ?_
            refine va_iald hx hb hK hP 1 0 rfl rfl (by first | assumption | exact kin (by decide)) d_M_colour_74 ?_
            have e9 : (σ 0 ((2 : Int32)).toNatClampNeg) = f_M_colour σ x := by rw [f_M_colour, if_pos q1, if_neg q14, if_pos q25, if_pos q26, if_neg q27]
            exact W.iret (v := (σ 0 ((2 : Int32)).toNatClampNeg)) hx hb hr (fun t ht hW => ⟨_, rfl, e9, ht⟩) (fun _ h => absurd h List.not_mem_nil) d_M_colour_75
          · refine lv_aload_n hx hb d_M_colour_60 rfl (lv_at hl 2 rfl) ?_
            refine va_get (D := D) (ci := 2) (v := .ref (ad 7)) (C := R_M) (T := F_M) (N := 17) hx hb hT in_M hown hK hP 0 rfl rfl 9 (by decide) (hT _ fl_M_29) (fun _ h9 => h9) rfl d_M_colour_61 ?_
            refine lv_iconst (v := (2 : Int32)) hx hb d_M_colour_64 (by decide) ?_
            refine va_zald hx hb hK hP 7 1 rfl rfl (by first | assumption | exact kin (by decide)) d_M_colour_65 ?_
            refine lv_if_eq (tgt := 76) hx hb d_M_colour_66 (by decide) (fun q28 => ?_) (fun q28 => ?_)
            · refine lv_aload_n hx hb d_M_colour_76 rfl (lv_at hl 2 rfl) ?_
              refine va_get (D := D) (ci := 2) (v := .ref (ad 7)) (C := R_M) (T := F_M) (N := 17) hx hb hT in_M hown hK hP 0 rfl rfl 9 (by decide) (hT _ fl_M_29) (fun _ h9 => h9) rfl d_M_colour_77 ?_
              refine lv_iconst (v := (1 : Int32)) hx hb d_M_colour_80 (by decide) ?_
              refine va_zald hx hb hK hP 7 1 rfl rfl (by first | assumption | exact kin (by decide)) d_M_colour_81 ?_
              refine lv_if_ne (tgt := 94) hx hb d_M_colour_82 (by decide) (fun q29 => ?_) (fun q29 => ?_)
              · refine lv_aload_n hx hb d_M_colour_94 rfl (lv_at hl 2 rfl) ?_
                refine va_get (D := D) (ci := 2) (v := .ref (ad 1)) (C := R_M) (T := F_M) (N := 17) hx hb hT in_M hown hK hP 0 rfl rfl 1 (by decide) (hT _ fl_M_7) (fun _ h9 => h9) rfl d_M_colour_95 ?_
                refine lv_iconst (v := (3 : Int32)) hx hb d_M_colour_98 (by decide) ?_
                refine va_iald hx hb hK hP 1 0 rfl rfl (by first | assumption | exact kin (by decide)) d_M_colour_99 ?_
                have e9 : (σ 0 ((3 : Int32)).toNatClampNeg) = f_M_colour σ x := by rw [f_M_colour, if_pos q1, if_neg q14, if_pos q25, if_pos q26, if_pos q27, if_pos q28, if_neg q29]
                exact W.iret (v := (σ 0 ((3 : Int32)).toNatClampNeg)) hx hb hr (fun t ht hW => ⟨_, rfl, e9, ht⟩) (fun _ h => absurd h List.not_mem_nil) d_M_colour_100
              · refine lv_aload_n hx hb d_M_colour_85 rfl (lv_at hl 2 rfl) ?_
                refine va_get (D := D) (ci := 2) (v := .ref (ad 7)) (C := R_M) (T := F_M) (N := 17) hx hb hT in_M hown hK hP 0 rfl rfl 9 (by decide) (hT _ fl_M_29) (fun _ h9 => h9) rfl d_M_colour_86 ?_
                refine lv_iconst (v := (3 : Int32)) hx hb d_M_colour_89 (by decide) ?_
                refine va_zald hx hb hK hP 7 1 rfl rfl (by first | assumption | exact kin (by decide)) d_M_colour_90 ?_
                refine lv_if_eq (tgt := 101) hx hb d_M_colour_91 (by decide) (fun q30 => ?_) (fun q30 => ?_)
                · refine lv_iload_n hx hb d_M_colour_101 rfl (lv_at hl 0 rfl) ?_
                  refine lv_if_ne (tgt := 112) hx hb d_M_colour_102 (by decide) (fun _ => ?_) (fun h9 => absurd h9 (by decide))
                  refine lv_aload_n hx hb d_M_colour_112 rfl (lv_at hl 2 rfl) ?_
                  refine lv_bipush (v := (8 : Int32)) hx hb d_M_colour_113 (by decide) ?_
                  refine lv_iconst (v := (1 : Int32)) hx hb d_M_colour_115 (by decide) ?_
                  refine vp_callSi (va_Run.run (va_runV (As := [.int (8 : Int32), .int (1 : Int32)]) (rest := []) ⟨hx, hb, hml, hown, hT⟩ (c_M_bit l D cA ad hap σ (8 : Int32) (1 : Int32) (by first | assumption | exact kin (by decide))) (kCV 2 hT ml_M_43 mi_M_bit ⟨Nat.le_of_ble_eq_true rfl, Nat.le_of_ble_eq_true rfl⟩) (mpreV hK hP) rfl rfl hl.1 rfl (lv_room (Nat.le_of_ble_eq_true rfl)) d_M_colour_116 ⟨Nat.le_of_ble_eq_true rfl, Nat.le_of_ble_eq_true rfl⟩)) (fun r9 e9 => ?_)
                  subst e9
                  refine lv_if_eq (tgt := 150) hx hb d_M_colour_119 (by decide) (fun q31 => ?_) (fun q31 => ?_)
                  · refine lv_aload_n hx hb d_M_colour_150 rfl (lv_at hl 2 rfl) ?_
                    refine va_get (D := D) (ci := 2) (v := .ref (ad 1)) (C := R_M) (T := F_M) (N := 17) hx hb hT in_M hown hK hP 0 rfl rfl 1 (by decide) (hT _ fl_M_7) (fun _ h9 => h9) rfl d_M_colour_151 ?_
                    refine lv_iconst (v := (1 : Int32)) hx hb d_M_colour_154 (by decide) ?_
                    refine va_iald hx hb hK hP 1 0 rfl rfl (by first | assumption | exact kin (by decide)) d_M_colour_155 ?_
                    have e9 : (σ 0 ((1 : Int32)).toNatClampNeg) = f_M_colour σ x := by rw [f_M_colour, if_pos q1, if_neg q14, if_pos q25, if_pos q26, if_pos q27, if_pos q28, if_pos q29, if_pos q30, if_pos q31]
                    exact W.iret (v := (σ 0 ((1 : Int32)).toNatClampNeg)) hx hb hr (fun t ht hW => ⟨_, rfl, e9, ht⟩) (fun _ h => absurd h List.not_mem_nil) d_M_colour_156
                  · refine lv_aload_n hx hb d_M_colour_122 rfl (lv_at hl 2 rfl) ?_
                    refine va_get (D := D) (ci := 2) (v := .ref (ad 7)) (C := R_M) (T := F_M) (N := 17) hx hb hT in_M hown hK hP 0 rfl rfl 9 (by decide) (hT _ fl_M_29) (fun _ h9 => h9) rfl d_M_colour_123 ?_
                    refine lv_iconst (v := (5 : Int32)) hx hb d_M_colour_126 (by decide) ?_
                    refine va_zald hx hb hK hP 7 1 rfl rfl (by first | assumption | exact kin (by decide)) d_M_colour_127 ?_
                    refine lv_if_eq (tgt := 150) hx hb d_M_colour_128 (by decide) (fun h9 => absurd h9 q14) (fun _ => ?_)
                    refine lv_aload_n hx hb d_M_colour_131 rfl (lv_at hl 2 rfl) ?_
                    refine va_get (D := D) (ci := 2) (v := .ref (ad 1)) (C := R_M) (T := F_M) (N := 17) hx hb hT in_M hown hK hP 0 rfl rfl 1 (by decide) (hT _ fl_M_7) (fun _ h9 => h9) rfl d_M_colour_132 ?_
                    refine lv_iload_n hx hb d_M_colour_135 rfl (lv_at hl 3 rfl) ?_
                    refine lv_bipush (v := (80 : Int32)) hx hb d_M_colour_136 (by decide) ?_
                    refine lv_icmp_ge (tgt := 145) hx hb d_M_colour_138 (by decide) (fun q32 => ?_) (fun q32 => ?_)
                    · refine lv_iconst (v := (3 : Int32)) hx hb d_M_colour_145 (by decide) ?_
                      refine va_iald hx hb hK hP 1 0 rfl rfl (by first | assumption | exact kin (by decide)) d_M_colour_146 ?_
                      refine lv_goto (tgt := 156) hx hb d_M_colour_147 (by decide) ?_
                      have e9 : (σ 0 ((3 : Int32)).toNatClampNeg) = f_M_colour σ x := by rw [f_M_colour, if_pos q1, if_neg q14, if_pos q25, if_pos q26, if_pos q27, if_pos q28, if_pos q29, if_pos q30, if_neg q31, if_pos q32]
                      exact W.iret (v := (σ 0 ((3 : Int32)).toNatClampNeg)) hx hb hr (fun t ht hW => ⟨_, rfl, e9, ht⟩) (fun _ h => absurd h List.not_mem_nil) d_M_colour_156
                    · refine lv_iconst (v := (2 : Int32)) hx hb d_M_colour_141 (by decide) ?_
                      refine lv_goto (tgt := 146) hx hb d_M_colour_142 (by decide) ?_
                      refine va_iald hx hb hK hP 1 0 rfl rfl (by first | assumption | exact kin (by decide)) d_M_colour_146 ?_
                      refine lv_goto (tgt := 156) hx hb d_M_colour_147 (by decide) ?_
                      have e9 : (σ 0 ((2 : Int32)).toNatClampNeg) = f_M_colour σ x := by rw [f_M_colour, if_pos q1, if_neg q14, if_pos q25, if_pos q26, if_pos q27, if_pos q28, if_pos q29, if_pos q30, if_neg q31, if_neg q32]
                      exact W.iret (v := (σ 0 ((2 : Int32)).toNatClampNeg)) hx hb hr (fun t ht hW => ⟨_, rfl, e9, ht⟩) (fun _ h => absurd h List.not_mem_nil) d_M_colour_156
                · refine lv_aload_n hx hb d_M_colour_94 rfl (lv_at hl 2 rfl) ?_
                  refine va_get (D := D) (ci := 2) (v := .ref (ad 1)) (C := R_M) (T := F_M) (N := 17) hx hb hT in_M hown hK hP 0 rfl rfl 1 (by decide) (hT _ fl_M_7) (fun _ h9 => h9) rfl d_M_colour_95 ?_
                  refine lv_iconst (v := (3 : Int32)) hx hb d_M_colour_98 (by decide) ?_
                  refine va_iald hx hb hK hP 1 0 rfl rfl (by first | assumption | exact kin (by decide)) d_M_colour_99 ?_
                  have e9 : (σ 0 ((3 : Int32)).toNatClampNeg) = f_M_colour σ x := by rw [f_M_colour, if_pos q1, if_neg q14, if_pos q25, if_pos q26, if_pos q27, if_pos q28, if_pos q29, if_neg q30]
                  exact W.iret (v := (σ 0 ((3 : Int32)).toNatClampNeg)) hx hb hr (fun t ht hW => ⟨_, rfl, e9, ht⟩) (fun _ h => absurd h List.not_mem_nil) d_M_colour_100
            · refine lv_aload_n hx hb d_M_colour_69 rfl (lv_at hl 2 rfl) ?_
              refine va_get (D := D) (ci := 2) (v := .ref (ad 1)) (C := R_M) (T := F_M) (N := 17) hx hb hT in_M hown hK hP 0 rfl rfl 1 (by decide) (hT _ fl_M_7) (fun _ h9 => h9) rfl d_M_colour_70 ?_
              refine lv_iconst (v := (2 : Int32)) hx hb d_M_colour_73 (by decide) ?_
              refine va_iald hx hb hK hP 1 0 rfl rfl (by first | assumption | exact kin (by decide)) d_M_colour_74 ?_
              have e9 : (σ 0 ((2 : Int32)).toNatClampNeg) = f_M_colour σ x := by rw [f_M_colour, if_pos q1, if_neg q14, if_pos q25, if_pos q26, if_pos q27, if_neg q28]
              exact W.iret (v := (σ 0 ((2 : Int32)).toNatClampNeg)) hx hb hr (fun t ht hW => ⟨_, rfl, e9, ht⟩) (fun _ h => absurd h List.not_mem_nil) d_M_colour_75
        · refine lv_iload_n hx hb d_M_colour_47 rfl (lv_at hl 0 rfl) ?_
          refine lv_if_ne (tgt := 101) hx hb d_M_colour_48 (by decide) (fun _ => ?_) (fun h9 => absurd h9 (by decide))
          refine lv_iload_n hx hb d_M_colour_101 rfl (lv_at hl 0 rfl) ?_
          refine lv_if_ne (tgt := 112) hx hb d_M_colour_102 (by decide) (fun _ => ?_) (fun h9 => absurd h9 (by decide))
          refine lv_aload_n hx hb d_M_colour_112 rfl (lv_at hl 2 rfl) ?_
          refine lv_bipush (v := (8 : Int32)) hx hb d_M_colour_113 (by decide) ?_
          refine lv_iconst (v := (1 : Int32)) hx hb d_M_colour_115 (by decide) ?_
          refine vp_callSi (va_Run.run (va_runV (As := [.int (8 : Int32), .int (1 : Int32)]) (rest := []) ⟨hx, hb, hml, hown, hT⟩ (c_M_bit l D cA ad hap σ (8 : Int32) (1 : Int32) (by first | assumption | exact kin (by decide))) (kCV 2 hT ml_M_43 mi_M_bit ⟨Nat.le_of_ble_eq_true rfl, Nat.le_of_ble_eq_true rfl⟩) (mpreV hK hP) rfl rfl hl.1 rfl (lv_room (Nat.le_of_ble_eq_true rfl)) d_M_colour_116 ⟨Nat.le_of_ble_eq_true rfl, Nat.le_of_ble_eq_true rfl⟩)) (fun r9 e9 => ?_)
          subst e9
          refine lv_if_eq (tgt := 150) hx hb d_M_colour_119 (by decide) (fun q33 => ?_) (fun q33 => ?_)
          · refine lv_aload_n hx hb d_M_colour_150 rfl (lv_at hl 2 rfl) ?_
            refine va_get (D := D) (ci := 2) (v := .ref (ad 1)) (C := R_M) (T := F_M) (N := 17) hx hb hT in_M hown hK hP 0 rfl rfl 1 (by decide) (hT _ fl_M_7) (fun _ h9 => h9) rfl d_M_colour_151 ?_
            refine lv_iconst (v := (1 : Int32)) hx hb d_M_colour_154 (by decide) ?_
            refine va_iald hx hb hK hP 1 0 rfl rfl (by first | assumption | exact kin (by decide)) d_M_colour_155 ?_
            have e9 : (σ 0 ((1 : Int32)).toNatClampNeg) = f_M_colour σ x := by rw [f_M_colour, if_pos q1, if_neg q14, if_pos q25, if_neg q26, if_pos q33]
            exact W.iret (v := (σ 0 ((1 : Int32)).toNatClampNeg)) hx hb hr (fun t ht hW => ⟨_, rfl, e9, ht⟩) (fun _ h => absurd h List.not_mem_nil) d_M_colour_156
          · refine lv_aload_n hx hb d_M_colour_122 rfl (lv_at hl 2 rfl) ?_
            refine va_get (D := D) (ci := 2) (v := .ref (ad 7)) (C := R_M) (T := F_M) (N := 17) hx hb hT in_M hown hK hP 0 rfl rfl 9 (by decide) (hT _ fl_M_29) (fun _ h9 => h9) rfl d_M_colour_123 ?_
            refine lv_iconst (v := (5 : Int32)) hx hb d_M_colour_126 (by decide) ?_
            refine va_zald hx hb hK hP 7 1 rfl rfl (by first | assumption | exact kin (by decide)) d_M_colour_127 ?_
            refine lv_if_eq (tgt := 150) hx hb d_M_colour_128 (by decide) (fun h9 => absurd h9 q14) (fun _ => ?_)
            refine lv_aload_n hx hb d_M_colour_131 rfl (lv_at hl 2 rfl) ?_
            refine va_get (D := D) (ci := 2) (v := .ref (ad 1)) (C := R_M) (T := F_M) (N := 17) hx hb hT in_M hown hK hP 0 rfl rfl 1 (by decide) (hT _ fl_M_7) (fun _ h9 => h9) rfl d_M_colour_132 ?_
            refine lv_iload_n hx hb d_M_colour_135 rfl (lv_at hl 3 rfl) ?_
            refine lv_bipush (v := (80 : Int32)) hx hb d_M_colour_136 (by decide) ?_
            refine lv_icmp_ge (tgt := 145) hx hb d_M_colour_138 (by decide) (fun q34 => ?_) (fun q34 => ?_)
            · refine lv_iconst (v := (3 : Int32)) hx hb d_M_colour_145 (by decide) ?_
              refine va_iald hx hb hK hP 1 0 rfl rfl (by first | assumption | exact kin (by decide)) d_M_colour_146 ?_
              refine lv_goto (tgt := 156) hx hb d_M_colour_147 (by decide) ?_
              have e9 : (σ 0 ((3 : Int32)).toNatClampNeg) = f_M_colour σ x := by rw [f_M_colour, if_pos q1, if_neg q14, if_pos q25, if_neg q26, if_neg q33, if_pos q34]
              exact W.iret (v := (σ 0 ((3 : Int32)).toNatClampNeg)) hx hb hr (fun t ht hW => ⟨_, rfl, e9, ht⟩) (fun _ h => absurd h List.not_mem_nil) d_M_colour_156
            · refine lv_iconst (v := (2 : Int32)) hx hb d_M_colour_141 (by decide) ?_
              refine lv_goto (tgt := 146) hx hb d_M_colour_142 (by decide) ?_
              refine va_iald hx hb hK hP 1 0 rfl rfl (by first | assumption | exact kin (by decide)) d_M_colour_146 ?_
              refine lv_goto (tgt := 156) hx hb d_M_colour_147 (by decide) ?_
              have e9 : (σ 0 ((2 : Int32)).toNatClampNeg) = f_M_colour σ x := by rw [f_M_colour, if_pos q1, if_neg q14, if_pos q25, if_neg q26, if_neg q33, if_neg q34]
              exact W.iret (v := (σ 0 ((2 : Int32)).toNatClampNeg)) hx hb hr (fun t ht hW => ⟨_, rfl, e9, ht⟩) (fun _ h => absurd h List.not_mem_nil) d_M_colour_156
      · refine lv_iconst (v := (0 : Int32)) hx hb d_M_colour_41 (by decide) ?_
        have e9 : (0 : Int32) = f_M_colour σ x := by rw [f_M_colour, if_pos q1, if_neg q14, if_neg q25]
        exact W.iret (v := (0 : Int32)) hx hb hr (fun t ht hW => ⟨_, rfl, e9, ht⟩) (fun _ h => absurd h List.not_mem_nil) d_M_colour_42
