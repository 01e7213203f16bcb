def f_B_store (σ : Nat → Nat → Int32) (r : Int32) (v : Int32) : (Nat → Nat → Int32) := (if r = (9 : Int32) then (kup (kup σ 1 ((1 : Int32)).toNatClampNeg (σ 0 ((10 : Int32)).toNatClampNeg)) 0 (r).toNatClampNeg v) else (if r = (10 : Int32) then (kup (kup (kup σ 1 ((0 : Int32)).toNatClampNeg (σ 0 ((9 : Int32)).toNatClampNeg)) 5 0 ((kup σ 1 ((0 : Int32)).toNatClampNeg (σ 0 ((9 : Int32)).toNatClampNeg)) 0 ((13 : Int32)).toNatClampNeg)) 0 (r).toNatClampNeg v) else (if r = (21 : Int32) then (if (f_B_hasBit σ r (2 : Int32)) = 0 then (kup σ 0 (r).toNatClampNeg v) else (if (v &&& (2 : Int32)) = 0 then (kup (f_B_unlock σ (r - (21 : Int32))) 0 (r).toNatClampNeg v) else (kup σ 0 (r).toNatClampNeg v))) else (if r = (22 : Int32) then (if (f_B_hasBit σ r (2 : Int32)) = 0 then (kup σ 0 (r).toNatClampNeg v) else (if (v &&& (2 : Int32)) = 0 then (kup (f_B_unlock σ (r - (21 : Int32))) 0 (r).toNatClampNeg v) else (kup σ 0 (r).toNatClampNeg v))) else (kup σ 0 (r).toNatClampNeg v)))))

set_option maxRecDepth 100000 in
set_option maxHeartbeats 4000000 in
theorem c_B_store (l : Launch) (D : va_G) (cA ad t : Nat → Nat) (hap : kap 7 ad) (σ : Nat → Nat → Int32) (r : Int32) (v : Int32) (h1 : vp_in r 36) : Met l y_B_store w_B_store ({ frames := 2, cells := 0, slots := 0, locals := 43 } : Room) (va_Pc [.ref (ad 0), .int r, .int v] (bPre D cA ad t σ)) (kQv D (bw cA ad (f_B_store σ r v)) (kA 7 ad)) 0 0 (kA 7 ad) := by
  refine Met.ofW (cc := b_B_store) (maxL := 3) (ret := none) (by decide) rfl ?_
  intro p e s m args below meth c s₁ B hml hv
  obtain ⟨rfl, hv⟩ := hv
  obtain ⟨hP, hK, hZ⟩ := hv
  have hx := B.exec
  have hb := B.bytes
  have hr := B.returns
  have hlocks := B.notSynchronized
  have hT : ∀ w ∈ TB, w.before ([.ref (ad 0), .int r, .int v] : List Value).toArray s = true := fun w h => atoms_spec (ws := w_B_store) B.pre w (List.mem_cons_of_mem _ h)
  have hown : s.vm.findClass R_B = some m.cls := findClass_of_methodNamed B.named
  have hS : va_S (kA 7 ad) s.heap s.heap [] := va_S.rf
  have hD : ∀ σ, va_D (kA 7 ad) (bw cA ad σ) := fun σ => kD hap rfl
  have hl := lv_entry ([.ref (ad 0), .int r, .int v]) (n := 3) (Nat.le_of_ble_eq_true rfl)
  rw [lg_entry_eq]
  generalize (lg_sl ([.ref (ad 0), .int r, .int v]) ++ List.replicate (3 - (lg_sl ([.ref (ad 0), .int r, .int v])).length) Slot.unset).toArray = ls at hl ⊢
  have hl : lv_has ls 3 [(0, .ref (ad 0)), (1, .int r), (2, .int v)] := hl
  refine lv_iload_n hx hb d_B_store_0 rfl (lv_at hl 1 rfl) ?_
  by_cases q1 : r = (9 : Int32)
  · refine lv_lookup (tgt := 44) (off := 43) hx hb d_B_store_1 (by decide) (by rw [q1]; decide) (by decide) ?_
    refine lv_aload_n hx hb d_B_store_44 rfl (lv_at hl 0 rfl) ?_
    refine va_get (D := D) (ci := 0) (v := .ref (ad 2)) (C := R_B) (T := F_B) (N := 10) hx hb hT in_B hown hK hP 0 rfl rfl 1 (by decide) (hT _ fl_B_13) (fun _ h9 => h9) rfl d_B_store_45 ?_
    refine lv_iconst (v := (1 : Int32)) hx hb d_B_store_48 (by decide) ?_
    refine lv_aload_n hx hb d_B_store_49 rfl (lv_at hl 0 rfl) ?_
    refine va_get (D := D) (ci := 0) (v := .ref (ad 1)) (C := R_B) (T := F_B) (N := 10) hx hb hT in_B hown hK hP 0 rfl rfl 0 (by decide) (hT _ fl_B_9) (fun _ h9 => h9) rfl d_B_store_50 ?_
    refine lv_bipush (v := (10 : Int32)) hx hb d_B_store_53 (by decide) ?_
    refine va_iald hx hb hK hP 1 0 rfl rfl (by first | assumption | exact kin (by decide) | exact kwr21 (by with_reducible assumption) | exact kwr22 (by with_reducible assumption)) d_B_store_55 ?_
    refine va_iast (A := (kA 7 ad)) hx hb hK hP (hD _) hS 2 0 rfl rfl (by first | assumption | exact kin (by decide) | exact kwr21 (by with_reducible assumption) | exact kwr22 (by with_reducible assumption)) d_B_store_56 (fun H locs hP _ hS => ?_)
    have hP := kst (bw_s2 cA ad σ ((1 : Int32)).toNatClampNeg (σ 0 ((10 : Int32)).toNatClampNeg)) hP
    refine lv_goto (tgt := 113) hx hb d_B_store_57 (by decide) ?_
    refine lv_aload_n hx hb d_B_store_113 rfl (lv_at hl 0 rfl) ?_
    refine va_get (D := D) (ci := 0) (v := .ref (ad 1)) (C := R_B) (T := F_B) (N := 10) hx hb hT in_B hown hK hP 0 rfl rfl 0 (by decide) (hT _ fl_B_9) (fun _ h9 => h9) rfl d_B_store_114 ?_
    refine lv_iload_n hx hb d_B_store_117 rfl (lv_at hl 1 rfl) ?_
    refine lv_iload_n hx hb d_B_store_118 rfl (lv_at hl 2 rfl) ?_
    refine va_iast (A := (kA 7 ad)) hx hb hK hP (hD _) hS 1 0 rfl rfl (by first | assumption | exact kin (by decide) | exact kwr21 (by with_reducible assumption) | exact kwr22 (by with_reducible assumption)) d_B_store_119 (fun H locs hP _ hS => ?_)
    have hP := kst (bw_s1 cA ad (kup σ 1 ((1 : Int32)).toNatClampNeg (σ 0 ((10 : Int32)).toNatClampNeg)) (r).toNatClampNeg v) hP
    have e9 : (kup (kup σ 1 ((1 : Int32)).toNatClampNeg (σ 0 ((10 : Int32)).toNatClampNeg)) 0 (r).toNatClampNeg v) = f_B_store σ r v := by rw [f_B_store, if_pos q1]
    exact W.vret hx hb hr (fun t ht hW => ⟨rfl, by rw [ht, ← e9]; exact hP, hS.F ht⟩) hS.2.2 d_B_store_120
  by_cases q2 : r = (10 : Int32)
  · refine lv_lookup (tgt := 60) (off := 59) hx hb d_B_store_1 (by decide) (by rw [q2]; decide) (by decide) ?_
    refine lv_aload_n hx hb d_B_store_60 rfl (lv_at hl 0 rfl) ?_
    refine va_get (D := D) (ci := 0) (v := .ref (ad 2)) (C := R_B) (T := F_B) (N := 10) hx hb hT in_B hown hK hP 0 rfl rfl 1 (by decide) (hT _ fl_B_13) (fun _ h9 => h9) rfl d_B_store_61 ?_
    refine lv_iconst (v := (0 : Int32)) hx hb d_B_store_64 (by decide) ?_
    refine lv_aload_n hx hb d_B_store_65 rfl (lv_at hl 0 rfl) ?_
    refine va_get (D := D) (ci := 0) (v := .ref (ad 1)) (C := R_B) (T := F_B) (N := 10) hx hb hT in_B hown hK hP 0 rfl rfl 0 (by decide) (hT _ fl_B_9) (fun _ h9 => h9) rfl d_B_store_66 ?_
    refine lv_bipush (v := (9 : Int32)) hx hb d_B_store_69 (by decide) ?_
    refine va_iald hx hb hK hP 1 0 rfl rfl (by first | assumption | exact kin (by decide) | exact kwr21 (by with_reducible assumption) | exact kwr22 (by with_reducible assumption)) d_B_store_71 ?_
    refine va_iast (A := (kA 7 ad)) hx hb hK hP (hD _) hS 2 0 rfl rfl (by first | assumption | exact kin (by decide) | exact kwr21 (by with_reducible assumption) | exact kwr22 (by with_reducible assumption)) d_B_store_72 (fun H locs hP _ hS => ?_)
    have hP := kst (bw_s2 cA ad σ ((0 : Int32)).toNatClampNeg (σ 0 ((9 : Int32)).toNatClampNeg)) hP
    refine lv_aload_n hx hb d_B_store_73 rfl (lv_at hl 0 rfl) ?_
    refine lv_aload_n hx hb d_B_store_74 rfl (lv_at hl 0 rfl) ?_
    refine va_get (D := D) (ci := 0) (v := .ref (ad 1)) (C := R_B) (T := F_B) (N := 10) hx hb hT in_B hown hK hP 0 rfl rfl 0 (by decide) (hT _ fl_B_9) (fun _ h9 => h9) rfl d_B_store_75 ?_
    refine lv_bipush (v := (13 : Int32)) hx hb d_B_store_78 (by decide) ?_
    refine va_iald hx hb hK hP 1 0 rfl rfl (by first | assumption | exact kin (by decide) | exact kwr21 (by with_reducible assumption) | exact kwr22 (by with_reducible assumption)) d_B_store_80 ?_
    refine va_put (A := (kA 7 ad)) (D := D) (ci := 0) (v := .int ((kup σ 1 ((0 : Int32)).toNatClampNeg (σ 0 ((9 : Int32)).toNatClampNeg)) 0 ((13 : Int32)).toNatClampNeg)) (ty := .int) (C := R_B) (T := F_B) (N := 10) hx hb hT in_B ft_B ft_B_ok n_B hown hK hP (hD _) hS 0 rfl rfl 6 (by decide) (hT _ fl_B_87) (fun _ h9 => h9) rfl (by decide +kernel) rfl rfl (Nat.le_of_ble_eq_true rfl) d_B_store_81 (fun H locs hP _ hS => ?_)
    have hP := kst (bw_p0_6 cA ad (kup σ 1 ((0 : Int32)).toNatClampNeg (σ 0 ((9 : Int32)).toNatClampNeg)) ((kup σ 1 ((0 : Int32)).toNatClampNeg (σ 0 ((9 : Int32)).toNatClampNeg)) 0 ((13 : Int32)).toNatClampNeg)) hP
    refine lv_goto (tgt := 113) hx hb d_B_store_84 (by decide) ?_
    refine lv_aload_n hx hb d_B_store_113 rfl (lv_at hl 0 rfl) ?_
    refine va_get (D := D) (ci := 0) (v := .ref (ad 1)) (C := R_B) (T := F_B) (N := 10) hx hb hT in_B hown hK hP 0 rfl rfl 0 (by decide) (hT _ fl_B_9) (fun _ h9 => h9) rfl d_B_store_114 ?_
    refine lv_iload_n hx hb d_B_store_117 rfl (lv_at hl 1 rfl) ?_
    refine lv_iload_n hx hb d_B_store_118 rfl (lv_at hl 2 rfl) ?_
    refine va_iast (A := (kA 7 ad)) hx hb hK hP (hD _) hS 1 0 rfl rfl (by first | assumption | exact kin (by decide) | exact kwr21 (by with_reducible assumption) | exact kwr22 (by with_reducible assumption)) d_B_store_119 (fun H locs hP _ hS => ?_)
    have hP := kst (bw_s1 cA ad (kup (kup σ 1 ((0 : Int32)).toNatClampNeg (σ 0 ((9 : Int32)).toNatClampNeg)) 5 0 ((kup σ 1 ((0 : Int32)).toNatClampNeg (σ 0 ((9 : Int32)).toNatClampNeg)) 0 ((13 : Int32)).toNatClampNeg)) (r).toNatClampNeg v) hP
    have e9 : (kup (kup (kup σ 1 ((0 : Int32)).toNatClampNeg (σ 0 ((9 : Int32)).toNatClampNeg)) 5 0 ((kup σ 1 ((0 : Int32)).toNatClampNeg (σ 0 ((9 : Int32)).toNatClampNeg)) 0 ((13 : Int32)).toNatClampNeg)) 0 (r).toNatClampNeg v) = f_B_store σ r v := by rw [f_B_store, if_neg q1, if_pos q2]
    exact W.vret hx hb hr (fun t ht hW => ⟨rfl, by rw [ht, ← e9]; exact hP, hS.F ht⟩) hS.2.2 d_B_store_120
  by_cases q3 : r = (21 : Int32)
  · refine lv_lookup (tgt := 87) (off := 86) hx hb d_B_store_1 (by decide) (by rw [q3]; decide) (by decide) ?_
    refine lv_aload_n hx hb d_B_store_87 rfl (lv_at hl 0 rfl) ?_
    refine lv_iload_n hx hb d_B_store_88 rfl (lv_at hl 1 rfl) ?_
    refine lv_iconst (v := (2 : Int32)) hx hb d_B_store_89 (by decide) ?_
    refine vp_callSi (va_Run.run (va_runV (As := [.int r, .int (2 : Int32)]) (rest := []) ⟨hx, hb, hml, hown, hT⟩ (c_B_hasBit l D cA ad t hap σ r (2 : Int32) (by first | assumption | exact kin (by decide) | exact kwr21 (by with_reducible assumption) | exact kwr22 (by with_reducible assumption))) (kCV 2 hT ml_B_90 mi_B_hasBit ⟨Nat.le_of_ble_eq_true rfl, Nat.le_of_ble_eq_true rfl⟩) (bpreV hK hP hZ hS) rfl rfl hl.1 rfl (lv_room (Nat.le_of_ble_eq_true rfl)) d_B_store_90 ⟨Nat.le_of_ble_eq_true rfl, Nat.le_of_ble_eq_true rfl⟩)) (fun r9 e9 => ?_)
    subst e9
    refine lv_if_eq (tgt := 113) hx hb d_B_store_93 (by decide) (fun q4 => ?_) (fun q4 => ?_)
    · refine lv_aload_n hx hb d_B_store_113 rfl (lv_at hl 0 rfl) ?_
      refine va_get (D := D) (ci := 0) (v := .ref (ad 1)) (C := R_B) (T := F_B) (N := 10) hx hb hT in_B hown hK hP 0 rfl rfl 0 (by decide) (hT _ fl_B_9) (fun _ h9 => h9) rfl d_B_store_114 ?_
      refine lv_iload_n hx hb d_B_store_117 rfl (lv_at hl 1 rfl) ?_
      refine lv_iload_n hx hb d_B_store_118 rfl (lv_at hl 2 rfl) ?_
      refine va_iast (A := (kA 7 ad)) hx hb hK hP (hD _) hS 1 0 rfl rfl (by first | assumption | exact kin (by decide) | exact kwr21 (by with_reducible assumption) | exact kwr22 (by with_reducible assumption)) d_B_store_119 (fun H locs hP _ hS => ?_)
      have hP := kst (bw_s1 cA ad σ (r).toNatClampNeg v) hP
      have e9 : (kup σ 0 (r).toNatClampNeg v) = f_B_store σ r v := by rw [f_B_store, if_neg q1, if_neg q2, if_pos q3, if_pos q4]
      exact W.vret hx hb hr (fun t ht hW => ⟨rfl, by rw [ht, ← e9]; exact hP, hS.F ht⟩) hS.2.2 d_B_store_120
    · refine lv_iload_n hx hb d_B_store_96 rfl (lv_at hl 2 rfl) ?_
      refine lv_iconst (v := (2 : Int32)) hx hb d_B_store_97 (by decide) ?_
      refine lv_iand hx hb d_B_store_98 ?_
      refine lv_if_ne (tgt := 113) hx hb d_B_store_99 (by decide) (fun q5 => ?_) (fun q5 => ?_)
      · refine lv_aload_n hx hb d_B_store_113 rfl (lv_at hl 0 rfl) ?_
        refine va_get (D := D) (ci := 0) (v := .ref (ad 1)) (C := R_B) (T := F_B) (N := 10) hx hb hT in_B hown hK hP 0 rfl rfl 0 (by decide) (hT _ fl_B_9) (fun _ h9 => h9) rfl d_B_store_114 ?_
        refine lv_iload_n hx hb d_B_store_117 rfl (lv_at hl 1 rfl) ?_
        refine lv_iload_n hx hb d_B_store_118 rfl (lv_at hl 2 rfl) ?_
        refine va_iast (A := (kA 7 ad)) hx hb hK hP (hD _) hS 1 0 rfl rfl (by first | assumption | exact kin (by decide) | exact kwr21 (by with_reducible assumption) | exact kwr22 (by with_reducible assumption)) d_B_store_119 (fun H locs hP _ hS => ?_)
        have hP := kst (bw_s1 cA ad σ (r).toNatClampNeg v) hP
        have e9 : (kup σ 0 (r).toNatClampNeg v) = f_B_store σ r v := by rw [f_B_store, if_neg q1, if_neg q2, if_pos q3, if_neg q4, if_neg q5]
        exact W.vret hx hb hr (fun t ht hW => ⟨rfl, by rw [ht, ← e9]; exact hP, hS.F ht⟩) hS.2.2 d_B_store_120
      · refine lv_aload_n hx hb d_B_store_102 rfl (lv_at hl 0 rfl) ?_
        refine lv_iload_n hx hb d_B_store_103 rfl (lv_at hl 1 rfl) ?_
        refine lv_bipush (v := (21 : Int32)) hx hb d_B_store_104 (by decide) ?_
        refine lv_isub hx hb d_B_store_106 ?_
        refine kcv (va_runV (As := [.int (r - (21 : Int32))]) (rest := []) ⟨hx, hb, hml, hown, hT⟩ (c_B_unlock l D cA ad t hap σ (r - (21 : Int32)) (by first | assumption | exact kin (by decide) | exact kwr21 (by with_reducible assumption) | exact kwr22 (by with_reducible assumption))) (kCV 1 hT ml_B_93 mi_B_unlock ⟨Nat.le_of_ble_eq_true rfl, Nat.le_of_ble_eq_true rfl⟩) (bpreV hK hP hZ hS) rfl rfl hl.1 rfl (lv_room (Nat.le_of_ble_eq_true rfl)) d_B_store_107 ⟨Nat.le_of_ble_eq_true rfl, Nat.le_of_ble_eq_true rfl⟩) hS (fun H locs hP hS => ?_)
        refine lv_goto (tgt := 113) hx hb d_B_store_110 (by decide) ?_
        refine lv_aload_n hx hb d_B_store_113 rfl (lv_at hl 0 rfl) ?_
        refine va_get (D := D) (ci := 0) (v := .ref (ad 1)) (C := R_B) (T := F_B) (N := 10) hx hb hT in_B hown hK hP 0 rfl rfl 0 (by decide) (hT _ fl_B_9) (fun _ h9 => h9) rfl d_B_store_114 ?_
        refine lv_iload_n hx hb d_B_store_117 rfl (lv_at hl 1 rfl) ?_
        refine lv_iload_n hx hb d_B_store_118 rfl (lv_at hl 2 rfl) ?_
        refine va_iast (A := (kA 7 ad)) hx hb hK hP (hD _) hS 1 0 rfl rfl (by first | assumption | exact kin (by decide) | exact kwr21 (by with_reducible assumption) | exact kwr22 (by with_reducible assumption)) d_B_store_119 (fun H locs hP _ hS => ?_)
        have hP := kst (bw_s1 cA ad (f_B_unlock σ (r - (21 : Int32))) (r).toNatClampNeg v) hP
        have e9 : (kup (f_B_unlock σ (r - (21 : Int32))) 0 (r).toNatClampNeg v) = f_B_store σ r v := by rw [f_B_store, if_neg q1, if_neg q2, if_pos q3, if_neg q4, if_pos q5]
        exact W.vret hx hb hr (fun t ht hW => ⟨rfl, by rw [ht, ← e9]; exact hP, hS.F ht⟩) hS.2.2 d_B_store_120
  by_cases q6 : r = (22 : Int32)
  · refine lv_lookup (tgt := 87) (off := 86) hx hb d_B_store_1 (by decide) (by rw [q6]; decide) (by decide) ?_
    refine lv_aload_n hx hb d_B_store_87 rfl (lv_at hl 0 rfl) ?_
    refine lv_iload_n hx hb d_B_store_88 rfl (lv_at hl 1 rfl) ?_
    refine lv_iconst (v := (2 : Int32)) hx hb d_B_store_89 (by decide) ?_
    refine vp_callSi (va_Run.run (va_runV (As := [.int r, .int (2 : Int32)]) (rest := []) ⟨hx, hb, hml, hown, hT⟩ (c_B_hasBit l D cA ad t hap σ r (2 : Int32) (by first | assumption | exact kin (by decide) | exact kwr21 (by with_reducible assumption) | exact kwr22 (by with_reducible assumption))) (kCV 2 hT ml_B_90 mi_B_hasBit ⟨Nat.le_of_ble_eq_true rfl, Nat.le_of_ble_eq_true rfl⟩) (bpreV hK hP hZ hS) rfl rfl hl.1 rfl (lv_room (Nat.le_of_ble_eq_true rfl)) d_B_store_90 ⟨Nat.le_of_ble_eq_true rfl, Nat.le_of_ble_eq_true rfl⟩)) (fun r9 e9 => ?_)
    subst e9
    refine lv_if_eq (tgt := 113) hx hb d_B_store_93 (by decide) (fun q7 => ?_) (fun q7 => ?_)
    · refine lv_aload_n hx hb d_B_store_113 rfl (lv_at hl 0 rfl) ?_
      refine va_get (D := D) (ci := 0) (v := .ref (ad 1)) (C := R_B) (T := F_B) (N := 10) hx hb hT in_B hown hK hP 0 rfl rfl 0 (by decide) (hT _ fl_B_9) (fun _ h9 => h9) rfl d_B_store_114 ?_
      refine lv_iload_n hx hb d_B_store_117 rfl (lv_at hl 1 rfl) ?_
      refine lv_iload_n hx hb d_B_store_118 rfl (lv_at hl 2 rfl) ?_
      refine va_iast (A := (kA 7 ad)) hx hb hK hP (hD _) hS 1 0 rfl rfl (by first | assumption | exact kin (by decide) | exact kwr21 (by with_reducible assumption) | exact kwr22 (by with_reducible assumption)) d_B_store_119 (fun H locs hP _ hS => ?_)
      have hP := kst (bw_s1 cA ad σ (r).toNatClampNeg v) hP
      have e9 : (kup σ 0 (r).toNatClampNeg v) = f_B_store σ r v := by rw [f_B_store, if_neg q1, if_neg q2, if_neg q3, if_pos q6, if_pos q7]
      exact W.vret hx hb hr (fun t ht hW => ⟨rfl, by rw [ht, ← e9]; exact hP, hS.F ht⟩) hS.2.2 d_B_store_120
    · refine lv_iload_n hx hb d_B_store_96 rfl (lv_at hl 2 rfl) ?_
      refine lv_iconst (v := (2 : Int32)) hx hb d_B_store_97 (by decide) ?_
      refine lv_iand hx hb d_B_store_98 ?_
      refine lv_if_ne (tgt := 113) hx hb d_B_store_99 (by decide) (fun q8 => ?_) (fun q8 => ?_)
      · refine lv_aload_n hx hb d_B_store_113 rfl (lv_at hl 0 rfl) ?_
        refine va_get (D := D) (ci := 0) (v := .ref (ad 1)) (C := R_B) (T := F_B) (N := 10) hx hb hT in_B hown hK hP 0 rfl rfl 0 (by decide) (hT _ fl_B_9) (fun _ h9 => h9) rfl d_B_store_114 ?_
        refine lv_iload_n hx hb d_B_store_117 rfl (lv_at hl 1 rfl) ?_
        refine lv_iload_n hx hb d_B_store_118 rfl (lv_at hl 2 rfl) ?_
        refine va_iast (A := (kA 7 ad)) hx hb hK hP (hD _) hS 1 0 rfl rfl (by first | assumption | exact kin (by decide) | exact kwr21 (by with_reducible assumption) | exact kwr22 (by with_reducible assumption)) d_B_store_119 (fun H locs hP _ hS => ?_)
        have hP := kst (bw_s1 cA ad σ (r).toNatClampNeg v) hP
        have e9 : (kup σ 0 (r).toNatClampNeg v) = f_B_store σ r v := by rw [f_B_store, if_neg q1, if_neg q2, if_neg q3, if_pos q6, if_neg q7, if_neg q8]
        exact W.vret hx hb hr (fun t ht hW => ⟨rfl, by rw [ht, ← e9]; exact hP, hS.F ht⟩) hS.2.2 d_B_store_120
      · refine lv_aload_n hx hb d_B_store_102 rfl (lv_at hl 0 rfl) ?_
        refine lv_iload_n hx hb d_B_store_103 rfl (lv_at hl 1 rfl) ?_
        refine lv_bipush (v := (21 : Int32)) hx hb d_B_store_104 (by decide) ?_
        refine lv_isub hx hb d_B_store_106 ?_
        refine kcv (va_runV (As := [.int (r - (21 : Int32))]) (rest := []) ⟨hx, hb, hml, hown, hT⟩ (c_B_unlock l D cA ad t hap σ (r - (21 : Int32)) (by first | assumption | exact kin (by decide) | exact kwr21 (by with_reducible assumption) | exact kwr22 (by with_reducible assumption))) (kCV 1 hT ml_B_93 mi_B_unlock ⟨Nat.le_of_ble_eq_true rfl, Nat.le_of_ble_eq_true rfl⟩) (bpreV hK hP hZ hS) rfl rfl hl.1 rfl (lv_room (Nat.le_of_ble_eq_true rfl)) d_B_store_107 ⟨Nat.le_of_ble_eq_true rfl, Nat.le_of_ble_eq_true rfl⟩) hS (fun H locs hP hS => ?_)
        refine lv_goto (tgt := 113) hx hb d_B_store_110 (by decide) ?_
        refine lv_aload_n hx hb d_B_store_113 rfl (lv_at hl 0 rfl) ?_
        refine va_get (D := D) (ci := 0) (v := .ref (ad 1)) (C := R_B) (T := F_B) (N := 10) hx hb hT in_B hown hK hP 0 rfl rfl 0 (by decide) (hT _ fl_B_9) (fun _ h9 => h9) rfl d_B_store_114 ?_
        refine lv_iload_n hx hb d_B_store_117 rfl (lv_at hl 1 rfl) ?_
        refine lv_iload_n hx hb d_B_store_118 rfl (lv_at hl 2 rfl) ?_
        refine va_iast (A := (kA 7 ad)) hx hb hK hP (hD _) hS 1 0 rfl rfl (by first | assumption | exact kin (by decide) | exact kwr21 (by with_reducible assumption) | exact kwr22 (by with_reducible assumption)) d_B_store_119 (fun H locs hP _ hS => ?_)
        have hP := kst (bw_s1 cA ad (f_B_unlock σ (r - (21 : Int32))) (r).toNatClampNeg v) hP
        have e9 : (kup (f_B_unlock σ (r - (21 : Int32))) 0 (r).toNatClampNeg v) = f_B_store σ r v := by rw [f_B_store, if_neg q1, if_neg q2, if_neg q3, if_pos q6, if_neg q7, if_pos q8]
        exact W.vret hx hb hr (fun t ht hW => ⟨rfl, by rw [ht, ← e9]; exact hP, hS.F ht⟩) hS.2.2 d_B_store_120
  refine lv_lookup (tgt := 113) (off := 112) hx hb d_B_store_1 (by decide) (by simp only [List.toList_toArray]; rw [lv_osw q1 (k := (9 : Int32)) (a := 9) rfl, lv_osw q2 (k := (10 : Int32)) (a := 10) rfl, lv_osw q3 (k := (21 : Int32)) (a := 21) rfl, lv_osw q6 (k := (22 : Int32)) (a := 22) rfl]; rfl) (by decide) ?_
  refine lv_aload_n hx hb d_B_store_113 rfl (lv_at hl 0 rfl) ?_
  refine va_get (D := D) (ci := 0) (v := .ref (ad 1)) (C := R_B) (T := F_B) (N := 10) hx hb hT in_B hown hK hP 0 rfl rfl 0 (by decide) (hT _ fl_B_9) (fun _ h9 => h9) rfl d_B_store_114 ?_
  refine lv_iload_n hx hb d_B_store_117 rfl (lv_at hl 1 rfl) ?_
  refine lv_iload_n hx hb d_B_store_118 rfl (lv_at hl 2 rfl) ?_
  refine va_iast (A := (kA 7 ad)) hx hb hK hP (hD _) hS 1 0 rfl rfl (by first | assumption | exact kin (by decide) | exact kwr21 (by with_reducible assumption) | exact kwr22 (by with_reducible assumption)) d_B_store_119 (fun H locs hP _ hS => ?_)
  have hP := kst (bw_s1 cA ad σ (r).toNatClampNeg v) hP
  have e9 : (kup σ 0 (r).toNatClampNeg v) = f_B_store σ r v := by rw [f_B_store, if_neg q1, if_neg q2, if_neg q3, if_neg q6]
  exact W.vret hx hb hr (fun t ht hW => ⟨rfl, by rw [ht, ← e9]; exact hP, hS.F ht⟩) hS.2.2 d_B_store_120
