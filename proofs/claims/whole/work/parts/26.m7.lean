def f_M_write_j32 (σ : Nat → Nat → Int32) (r : Int32) (v : Int32) (p2 : Int32) (p1 : Int32) : (Nat → Nat → Int32) := (if (f_M_goes σ p1 p2).1 = 0 then (f_M_goes σ p1 p2).2 else (if r ≤ (27 : Int32) then (if r = (9 : Int32) then (kup (kup (kup (f_M_goes σ p1 p2).2 2 ((0 : Int32)).toNatClampNeg v) 3 ((1 : Int32)).toNatClampNeg ((kup (f_M_goes σ p1 p2).2 2 ((0 : Int32)).toNatClampNeg v) 2 ((1 : Int32)).toNatClampNeg)) 0 (r).toNatClampNeg v) else (if r = (10 : Int32) then (kup (kup (kup (kup (f_M_goes σ p1 p2).2 2 ((1 : Int32)).toNatClampNeg v) 3 ((0 : Int32)).toNatClampNeg ((kup (f_M_goes σ p1 p2).2 2 ((1 : Int32)).toNatClampNeg v) 2 ((0 : Int32)).toNatClampNeg)) 7 2 ((kup (kup (f_M_goes σ p1 p2).2 2 ((1 : Int32)).toNatClampNeg v) 3 ((0 : Int32)).toNatClampNeg ((kup (f_M_goes σ p1 p2).2 2 ((1 : Int32)).toNatClampNeg v) 2 ((0 : Int32)).toNatClampNeg)) 7 1)) 0 (r).toNatClampNeg v) else (if r = (13 : Int32) then (if ((v >>> ((1 : Int32) &&& 31)) &&& (1 : Int32)) = (1 : Int32) then (kup (kup (f_M_goes σ p1 p2).2 7 1 (1 : Int32)) 0 (r).toNatClampNeg v) else (kup (kup (f_M_goes σ p1 p2).2 7 1 (0 : Int32)) 0 (r).toNatClampNeg v)) else (if r = (21 : Int32) then (kup (f_M_lock (f_M_goes σ p1 p2).2 (r - (21 : Int32)) v) 0 (r).toNatClampNeg v) else (if r = (22 : Int32) then (kup (f_M_lock (f_M_goes σ p1 p2).2 (r - (21 : Int32)) v) 0 (r).toNatClampNeg v) else (kup (f_M_goes σ p1 p2).2 0 (r).toNatClampNeg v)))))) else (f_M_special (f_M_goes σ p1 p2).2 r)))

def f_M_write (σ : Nat → Nat → Int32) (r : Int32) (v : Int32) : (Nat → Nat → Int32) := (if r < 0 then (if v < 0 then (f_M_write_j32 σ r v (0 : Int32) (0 : Int32)) else (if (255 : Int32) < v then (f_M_write_j32 σ r v (0 : Int32) (0 : Int32)) else (f_M_write_j32 σ r v (1 : Int32) (0 : Int32)))) else (if (35 : Int32) < r then (if v < 0 then (f_M_write_j32 σ r v (0 : Int32) (0 : Int32)) else (if (255 : Int32) < v then (f_M_write_j32 σ r v (0 : Int32) (0 : Int32)) else (f_M_write_j32 σ r v (1 : Int32) (0 : Int32)))) else (if v < 0 then (f_M_write_j32 σ r v (0 : Int32) (1 : Int32)) else (if (255 : Int32) < v then (f_M_write_j32 σ r v (0 : Int32) (1 : Int32)) else (f_M_write_j32 σ r v (1 : Int32) (1 : Int32))))))

set_option maxRecDepth 100000 in
set_option maxHeartbeats 4000000 in
theorem c_M_write (l : Launch) (D : va_G) (cA ad : Nat → Nat) (hap : kap 8 ad) (σ : Nat → Nat → Int32) (r : Int32) (v : Int32) (hbl : σ 7 1 = 0 ∨ σ 7 1 = 1) : Met l y_M_write w_M_write ({ frames := 3, cells := 0, slots := 0, locals := 65 } : Room) (va_Pc [.ref (ad 0), .int r, .int v] (mPre D cA ad σ)) (kQv D (mw cA ad (f_M_write σ r v)) (kA 8 ad)) 0 0 (kA 8 ad) := by
  refine Met.ofW (cc := b_M_write) (maxL := 3) (ret := none) (by decide) rfl ?_
  intro p e s m args below meth c s₁ B hml hv
  obtain ⟨rfl, hv⟩ := hv
  obtain ⟨hP, hK⟩ := hv
  have hx := B.exec
  have hb := B.bytes
  have hr := B.returns
  have hlocks := B.notSynchronized
  have hT : ∀ w ∈ TB, w.before ([.ref (ad 0), .int r, .int v] : List Value).toArray s = true := fun w h => atoms_spec (ws := w_M_write) B.pre w (List.mem_cons_of_mem _ h)
  have hown : s.vm.findClass R_M = some m.cls := findClass_of_methodNamed B.named
  have hS : va_S (kA 8 ad) s.heap s.heap [] := va_S.rf
  have hD : ∀ σ, va_D (kA 8 ad) (mw cA ad σ) := fun σ => kD hap rfl
  have hl := lv_entry ([.ref (ad 0), .int r, .int v]) (n := 3) (Nat.le_of_ble_eq_true rfl)
  rw [lg_entry_eq]
  generalize (lg_sl ([.ref (ad 0), .int r, .int v]) ++ List.replicate (3 - (lg_sl ([.ref (ad 0), .int r, .int v])).length) Slot.unset).toArray = ls at hl ⊢
  have hl : lv_has ls 3 [(0, .ref (ad 0)), (1, .int r), (2, .int v)] := hl
  have j32 : ∀ (p2 : Int32) (p1 : Int32), (p1 = 0 ∨ (¬ r < 0 ∧ ¬ (35 : Int32) < r)) → f_M_write_j32 σ r v p2 p1 = f_M_write σ r v → W p l e (headSpec w_M_write ({ frames := 3, cells := 0, slots := 0, locals := 65 } : Room)).room s m ([.ref (ad 0), .int r, .int v] : List Value).toArray below meth c s.heap [] 0 0 (MQ below (kQv D (mw cA ad (f_M_write σ r v)) (kA 8 ad)) ([.ref (ad 0), .int r, .int v] : List Value).toArray s 0 0 (kA 8 ad)) (F0 m 32 ls [.int p2, .int p1, .ref (ad 0)]) := by
    intro p2 p1 hj0 hg
    refine kci (va_runV (As := [.int p1, .int p2]) (rest := []) ⟨hx, hb, hml, hown, hT⟩ (c_M_goes l D cA ad hap σ p1 p2) (kCV 2 hT ml_M_60 mi_M_goes ⟨Nat.le_of_ble_eq_true rfl, Nat.le_of_ble_eq_true rfl⟩) (mpreV hK hP) rfl rfl hl.1 rfl (lv_room (Nat.le_of_ble_eq_true rfl)) d_M_write_32 ⟨Nat.le_of_ble_eq_true rfl, Nat.le_of_ble_eq_true rfl⟩) hS (fun H locs hP hS => ?_)
    refine lv_if_ne (tgt := 39) hx hb d_M_write_35 (by decide) (fun q1 => ?_) (fun q1 => ?_)
    · refine lv_iload_n hx hb d_M_write_39 rfl (lv_at hl 1 rfl) ?_
      refine lv_bipush (v := (27 : Int32)) hx hb d_M_write_40 (by decide) ?_
      refine lv_icmp_le (tgt := 51) hx hb d_M_write_42 (by decide) (fun q2 => ?_) (fun q2 => ?_)
      · refine lv_iload_n hx hb d_M_write_51 rfl (lv_at hl 1 rfl) ?_
        refine lv_bipush (v := (9 : Int32)) hx hb d_M_write_52 (by decide) ?_
        refine lv_icmp_ne (tgt := 79) hx hb d_M_write_54 (by decide) (fun q3 => ?_) (fun q3 => ?_)
        · refine lv_iload_n hx hb d_M_write_79 rfl (lv_at hl 1 rfl) ?_
          refine lv_bipush (v := (10 : Int32)) hx hb d_M_write_80 (by decide) ?_
          refine lv_icmp_ne (tgt := 115) hx hb d_M_write_82 (by decide) (fun q4 => ?_) (fun q4 => ?_)
          · refine lv_iload_n hx hb d_M_write_115 rfl (lv_at hl 1 rfl) ?_
            refine lv_bipush (v := (13 : Int32)) hx hb d_M_write_116 (by decide) ?_
            refine lv_icmp_ne (tgt := 142) hx hb d_M_write_118 (by decide) (fun q5 => ?_) (fun q5 => ?_)
            · refine lv_iload_n hx hb d_M_write_142 rfl (lv_at hl 1 rfl) ?_
              refine lv_bipush (v := (21 : Int32)) hx hb d_M_write_143 (by decide) ?_
              refine lv_icmp_eq (tgt := 154) hx hb d_M_write_145 (by decide) (fun q6 => ?_) (fun q6 => ?_)
              · refine lv_aload_n hx hb d_M_write_154 rfl (lv_at hl 0 rfl) ?_
                refine lv_iload_n hx hb d_M_write_155 rfl (lv_at hl 1 rfl) ?_
                refine lv_bipush (v := (21 : Int32)) hx hb d_M_write_156 (by decide) ?_
                refine lv_isub hx hb d_M_write_158 ?_
                refine lv_iload_n hx hb d_M_write_159 rfl (lv_at hl 2 rfl) ?_
                refine kcv (va_runV (As := [.int (r - (21 : Int32)), .int v]) (rest := []) ⟨hx, hb, hml, hown, hT⟩ (c_M_lock l D cA ad hap (f_M_goes σ p1 p2).2 (r - (21 : Int32)) v (by first | assumption | exact kin (by decide) | exact kwr28 (kwr0 hj0 (by assumption)) (by assumption) | exact kwr36 (kwr0 hj0 (by assumption)) | exact kwr27 (by assumption) | exact kwr21 (by assumption) | exact kwr22 (by assumption))) (kCV 2 hT ml_M_74 mi_M_lock ⟨Nat.le_of_ble_eq_true rfl, Nat.le_of_ble_eq_true rfl⟩) (mpreV hK hP) rfl rfl hl.1 rfl (lv_room (Nat.le_of_ble_eq_true rfl)) d_M_write_160 ⟨Nat.le_of_ble_eq_true rfl, Nat.le_of_ble_eq_true rfl⟩) hS (fun H locs hP hS => ?_)
                refine lv_aload_n hx hb d_M_write_163 rfl (lv_at hl 0 rfl) ?_
                refine va_get (D := D) (ci := 2) (v := .ref (ad 1)) (C := R_M) (T := F_M) (N := 17) hx hb hT in_M hown hK hP 0 rfl rfl 1 (by decide) (hT _ fl_M_7) (fun _ h9 => h9) rfl d_M_write_164 ?_
                refine lv_iload_n hx hb d_M_write_167 rfl (lv_at hl 1 rfl) ?_
                refine lv_iload_n hx hb d_M_write_168 rfl (lv_at hl 2 rfl) ?_
                refine va_iast (A := (kA 8 ad)) hx hb hK hP (hD _) hS 1 0 rfl rfl (by first | assumption | exact kin (by decide) | exact kwr28 (kwr0 hj0 (by assumption)) (by assumption) | exact kwr36 (kwr0 hj0 (by assumption)) | exact kwr27 (by assumption) | exact kwr21 (by assumption) | exact kwr22 (by assumption)) d_M_write_169 (fun H locs hP _ hS => ?_)
                have hP := kst (mw_s1 cA ad (f_M_lock (f_M_goes σ p1 p2).2 (r - (21 : Int32)) v) (r).toNatClampNeg v) hP
                have e9 : (kup (f_M_lock (f_M_goes σ p1 p2).2 (r - (21 : Int32)) v) 0 (r).toNatClampNeg v) = f_M_write σ r v := by rw [← hg, f_M_write_j32, if_neg q1, if_pos q2, if_neg q3, if_neg q4, if_neg q5, if_pos q6]
                exact W.vret hx hb hr (fun t ht hW => ⟨rfl, by rw [ht, ← e9]; exact hP, hS.F ht⟩) hS.2.2 d_M_write_170
              · refine lv_iload_n hx hb d_M_write_148 rfl (lv_at hl 1 rfl) ?_
                refine lv_bipush (v := (22 : Int32)) hx hb d_M_write_149 (by decide) ?_
                refine lv_icmp_ne (tgt := 163) hx hb d_M_write_151 (by decide) (fun q7 => ?_) (fun q7 => ?_)
                · refine lv_aload_n hx hb d_M_write_163 rfl (lv_at hl 0 rfl) ?_
                  refine va_get (D := D) (ci := 2) (v := .ref (ad 1)) (C := R_M) (T := F_M) (N := 17) hx hb hT in_M hown hK hP 0 rfl rfl 1 (by decide) (hT _ fl_M_7) (fun _ h9 => h9) rfl d_M_write_164 ?_
                  refine lv_iload_n hx hb d_M_write_167 rfl (lv_at hl 1 rfl) ?_
                  refine lv_iload_n hx hb d_M_write_168 rfl (lv_at hl 2 rfl) ?_
                  refine va_iast (A := (kA 8 ad)) hx hb hK hP (hD _) hS 1 0 rfl rfl (by first | assumption | exact kin (by decide) | exact kwr28 (kwr0 hj0 (by assumption)) (by assumption) | exact kwr36 (kwr0 hj0 (by assumption)) | exact kwr27 (by assumption) | exact kwr21 (by assumption) | exact kwr22 (by assumption)) d_M_write_169 (fun H locs hP _ hS => ?_)
                  have hP := kst (mw_s1 cA ad (f_M_goes σ p1 p2).2 (r).toNatClampNeg v) hP
                  have e9 : (kup (f_M_goes σ p1 p2).2 0 (r).toNatClampNeg v) = f_M_write σ r v := by rw [← hg, f_M_write_j32, if_neg q1, if_pos q2, if_neg q3, if_neg q4, if_neg q5, if_neg q6, if_neg q7]
                  exact W.vret hx hb hr (fun t ht hW => ⟨rfl, by rw [ht, ← e9]; exact hP, hS.F ht⟩) hS.2.2 d_M_write_170
                · refine lv_aload_n hx hb d_M_write_154 rfl (lv_at hl 0 rfl) ?_
                  refine lv_iload_n hx hb d_M_write_155 rfl (lv_at hl 1 rfl) ?_
                  refine lv_bipush (v := (21 : Int32)) hx hb d_M_write_156 (by decide) ?_
                  refine lv_isub hx hb d_M_write_158 ?_
                  refine lv_iload_n hx hb d_M_write_159 rfl (lv_at hl 2 rfl) ?_
                  refine kcv (va_runV (As := [.int (r - (21 : Int32)), .int v]) (rest := []) ⟨hx, hb, hml, hown, hT⟩ (c_M_lock l D cA ad hap (f_M_goes σ p1 p2).2 (r - (21 : Int32)) v (by first | assumption | exact kin (by decide) | exact kwr28 (kwr0 hj0 (by assumption)) (by assumption) | exact kwr36 (kwr0 hj0 (by assumption)) | exact kwr27 (by assumption) | exact kwr21 (by assumption) | exact kwr22 (by assumption))) (kCV 2 hT ml_M_74 mi_M_lock ⟨Nat.le_of_ble_eq_true rfl, Nat.le_of_ble_eq_true rfl⟩) (mpreV hK hP) rfl rfl hl.1 rfl (lv_room (Nat.le_of_ble_eq_true rfl)) d_M_write_160 ⟨Nat.le_of_ble_eq_true rfl, Nat.le_of_ble_eq_true rfl⟩) hS (fun H locs hP hS => ?_)
                  refine lv_aload_n hx hb d_M_write_163 rfl (lv_at hl 0 rfl) ?_
                  refine va_get (D := D) (ci := 2) (v := .ref (ad 1)) (C := R_M) (T := F_M) (N := 17) hx hb hT in_M hown hK hP 0 rfl rfl 1 (by decide) (hT _ fl_M_7) (fun _ h9 => h9) rfl d_M_write_164 ?_
                  refine lv_iload_n hx hb d_M_write_167 rfl (lv_at hl 1 rfl) ?_
                  refine lv_iload_n hx hb d_M_write_168 rfl (lv_at hl 2 rfl) ?_
                  refine va_iast (A := (kA 8 ad)) hx hb hK hP (hD _) hS 1 0 rfl rfl (by first | assumption | exact kin (by decide) | exact kwr28 (kwr0 hj0 (by assumption)) (by assumption) | exact kwr36 (kwr0 hj0 (by assumption)) | exact kwr27 (by assumption) | exact kwr21 (by assumption) | exact kwr22 (by assumption)) d_M_write_169 (fun H locs hP _ hS => ?_)
                  have hP := kst (mw_s1 cA ad (f_M_lock (f_M_goes σ p1 p2).2 (r - (21 : Int32)) v) (r).toNatClampNeg v) hP
                  have e9 : (kup (f_M_lock (f_M_goes σ p1 p2).2 (r - (21 : Int32)) v) 0 (r).toNatClampNeg v) = f_M_write σ r v := by rw [← hg, f_M_write_j32, if_neg q1, if_pos q2, if_neg q3, if_neg q4, if_neg q5, if_neg q6, if_pos q7]
                  exact W.vret hx hb hr (fun t ht hW => ⟨rfl, by rw [ht, ← e9]; exact hP, hS.F ht⟩) hS.2.2 d_M_write_170
            · refine lv_aload_n hx hb d_M_write_121 rfl (lv_at hl 0 rfl) ?_
              refine lv_iload_n hx hb d_M_write_122 rfl (lv_at hl 2 rfl) ?_
              refine lv_iconst (v := (1 : Int32)) hx hb d_M_write_123 (by decide) ?_
              refine lv_ishr hx hb d_M_write_124 ?_
              refine lv_iconst (v := (1 : Int32)) hx hb d_M_write_125 (by decide) ?_
              refine lv_iand hx hb d_M_write_126 ?_
              refine lv_iconst (v := (1 : Int32)) hx hb d_M_write_127 (by decide) ?_
              refine lv_icmp_ne (tgt := 135) hx hb d_M_write_128 (by decide) (fun q8 => ?_) (fun q8 => ?_)
              · refine lv_iconst (v := (0 : Int32)) hx hb d_M_write_135 (by decide) ?_
                refine va_put (A := (kA 8 ad)) (D := D) (ci := 2) (v := .int (0 : Int32)) (ty := .boolean) (C := R_M) (T := F_M) (N := 17) hx hb hT in_M ft_M ft_M_ok n_M hown hK hP (hD _) hS 0 rfl rfl 5 (by decide) (hT _ fl_M_67) (fun _ h9 => h9) rfl (by decide +kernel) (by decide) (by decide) (Nat.le_of_ble_eq_true rfl) d_M_write_136 (fun H locs hP _ hS => ?_)
                have hP := kst (mw_p0_5 cA ad (f_M_goes σ p1 p2).2 (0 : Int32)) hP
                refine lv_goto (tgt := 163) hx hb d_M_write_139 (by decide) ?_
                refine lv_aload_n hx hb d_M_write_163 rfl (lv_at hl 0 rfl) ?_
                refine va_get (D := D) (ci := 2) (v := .ref (ad 1)) (C := R_M) (T := F_M) (N := 17) hx hb hT in_M hown hK hP 0 rfl rfl 1 (by decide) (hT _ fl_M_7) (fun _ h9 => h9) rfl d_M_write_164 ?_
                refine lv_iload_n hx hb d_M_write_167 rfl (lv_at hl 1 rfl) ?_
                refine lv_iload_n hx hb d_M_write_168 rfl (lv_at hl 2 rfl) ?_
                refine va_iast (A := (kA 8 ad)) hx hb hK hP (hD _) hS 1 0 rfl rfl (by first | assumption | exact kin (by decide) | exact kwr28 (kwr0 hj0 (by assumption)) (by assumption) | exact kwr36 (kwr0 hj0 (by assumption)) | exact kwr27 (by assumption) | exact kwr21 (by assumption) | exact kwr22 (by assumption)) d_M_write_169 (fun H locs hP _ hS => ?_)
                have hP := kst (mw_s1 cA ad (kup (f_M_goes σ p1 p2).2 7 1 (0 : Int32)) (r).toNatClampNeg v) hP
                have e9 : (kup (kup (f_M_goes σ p1 p2).2 7 1 (0 : Int32)) 0 (r).toNatClampNeg v) = f_M_write σ r v := by rw [← hg, f_M_write_j32, if_neg q1, if_pos q2, if_neg q3, if_neg q4, if_pos q5, if_neg q8]
                exact W.vret hx hb hr (fun t ht hW => ⟨rfl, by rw [ht, ← e9]; exact hP, hS.F ht⟩) hS.2.2 d_M_write_170
              · refine lv_iconst (v := (1 : Int32)) hx hb d_M_write_131 (by decide) ?_
                refine lv_goto (tgt := 136) hx hb d_M_write_132 (by decide) ?_
                refine va_put (A := (kA 8 ad)) (D := D) (ci := 2) (v := .int (1 : Int32)) (ty := .boolean) (C := R_M) (T := F_M) (N := 17) hx hb hT in_M ft_M ft_M_ok n_M hown hK hP (hD _) hS 0 rfl rfl 5 (by decide) (hT _ fl_M_67) (fun _ h9 => h9) rfl (by decide +kernel) (by decide) (by decide) (Nat.le_of_ble_eq_true rfl) d_M_write_136 (fun H locs hP _ hS => ?_)
                have hP := kst (mw_p0_5 cA ad (f_M_goes σ p1 p2).2 (1 : Int32)) hP
                refine lv_goto (tgt := 163) hx hb d_M_write_139 (by decide) ?_
                refine lv_aload_n hx hb d_M_write_163 rfl (lv_at hl 0 rfl) ?_
                refine va_get (D := D) (ci := 2) (v := .ref (ad 1)) (C := R_M) (T := F_M) (N := 17) hx hb hT in_M hown hK hP 0 rfl rfl 1 (by decide) (hT _ fl_M_7) (fun _ h9 => h9) rfl d_M_write_164 ?_
                refine lv_iload_n hx hb d_M_write_167 rfl (lv_at hl 1 rfl) ?_
                refine lv_iload_n hx hb d_M_write_168 rfl (lv_at hl 2 rfl) ?_
                refine va_iast (A := (kA 8 ad)) hx hb hK hP (hD _) hS 1 0 rfl rfl (by first | assumption | exact kin (by decide) | exact kwr28 (kwr0 hj0 (by assumption)) (by assumption) | exact kwr36 (kwr0 hj0 (by assumption)) | exact kwr27 (by assumption) | exact kwr21 (by assumption) | exact kwr22 (by assumption)) d_M_write_169 (fun H locs hP _ hS => ?_)
                have hP := kst (mw_s1 cA ad (kup (f_M_goes σ p1 p2).2 7 1 (1 : Int32)) (r).toNatClampNeg v) hP
                have e9 : (kup (kup (f_M_goes σ p1 p2).2 7 1 (1 : Int32)) 0 (r).toNatClampNeg v) = f_M_write σ r v := by rw [← hg, f_M_write_j32, if_neg q1, if_pos q2, if_neg q3, if_neg q4, if_pos q5, if_pos q8]
                exact W.vret hx hb hr (fun t ht hW => ⟨rfl, by rw [ht, ← e9]; exact hP, hS.F ht⟩) hS.2.2 d_M_write_170
          · refine lv_aload_n hx hb d_M_write_85 rfl (lv_at hl 0 rfl) ?_
            refine va_get (D := D) (ci := 2) (v := .ref (ad 3)) (C := R_M) (T := F_M) (N := 17) hx hb hT in_M hown hK hP 0 rfl rfl 3 (by decide) (hT _ fl_M_16) (fun _ h9 => h9) rfl d_M_write_86 ?_
            refine lv_iconst (v := (1 : Int32)) hx hb d_M_write_89 (by decide) ?_
            refine lv_iload_n hx hb d_M_write_90 rfl (lv_at hl 2 rfl) ?_
            refine va_iast (A := (kA 8 ad)) hx hb hK hP (hD _) hS 3 0 rfl rfl (by first | assumption | exact kin (by decide) | exact kwr28 (kwr0 hj0 (by assumption)) (by assumption) | exact kwr36 (kwr0 hj0 (by assumption)) | exact kwr27 (by assumption) | exact kwr21 (by assumption) | exact kwr22 (by assumption)) d_M_write_91 (fun H locs hP _ hS => ?_)
            have hP := kst (mw_s3 cA ad (f_M_goes σ p1 p2).2 ((1 : Int32)).toNatClampNeg v) hP
            refine lv_aload_n hx hb d_M_write_92 rfl (lv_at hl 0 rfl) ?_
            refine va_get (D := D) (ci := 2) (v := .ref (ad 4)) (C := R_M) (T := F_M) (N := 17) hx hb hT in_M hown hK hP 0 rfl rfl 4 (by decide) (hT _ fl_M_19) (fun _ h9 => h9) rfl d_M_write_93 ?_
            refine lv_iconst (v := (0 : Int32)) hx hb d_M_write_96 (by decide) ?_
            refine lv_aload_n hx hb d_M_write_97 rfl (lv_at hl 0 rfl) ?_
            refine va_get (D := D) (ci := 2) (v := .ref (ad 3)) (C := R_M) (T := F_M) (N := 17) hx hb hT in_M hown hK hP 0 rfl rfl 3 (by decide) (hT _ fl_M_16) (fun _ h9 => h9) rfl d_M_write_98 ?_
            refine lv_iconst (v := (0 : Int32)) hx hb d_M_write_101 (by decide) ?_
            refine va_iald hx hb hK hP 3 0 rfl rfl (by first | assumption | exact kin (by decide) | exact kwr28 (kwr0 hj0 (by assumption)) (by assumption) | exact kwr36 (kwr0 hj0 (by assumption)) | exact kwr27 (by assumption) | exact kwr21 (by assumption) | exact kwr22 (by assumption)) d_M_write_102 ?_
            refine va_iast (A := (kA 8 ad)) hx hb hK hP (hD _) hS 4 0 rfl rfl (by first | assumption | exact kin (by decide) | exact kwr28 (kwr0 hj0 (by assumption)) (by assumption) | exact kwr36 (kwr0 hj0 (by assumption)) | exact kwr27 (by assumption) | exact kwr21 (by assumption) | exact kwr22 (by assumption)) d_M_write_103 (fun H locs hP _ hS => ?_)
            have hP := kst (mw_s4 cA ad (kup (f_M_goes σ p1 p2).2 2 ((1 : Int32)).toNatClampNeg v) ((0 : Int32)).toNatClampNeg ((kup (f_M_goes σ p1 p2).2 2 ((1 : Int32)).toNatClampNeg v) 2 ((0 : Int32)).toNatClampNeg)) hP
            refine lv_aload_n hx hb d_M_write_104 rfl (lv_at hl 0 rfl) ?_
            refine lv_aload_n hx hb d_M_write_105 rfl (lv_at hl 0 rfl) ?_
            refine va_get (D := D) (ci := 2) (v := .int ((kup (kup (f_M_goes σ p1 p2).2 2 ((1 : Int32)).toNatClampNeg v) 3 ((0 : Int32)).toNatClampNeg ((kup (f_M_goes σ p1 p2).2 2 ((1 : Int32)).toNatClampNeg v) 2 ((0 : Int32)).toNatClampNeg)) 7 1)) (C := R_M) (T := F_M) (N := 17) hx hb hT in_M hown hK hP 0 rfl rfl 5 (by decide) (hT _ fl_M_67) (fun _ h9 => h9) rfl d_M_write_106 ?_
            refine va_put (A := (kA 8 ad)) (D := D) (ci := 2) (v := .int ((kup (kup (f_M_goes σ p1 p2).2 2 ((1 : Int32)).toNatClampNeg v) 3 ((0 : Int32)).toNatClampNeg ((kup (f_M_goes σ p1 p2).2 2 ((1 : Int32)).toNatClampNeg v) 2 ((0 : Int32)).toNatClampNeg)) 7 1)) (ty := .boolean) (C := R_M) (T := F_M) (N := 17) hx hb hT in_M ft_M ft_M_ok n_M hown hK hP (hD _) hS 0 rfl rfl 6 (by decide) (hT _ fl_M_71) (fun _ h9 => h9) rfl (by decide +kernel) (kz_nar (kball hbl)) (kz_fit (kball hbl)) (Nat.le_of_ble_eq_true rfl) d_M_write_109 (fun H locs hP _ hS => ?_)
            have hP := kst (mw_p0_6 cA ad (kup (kup (f_M_goes σ p1 p2).2 2 ((1 : Int32)).toNatClampNeg v) 3 ((0 : Int32)).toNatClampNeg ((kup (f_M_goes σ p1 p2).2 2 ((1 : Int32)).toNatClampNeg v) 2 ((0 : Int32)).toNatClampNeg)) ((kup (kup (f_M_goes σ p1 p2).2 2 ((1 : Int32)).toNatClampNeg v) 3 ((0 : Int32)).toNatClampNeg ((kup (f_M_goes σ p1 p2).2 2 ((1 : Int32)).toNatClampNeg v) 2 ((0 : Int32)).toNatClampNeg)) 7 1)) hP
            refine lv_goto (tgt := 163) hx hb d_M_write_112 (by decide) ?_
            refine lv_aload_n hx hb d_M_write_163 rfl (lv_at hl 0 rfl) ?_
            refine va_get (D := D) (ci := 2) (v := .ref (ad 1)) (C := R_M) (T := F_M) (N := 17) hx hb hT in_M hown hK hP 0 rfl rfl 1 (by decide) (hT _ fl_M_7) (fun _ h9 => h9) rfl d_M_write_164 ?_
            refine lv_iload_n hx hb d_M_write_167 rfl (lv_at hl 1 rfl) ?_
            refine lv_iload_n hx hb d_M_write_168 rfl (lv_at hl 2 rfl) ?_
            refine va_iast (A := (kA 8 ad)) hx hb hK hP (hD _) hS 1 0 rfl rfl (by first | assumption | exact kin (by decide) | exact kwr28 (kwr0 hj0 (by assumption)) (by assumption) | exact kwr36 (kwr0 hj0 (by assumption)) | exact kwr27 (by assumption) | exact kwr21 (by assumption) | exact kwr22 (by assumption)) d_M_write_169 (fun H locs hP _ hS => ?_)
            have hP := kst (mw_s1 cA ad (kup (kup (kup (f_M_goes σ p1 p2).2 2 ((1 : Int32)).toNatClampNeg v) 3 ((0 : Int32)).toNatClampNeg ((kup (f_M_goes σ p1 p2).2 2 ((1 : Int32)).toNatClampNeg v) 2 ((0 : Int32)).toNatClampNeg)) 7 2 ((kup (kup (f_M_goes σ p1 p2).2 2 ((1 : Int32)).toNatClampNeg v) 3 ((0 : Int32)).toNatClampNeg ((kup (f_M_goes σ p1 p2).2 2 ((1 : Int32)).toNatClampNeg v) 2 ((0 : Int32)).toNatClampNeg)) 7 1)) (r).toNatClampNeg v) hP
            have e9 : (kup (kup (kup (kup (f_M_goes σ p1 p2).2 2 ((1 : Int32)).toNatClampNeg v) 3 ((0 : Int32)).toNatClampNeg ((kup (f_M_goes σ p1 p2).2 2 ((1 : Int32)).toNatClampNeg v) 2 ((0 : Int32)).toNatClampNeg)) 7 2 ((kup (kup (f_M_goes σ p1 p2).2 2 ((1 : Int32)).toNatClampNeg v) 3 ((0 : Int32)).toNatClampNeg ((kup (f_M_goes σ p1 p2).2 2 ((1 : Int32)).toNatClampNeg v) 2 ((0 : Int32)).toNatClampNeg)) 7 1)) 0 (r).toNatClampNeg v) = f_M_write σ r v := by rw [← hg, f_M_write_j32, if_neg q1, if_pos q2, if_neg q3, if_pos q4]
            exact W.vret hx hb hr (fun t ht hW => ⟨rfl, by rw [ht, ← e9]; exact hP, hS.F ht⟩) hS.2.2 d_M_write_170
        · refine lv_aload_n hx hb d_M_write_57 rfl (lv_at hl 0 rfl) ?_
          refine va_get (D := D) (ci := 2) (v := .ref (ad 3)) (C := R_M) (T := F_M) (N := 17) hx hb hT in_M hown hK hP 0 rfl rfl 3 (by decide) (hT _ fl_M_16) (fun _ h9 => h9) rfl d_M_write_58 ?_
          refine lv_iconst (v := (0 : Int32)) hx hb d_M_write_61 (by decide) ?_
          refine lv_iload_n hx hb d_M_write_62 rfl (lv_at hl 2 rfl) ?_
          refine va_iast (A := (kA 8 ad)) hx hb hK hP (hD _) hS 3 0 rfl rfl (by first | assumption | exact kin (by decide) | exact kwr28 (kwr0 hj0 (by assumption)) (by assumption) | exact kwr36 (kwr0 hj0 (by assumption)) | exact kwr27 (by assumption) | exact kwr21 (by assumption) | exact kwr22 (by assumption)) d_M_write_63 (fun H locs hP _ hS => ?_)
          have hP := kst (mw_s3 cA ad (f_M_goes σ p1 p2).2 ((0 : Int32)).toNatClampNeg v) hP
          refine lv_aload_n hx hb d_M_write_64 rfl (lv_at hl 0 rfl) ?_
          refine va_get (D := D) (ci := 2) (v := .ref (ad 4)) (C := R_M) (T := F_M) (N := 17) hx hb hT in_M hown hK hP 0 rfl rfl 4 (by decide) (hT _ fl_M_19) (fun _ h9 => h9) rfl d_M_write_65 ?_
          refine lv_iconst (v := (1 : Int32)) hx hb d_M_write_68 (by decide) ?_
          refine lv_aload_n hx hb d_M_write_69 rfl (lv_at hl 0 rfl) ?_
          refine va_get (D := D) (ci := 2) (v := .ref (ad 3)) (C := R_M) (T := F_M) (N := 17) hx hb hT in_M hown hK hP 0 rfl rfl 3 (by decide) (hT _ fl_M_16) (fun _ h9 => h9) rfl d_M_write_70 ?_
          refine lv_iconst (v := (1 : Int32)) hx hb d_M_write_73 (by decide) ?_
          refine va_iald hx hb hK hP 3 0 rfl rfl (by first | assumption | exact kin (by decide) | exact kwr28 (kwr0 hj0 (by assumption)) (by assumption) | exact kwr36 (kwr0 hj0 (by assumption)) | exact kwr27 (by assumption) | exact kwr21 (by assumption) | exact kwr22 (by assumption)) d_M_write_74 ?_
          refine va_iast (A := (kA 8 ad)) hx hb hK hP (hD _) hS 4 0 rfl rfl (by first | assumption | exact kin (by decide) | exact kwr28 (kwr0 hj0 (by assumption)) (by assumption) | exact kwr36 (kwr0 hj0 (by assumption)) | exact kwr27 (by assumption) | exact kwr21 (by assumption) | exact kwr22 (by assumption)) d_M_write_75 (fun H locs hP _ hS => ?_)
          have hP := kst (mw_s4 cA ad (kup (f_M_goes σ p1 p2).2 2 ((0 : Int32)).toNatClampNeg v) ((1 : Int32)).toNatClampNeg ((kup (f_M_goes σ p1 p2).2 2 ((0 : Int32)).toNatClampNeg v) 2 ((1 : Int32)).toNatClampNeg)) hP
          refine lv_goto (tgt := 163) hx hb d_M_write_76 (by decide) ?_
          refine lv_aload_n hx hb d_M_write_163 rfl (lv_at hl 0 rfl) ?_
          refine va_get (D := D) (ci := 2) (v := .ref (ad 1)) (C := R_M) (T := F_M) (N := 17) hx hb hT in_M hown hK hP 0 rfl rfl 1 (by decide) (hT _ fl_M_7) (fun _ h9 => h9) rfl d_M_write_164 ?_
          refine lv_iload_n hx hb d_M_write_167 rfl (lv_at hl 1 rfl) ?_
          refine lv_iload_n hx hb d_M_write_168 rfl (lv_at hl 2 rfl) ?_
          refine va_iast (A := (kA 8 ad)) hx hb hK hP (hD _) hS 1 0 rfl rfl (by first | assumption | exact kin (by decide) | exact kwr28 (kwr0 hj0 (by assumption)) (by assumption) | exact kwr36 (kwr0 hj0 (by assumption)) | exact kwr27 (by assumption) | exact kwr21 (by assumption) | exact kwr22 (by assumption)) d_M_write_169 (fun H locs hP _ hS => ?_)
          have hP := kst (mw_s1 cA ad (kup (kup (f_M_goes σ p1 p2).2 2 ((0 : Int32)).toNatClampNeg v) 3 ((1 : Int32)).toNatClampNeg ((kup (f_M_goes σ p1 p2).2 2 ((0 : Int32)).toNatClampNeg v) 2 ((1 : Int32)).toNatClampNeg)) (r).toNatClampNeg v) hP
          have e9 : (kup (kup (kup (f_M_goes σ p1 p2).2 2 ((0 : Int32)).toNatClampNeg v) 3 ((1 : Int32)).toNatClampNeg ((kup (f_M_goes σ p1 p2).2 2 ((0 : Int32)).toNatClampNeg v) 2 ((1 : Int32)).toNatClampNeg)) 0 (r).toNatClampNeg v) = f_M_write σ r v := by rw [← hg, f_M_write_j32, if_neg q1, if_pos q2, if_pos q3]
          exact W.vret hx hb hr (fun t ht hW => ⟨rfl, by rw [ht, ← e9]; exact hP, hS.F ht⟩) hS.2.2 d_M_write_170
      · refine lv_aload_n hx hb d_M_write_45 rfl (lv_at hl 0 rfl) ?_
        refine lv_iload_n hx hb d_M_write_46 rfl (lv_at hl 1 rfl) ?_
        refine kcv (va_runV (As := [.int r]) (rest := []) ⟨hx, hb, hml, hown, hT⟩ (c_M_special l D cA ad hap (f_M_goes σ p1 p2).2 r (by first | assumption | exact kin (by decide) | exact kwr28 (kwr0 hj0 (by assumption)) (by assumption) | exact kwr36 (kwr0 hj0 (by assumption)) | exact kwr27 (by assumption) | exact kwr21 (by assumption) | exact kwr22 (by assumption)) (by first | assumption | exact kin (by decide) | exact kwr28 (kwr0 hj0 (by assumption)) (by assumption) | exact kwr36 (kwr0 hj0 (by assumption)) | exact kwr27 (by assumption) | exact kwr21 (by assumption) | exact kwr22 (by assumption))) (kCV 1 hT ml_M_64 mi_M_special ⟨Nat.le_of_ble_eq_true rfl, Nat.le_of_ble_eq_true rfl⟩) (mpreV hK hP) rfl rfl hl.1 rfl (lv_room (Nat.le_of_ble_eq_true rfl)) d_M_write_47 ⟨Nat.le_of_ble_eq_true rfl, Nat.le_of_ble_eq_true rfl⟩) hS (fun H locs hP hS => ?_)
        have e9 : (f_M_special (f_M_goes σ p1 p2).2 r) = f_M_write σ r v := by rw [← hg, f_M_write_j32, if_neg q1, if_neg q2]
        exact W.vret hx hb hr (fun t ht hW => ⟨rfl, by rw [ht, ← e9]; exact hP, hS.F ht⟩) hS.2.2 d_M_write_50
    · have e9 : (f_M_goes σ p1 p2).2 = f_M_write σ r v := by rw [← hg, f_M_write_j32, if_pos q1]
      exact W.vret hx hb hr (fun t ht hW => ⟨rfl, by rw [ht, ← e9]; exact hP, hS.F ht⟩) hS.2.2 d_M_write_38
  refine lv_aload_n hx hb d_M_write_0 rfl (lv_at hl 0 rfl) ?_
  refine lv_iload_n hx hb d_M_write_1 rfl (lv_at hl 1 rfl) ?_
  refine lv_if_lt (tgt := 15) hx hb d_M_write_2 (by decide) (fun q1 => ?_) (fun q1 => ?_)
  · refine lv_iconst (v := (0 : Int32)) hx hb d_M_write_15 (by decide) ?_
    refine lv_iload_n hx hb d_M_write_16 rfl (lv_at hl 2 rfl) ?_
    refine lv_if_lt (tgt := 31) hx hb d_M_write_17 (by decide) (fun q2 => ?_) (fun q2 => ?_)
    · refine lv_iconst (v := (0 : Int32)) hx hb d_M_write_31 (by decide) ?_
      exact j32 (0 : Int32) (0 : Int32) (by first | exact Or.inl rfl | exact Or.inr ⟨by assumption, by assumption⟩) (by rw [f_M_write, if_pos q1, if_pos q2])
    · refine lv_iload_n hx hb d_M_write_20 rfl (lv_at hl 2 rfl) ?_
      refine lv_sipush (v := (255 : Int32)) hx hb d_M_write_21 (by decide) ?_
      refine lv_icmp_gt (tgt := 31) hx hb d_M_write_24 (by decide) (fun q3 => ?_) (fun q3 => ?_)
      · refine lv_iconst (v := (0 : Int32)) hx hb d_M_write_31 (by decide) ?_
        exact j32 (0 : Int32) (0 : Int32) (by first | exact Or.inl rfl | exact Or.inr ⟨by assumption, by assumption⟩) (by rw [f_M_write, if_pos q1, if_neg q2, if_pos q3])
      · refine lv_iconst (v := (1 : Int32)) hx hb d_M_write_27 (by decide) ?_
        refine lv_goto (tgt := 32) hx hb d_M_write_28 (by decide) ?_
        exact j32 (1 : Int32) (0 : Int32) (by first | exact Or.inl rfl | exact Or.inr ⟨by assumption, by assumption⟩) (by rw [f_M_write, if_pos q1, if_neg q2, if_neg q3])
  · refine lv_iload_n hx hb d_M_write_5 rfl (lv_at hl 1 rfl) ?_
    refine lv_bipush (v := (35 : Int32)) hx hb d_M_write_6 (by decide) ?_
    refine lv_icmp_gt (tgt := 15) hx hb d_M_write_8 (by decide) (fun q4 => ?_) (fun q4 => ?_)
    · refine lv_iconst (v := (0 : Int32)) hx hb d_M_write_15 (by decide) ?_
      refine lv_iload_n hx hb d_M_write_16 rfl (lv_at hl 2 rfl) ?_
      refine lv_if_lt (tgt := 31) hx hb d_M_write_17 (by decide) (fun q5 => ?_) (fun q5 => ?_)
      · refine lv_iconst (v := (0 : Int32)) hx hb d_M_write_31 (by decide) ?_
        exact j32 (0 : Int32) (0 : Int32) (by first | exact Or.inl rfl | exact Or.inr ⟨by assumption, by assumption⟩) (by rw [f_M_write, if_neg q1, if_pos q4, if_pos q5])
      · refine lv_iload_n hx hb d_M_write_20 rfl (lv_at hl 2 rfl) ?_
        refine lv_sipush (v := (255 : Int32)) hx hb d_M_write_21 (by decide) ?_
        refine lv_icmp_gt (tgt := 31) hx hb d_M_write_24 (by decide) (fun q6 => ?_) (fun q6 => ?_)
        · refine lv_iconst (v := (0 : Int32)) hx hb d_M_write_31 (by decide) ?_
          exact j32 (0 : Int32) (0 : Int32) (by first | exact Or.inl rfl | exact Or.inr ⟨by assumption, by assumption⟩) (by rw [f_M_write, if_neg q1, if_pos q4, if_neg q5, if_pos q6])
        · refine lv_iconst (v := (1 : Int32)) hx hb d_M_write_27 (by decide) ?_
          refine lv_goto (tgt := 32) hx hb d_M_write_28 (by decide) ?_
          exact j32 (1 : Int32) (0 : Int32) (by first | exact Or.inl rfl | exact Or.inr ⟨by assumption, by assumption⟩) (by rw [f_M_write, if_neg q1, if_pos q4, if_neg q5, if_neg q6])
    · refine lv_iconst (v := (1 : Int32)) hx hb d_M_write_11 (by decide) ?_
      refine lv_goto (tgt := 16) hx hb d_M_write_12 (by decide) ?_
      refine lv_iload_n hx hb d_M_write_16 rfl (lv_at hl 2 rfl) ?_
      refine lv_if_lt (tgt := 31) hx hb d_M_write_17 (by decide) (fun q7 => ?_) (fun q7 => ?_)
      · refine lv_iconst (v := (0 : Int32)) hx hb d_M_write_31 (by decide) ?_
        exact j32 (0 : Int32) (1 : Int32) (by first | exact Or.inl rfl | exact Or.inr ⟨by assumption, by assumption⟩) (by rw [f_M_write, if_neg q1, if_neg q4, if_pos q7])
      · refine lv_iload_n hx hb d_M_write_20 rfl (lv_at hl 2 rfl) ?_
        refine lv_sipush (v := (255 : Int32)) hx hb d_M_write_21 (by decide) ?_
        refine lv_icmp_gt (tgt := 31) hx hb d_M_write_24 (by decide) (fun q8 => ?_) (fun q8 => ?_)
        · refine lv_iconst (v := (0 : Int32)) hx hb d_M_write_31 (by decide) ?_
          exact j32 (0 : Int32) (1 : Int32) (by first | exact Or.inl rfl | exact Or.inr ⟨by assumption, by assumption⟩) (by rw [f_M_write, if_neg q1, if_neg q4, if_neg q7, if_pos q8])
        · refine lv_iconst (v := (1 : Int32)) hx hb d_M_write_27 (by decide) ?_
          refine lv_goto (tgt := 32) hx hb d_M_write_28 (by decide) ?_
          exact j32 (1 : Int32) (1 : Int32) (by first | exact Or.inl rfl | exact Or.inr ⟨by assumption, by assumption⟩) (by rw [f_M_write, if_neg q1, if_neg q4, if_neg q7, if_neg q8])
