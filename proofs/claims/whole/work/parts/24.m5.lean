def f_M_draw_lp28 (σ : Nat → Nat → Int32) (x : Int32) : Nat → Int32 → (Nat → Nat → Int32) → (Nat → Nat → Int32)
  | 0, i, σ1 => (kup (kup σ1 5 (x).toNatClampNeg (f_M_colour σ1 x)) 7 5 (((kup σ1 5 (x).toNatClampNeg (f_M_colour σ1 x)) 7 5) + (1 : Int32)))
  | n + 1, i, σ1 => (if (σ1 4 (i).toNatClampNeg) = 0 then (if (i / (6 : Int32)) = (i - i / (6 : Int32) * (6 : Int32)) then (f_M_draw_lp28 σ x n (i + 1) (kup σ1 4 (i).toNatClampNeg (vp_nar .boolean (0 : Int32)))) else (if (σ1 6 ((i / (6 : Int32))).toNatClampNeg) = 0 then (f_M_draw_lp28 σ x n (i + 1) (kup σ1 4 (i).toNatClampNeg (vp_nar .boolean (0 : Int32)))) else (if (σ1 6 ((i - i / (6 : Int32) * (6 : Int32))).toNatClampNeg) = 0 then (f_M_draw_lp28 σ x n (i + 1) (kup σ1 4 (i).toNatClampNeg (vp_nar .boolean (0 : Int32)))) else (f_M_draw_lp28 σ x n (i + 1) (kup σ1 4 (i).toNatClampNeg (vp_nar .boolean (1 : Int32))))))) else (f_M_draw_lp28 σ x n (i + 1) (kup σ1 4 (i).toNatClampNeg (vp_nar .boolean (1 : Int32)))))
theorem f_M_draw_lp28_z (σ : Nat → Nat → Int32) (x : Int32) (i : Int32) (σ1 : Nat → Nat → Int32) : f_M_draw_lp28 σ x 0 i σ1 = (kup (kup σ1 5 (x).toNatClampNeg (f_M_colour σ1 x)) 7 5 (((kup σ1 5 (x).toNatClampNeg (f_M_colour σ1 x)) 7 5) + (1 : Int32))) := rfl
theorem f_M_draw_lp28_s (σ : Nat → Nat → Int32) (x : Int32) (n : Nat) (i : Int32) (σ1 : Nat → Nat → Int32) : f_M_draw_lp28 σ x (n + 1) i σ1 = (if (σ1 4 (i).toNatClampNeg) = 0 then (if (i / (6 : Int32)) = (i - i / (6 : Int32) * (6 : Int32)) then (f_M_draw_lp28 σ x n (i + 1) (kup σ1 4 (i).toNatClampNeg (vp_nar .boolean (0 : Int32)))) else (if (σ1 6 ((i / (6 : Int32))).toNatClampNeg) = 0 then (f_M_draw_lp28 σ x n (i + 1) (kup σ1 4 (i).toNatClampNeg (vp_nar .boolean (0 : Int32)))) else (if (σ1 6 ((i - i / (6 : Int32) * (6 : Int32))).toNatClampNeg) = 0 then (f_M_draw_lp28 σ x n (i + 1) (kup σ1 4 (i).toNatClampNeg (vp_nar .boolean (0 : Int32)))) else (f_M_draw_lp28 σ x n (i + 1) (kup σ1 4 (i).toNatClampNeg (vp_nar .boolean (1 : Int32))))))) else (f_M_draw_lp28 σ x n (i + 1) (kup σ1 4 (i).toNatClampNeg (vp_nar .boolean (1 : Int32))))) := rfl

def f_M_draw_lp2 (σ : Nat → Nat → Int32) (x : Int32) : Nat → Int32 → (Nat → Nat → Int32) → (Nat → Nat → Int32)
  | 0, i, σ1 => (f_M_draw_lp28 σ x 36 (0 : Int32) σ1)
  | n + 1, i, σ1 => (f_M_draw_lp2 σ x n (i + 1) (kup σ1 6 (i).toNatClampNeg (vp_nar .boolean (f_M_isThere σ1 i x))))
theorem f_M_draw_lp2_z (σ : Nat → Nat → Int32) (x : Int32) (i : Int32) (σ1 : Nat → Nat → Int32) : f_M_draw_lp2 σ x 0 i σ1 = (f_M_draw_lp28 σ x 36 (0 : Int32) σ1) := rfl
theorem f_M_draw_lp2_s (σ : Nat → Nat → Int32) (x : Int32) (n : Nat) (i : Int32) (σ1 : Nat → Nat → Int32) : f_M_draw_lp2 σ x (n + 1) i σ1 = (f_M_draw_lp2 σ x n (i + 1) (kup σ1 6 (i).toNatClampNeg (vp_nar .boolean (f_M_isThere σ1 i x)))) := rfl

def f_M_draw (σ : Nat → Nat → Int32) (x : Int32) : (Nat → Nat → Int32) := (f_M_draw_lp2 σ x 6 (0 : Int32) σ)

set_option maxRecDepth 100000 in
set_option maxHeartbeats 4000000 in
theorem c_M_draw (l : Launch) (D : va_G) (cA ad : Nat → Nat) (hap : kap 8 ad) (σ : Nat → Nat → Int32) (x : Int32) (h1 : vp_in x 160) : Met l y_M_draw w_M_draw ({ frames := 4, cells := 0, slots := 0, locals := 93 } : Room) (va_Pc [.ref (ad 0), .int x] (mPre D cA ad σ)) (kQv D (mw cA ad (f_M_draw σ x)) (kA 8 ad)) 0 0 (kA 8 ad) := by
  refine Met.ofW (cc := b_M_draw) (maxL := 3) (ret := none) (by decide) rfl ?_
  intro p e s m args below meth c s₁ B hml hv
  obtain ⟨rfl, hv⟩ := hv
  obtain ⟨hP, hK⟩ := hv
  have hx := B.exec
  have hb := B.bytes
  have hr := B.returns
  have hlocks := B.notSynchronized
  have hT : ∀ w ∈ TB, w.before ([.ref (ad 0), .int x] : List Value).toArray s = true := fun w h => atoms_spec (ws := w_M_draw) B.pre w (List.mem_cons_of_mem _ h)
  have hown : s.vm.findClass R_M = some m.cls := findClass_of_methodNamed B.named
  have hS : va_S (kA 8 ad) s.heap s.heap [] := va_S.rf
  have hD : ∀ σ, va_D (kA 8 ad) (mw cA ad σ) := fun σ => kD hap rfl
  have hl := lv_entry ([.ref (ad 0), .int x]) (n := 3) (Nat.le_of_ble_eq_true rfl)
  rw [lg_entry_eq]
  generalize (lg_sl ([.ref (ad 0), .int x]) ++ List.replicate (3 - (lg_sl ([.ref (ad 0), .int x])).length) Slot.unset).toArray = ls at hl ⊢
  have hl : lv_has ls 3 [(0, .ref (ad 0)), (1, .int x)] := hl
  have loop28 : ∀ (n i : Nat) (σ1 : Nat → Nat → Int32) (H : Heap) (locs : List Loc) (ls : Array Slot), i + n = 36 → lv_has ls 3 [(2, .int (nI i)), (0, .ref (ad 0)), (1, .int x)] → va_P D classes (mw cA ad σ1) H → va_S (kA 8 ad) s.heap H locs → f_M_draw_lp28 σ x n (nI i) σ1 = f_M_draw σ x → W p l e (headSpec w_M_draw ({ frames := 4, cells := 0, slots := 0, locals := 93 } : Room)).room s m ([.ref (ad 0), .int x] : List Value).toArray below meth c H locs 0 0 (MQ below (kQv D (mw cA ad (f_M_draw σ x)) (kA 8 ad)) ([.ref (ad 0), .int x] : List Value).toArray s 0 0 (kA 8 ad)) (F0 m 28 ls []) := by
    intro n
    induction n with
    | zero =>
      intro i σ1 H locs ls hi hl hP hS hg
      refine lv_iload_n hx hb d_M_draw_28 rfl (lv_at hl 0 rfl) ?_
      refine lv_bipush (v := (36 : Int32)) hx hb d_M_draw_29 (by decide) ?_
      refine lv_icmp_ge (tgt := 95) hx hb d_M_draw_31 (by decide) (fun _ => ?_) (fun h9 => absurd (nI_le (a := 36) (b := i) (by omega) (by omega)) h9)
      refine lv_aload_n hx hb d_M_draw_95 rfl (lv_at hl 1 rfl) ?_
      refine va_get (D := D) (ci := 2) (v := .ref (ad 6)) (C := R_M) (T := F_M) (N := 17) hx hb hT in_M hown hK hP 0 rfl rfl 8 (by decide) (hT _ fl_M_26) (fun _ h9 => h9) rfl d_M_draw_96 ?_
      refine lv_iload_n hx hb d_M_draw_99 rfl (lv_at hl 2 rfl) ?_
      refine lv_aload_n hx hb d_M_draw_100 rfl (lv_at hl 1 rfl) ?_
      refine lv_iload_n hx hb d_M_draw_101 rfl (lv_at hl 2 rfl) ?_
      refine vp_callSi (va_Run.run (va_runV (As := [.int x]) (rest := [.int x, .ref (ad 6)]) ⟨hx, hb, hml, hown, hT⟩ (c_M_colour l D cA ad hap σ1 x) (kCV 1 hT ml_M_101 mi_M_colour ⟨Nat.le_of_ble_eq_true rfl, Nat.le_of_ble_eq_true rfl⟩) (mpreV hK hP) rfl rfl hl.1 rfl (lv_room (Nat.le_of_ble_eq_true rfl)) d_M_draw_102 ⟨Nat.le_of_ble_eq_true rfl, Nat.le_of_ble_eq_true rfl⟩)) (fun r9 e9 => ?_)
      subst e9
      refine va_iast (A := (kA 8 ad)) hx hb hK hP (hD _) hS 6 0 rfl rfl (by first | with_reducible assumption | with_reducible exact kdiv6 (by omega) | with_reducible exact krem6 (by omega) | with_reducible exact vp_in_nI (by omega) (by decide)) d_M_draw_105 (fun H locs hP _ hS => ?_)
      have hP := kst (mw_s6 cA ad σ1 (x).toNatClampNeg (f_M_colour σ1 x)) hP
      refine lv_aload_n hx hb d_M_draw_106 rfl (lv_at hl 1 rfl) ?_
      refine lv_dup hx hb d_M_draw_107 rfl ?_
      refine va_get (D := D) (ci := 2) (v := .int ((kup σ1 5 (x).toNatClampNeg (f_M_colour σ1 x)) 7 5)) (C := R_M) (T := F_M) (N := 17) hx hb hT in_M hown hK hP 0 rfl rfl 12 (by decide) (hT _ fl_M_104) (fun _ h9 => h9) rfl d_M_draw_108 ?_
      refine lv_iconst (v := (1 : Int32)) hx hb d_M_draw_111 (by decide) ?_
      refine lv_iadd hx hb d_M_draw_112 ?_
      refine va_put (A := (kA 8 ad)) (D := D) (ci := 2) (v := .int (((kup σ1 5 (x).toNatClampNeg (f_M_colour σ1 x)) 7 5) + (1 : Int32))) (ty := .int) (C := R_M) (T := F_M) (N := 17) hx hb hT in_M ft_M ft_M_ok n_M hown hK hP (hD _) hS 0 rfl rfl 12 (by decide) (hT _ fl_M_104) (fun _ h9 => h9) rfl (by decide +kernel) rfl rfl (Nat.le_of_ble_eq_true rfl) d_M_draw_113 (fun H locs hP _ hS => ?_)
      have hP := kst (mw_p0_12 cA ad (kup σ1 5 (x).toNatClampNeg (f_M_colour σ1 x)) (((kup σ1 5 (x).toNatClampNeg (f_M_colour σ1 x)) 7 5) + (1 : Int32))) hP
      have e9 : (kup (kup σ1 5 (x).toNatClampNeg (f_M_colour σ1 x)) 7 5 (((kup σ1 5 (x).toNatClampNeg (f_M_colour σ1 x)) 7 5) + (1 : Int32))) = f_M_draw σ x := by rw [← hg, f_M_draw_lp28_z]
      exact W.vret hx hb hr (fun t ht hW => ⟨rfl, by rw [ht, ← e9]; exact hP, hS.F ht⟩) hS.2.2 d_M_draw_116
    | succ n ih =>
      intro i σ1 H locs ls hi hl hP hS hg
      refine lv_iload_n hx hb d_M_draw_28 rfl (lv_at hl 0 rfl) ?_
      refine lv_bipush (v := (36 : Int32)) hx hb d_M_draw_29 (by decide) ?_
      refine lv_icmp_ge (tgt := 95) hx hb d_M_draw_31 (by decide) (fun h9 => absurd h9 (nI_ge (a := i) (b := 36) (by omega) (by decide))) (fun _ => ?_)
      refine lv_aload_n hx hb d_M_draw_34 rfl (lv_at hl 1 rfl) ?_
      refine va_get (D := D) (ci := 2) (v := .ref (ad 5)) (C := R_M) (T := F_M) (N := 17) hx hb hT in_M hown hK hP 0 rfl rfl 7 (by decide) (hT _ fl_M_22) (fun _ h9 => h9) rfl d_M_draw_35 ?_
      refine lv_iload_n hx hb d_M_draw_38 rfl (lv_at hl 0 rfl) ?_
      refine lv_aload_n hx hb d_M_draw_39 rfl (lv_at hl 1 rfl) ?_
      refine va_get (D := D) (ci := 2) (v := .ref (ad 5)) (C := R_M) (T := F_M) (N := 17) hx hb hT in_M hown hK hP 0 rfl rfl 7 (by decide) (hT _ fl_M_22) (fun _ h9 => h9) rfl d_M_draw_40 ?_
      refine lv_iload_n hx hb d_M_draw_43 rfl (lv_at hl 0 rfl) ?_
      refine va_zald hx hb hK hP 5 1 rfl rfl (by first | with_reducible assumption | with_reducible exact kdiv6 (by omega) | with_reducible exact krem6 (by omega) | with_reducible exact vp_in_nI (by omega) (by decide)) d_M_draw_44 ?_
      refine lv_if_ne (tgt := 83) hx hb d_M_draw_45 (by decide) (fun q1 => ?_) (fun q1 => ?_)
      · refine lv_iconst (v := (1 : Int32)) hx hb d_M_draw_83 (by decide) ?_
        refine lv_goto (tgt := 88) hx hb d_M_draw_84 (by decide) ?_
        refine va_zast (A := (kA 8 ad)) hx hb hK hP (hD _) hS 5 1 rfl rfl (by first | with_reducible assumption | with_reducible exact kdiv6 (by omega) | with_reducible exact krem6 (by omega) | with_reducible exact vp_in_nI (by omega) (by decide)) d_M_draw_88 (fun H locs hP _ hS => ?_)
        have hP := kst (mw_s5 cA ad σ1 ((nI i)).toNatClampNeg (vp_nar .boolean (1 : Int32))) hP
        refine lv_iinc (v := (nI (i + 1))) (lv' := [(2, .int (nI (i + 1))), (0, .ref (ad 0)), (1, .int x)]) hx hb d_M_draw_89 hl (k := 0) rfl (by rw [nI_succ]; rfl) (by decide) rfl (fun ls hl => ?_)
        refine lv_goto (tgt := 28) hx hb d_M_draw_92 (by decide) ?_
        exact ih (i + 1) (kup σ1 4 ((nI i)).toNatClampNeg (vp_nar .boolean (1 : Int32))) H locs ls (by omega) (lv_sub hl [0, 1, 2] rfl) hP hS (by rw [← hg, f_M_draw_lp28_s, if_neg q1, nI_succ])
      · refine lv_iload_n hx hb d_M_draw_48 rfl (lv_at hl 0 rfl) ?_
        refine lv_bipush (v := (6 : Int32)) hx hb d_M_draw_49 (by decide) ?_
        refine lv_idiv hx hb d_M_draw_51 (by decide) ?_
        refine lv_iload_n hx hb d_M_draw_52 rfl (lv_at hl 0 rfl) ?_
        refine lv_bipush (v := (6 : Int32)) hx hb d_M_draw_53 (by decide) ?_
        refine lv_irem hx hb d_M_draw_55 (by decide) ?_
        refine lv_icmp_eq (tgt := 87) hx hb d_M_draw_56 (by decide) (fun q2 => ?_) (fun q2 => ?_)
        · refine lv_iconst (v := (0 : Int32)) hx hb d_M_draw_87 (by decide) ?_
          refine va_zast (A := (kA 8 ad)) hx hb hK hP (hD _) hS 5 1 rfl rfl (by first | with_reducible assumption | with_reducible exact kdiv6 (by omega) | with_reducible exact krem6 (by omega) | with_reducible exact vp_in_nI (by omega) (by decide)) d_M_draw_88 (fun H locs hP _ hS => ?_)
          have hP := kst (mw_s5 cA ad σ1 ((nI i)).toNatClampNeg (vp_nar .boolean (0 : Int32))) hP
          refine lv_iinc (v := (nI (i + 1))) (lv' := [(2, .int (nI (i + 1))), (0, .ref (ad 0)), (1, .int x)]) hx hb d_M_draw_89 hl (k := 0) rfl (by rw [nI_succ]; rfl) (by decide) rfl (fun ls hl => ?_)
          refine lv_goto (tgt := 28) hx hb d_M_draw_92 (by decide) ?_
          exact ih (i + 1) (kup σ1 4 ((nI i)).toNatClampNeg (vp_nar .boolean (0 : Int32))) H locs ls (by omega) (lv_sub hl [0, 1, 2] rfl) hP hS (by rw [← hg, f_M_draw_lp28_s, if_pos q1, if_pos q2, nI_succ])
        · refine lv_aload_n hx hb d_M_draw_59 rfl (lv_at hl 1 rfl) ?_
          refine va_get (D := D) (ci := 2) (v := .ref (ad 7)) (C := R_M) (T := F_M) (N := 17) hx hb hT in_M hown hK hP 0 rfl rfl 9 (by decide) (hT _ fl_M_29) (fun _ h9 => h9) rfl d_M_draw_60 ?_
          refine lv_iload_n hx hb d_M_draw_63 rfl (lv_at hl 0 rfl) ?_
          refine lv_bipush (v := (6 : Int32)) hx hb d_M_draw_64 (by decide) ?_
          refine lv_idiv hx hb d_M_draw_66 (by decide) ?_
          refine va_zald hx hb hK hP 7 1 rfl rfl (by first | with_reducible assumption | with_reducible exact kdiv6 (by omega) | with_reducible exact krem6 (by omega) | with_reducible exact vp_in_nI (by omega) (by decide)) d_M_draw_67 ?_
          refine lv_if_eq (tgt := 87) hx hb d_M_draw_68 (by decide) (fun q3 => ?_) (fun q3 => ?_)
          · refine lv_iconst (v := (0 : Int32)) hx hb d_M_draw_87 (by decide) ?_
            refine va_zast (A := (kA 8 ad)) hx hb hK hP (hD _) hS 5 1 rfl rfl (by first | with_reducible assumption | with_reducible exact kdiv6 (by omega) | with_reducible exact krem6 (by omega) | with_reducible exact vp_in_nI (by omega) (by decide)) d_M_draw_88 (fun H locs hP _ hS => ?_)
            have hP := kst (mw_s5 cA ad σ1 ((nI i)).toNatClampNeg (vp_nar .boolean (0 : Int32))) hP
            refine lv_iinc (v := (nI (i + 1))) (lv' := [(2, .int (nI (i + 1))), (0, .ref (ad 0)), (1, .int x)]) hx hb d_M_draw_89 hl (k := 0) rfl (by rw [nI_succ]; rfl) (by decide) rfl (fun ls hl => ?_)
            refine lv_goto (tgt := 28) hx hb d_M_draw_92 (by decide) ?_
            exact ih (i + 1) (kup σ1 4 ((nI i)).toNatClampNeg (vp_nar .boolean (0 : Int32))) H locs ls (by omega) (lv_sub hl [0, 1, 2] rfl) hP hS (by rw [← hg, f_M_draw_lp28_s, if_pos q1, if_neg q2, if_pos q3, nI_succ])
          · refine lv_aload_n hx hb d_M_draw_71 rfl (lv_at hl 1 rfl) ?_
            refine va_get (D := D) (ci := 2) (v := .ref (ad 7)) (C := R_M) (T := F_M) (N := 17) hx hb hT in_M hown hK hP 0 rfl rfl 9 (by decide) (hT _ fl_M_29) (fun _ h9 => h9) rfl d_M_draw_72 ?_
            refine lv_iload_n hx hb d_M_draw_75 rfl (lv_at hl 0 rfl) ?_
            refine lv_bipush (v := (6 : Int32)) hx hb d_M_draw_76 (by decide) ?_
            refine lv_irem hx hb d_M_draw_78 (by decide) ?_
            refine va_zald hx hb hK hP 7 1 rfl rfl (by first | with_reducible assumption | with_reducible exact kdiv6 (by omega) | with_reducible exact krem6 (by omega) | with_reducible exact vp_in_nI (by omega) (by decide)) d_M_draw_79 ?_
            refine lv_if_eq (tgt := 87) hx hb d_M_draw_80 (by decide) (fun q4 => ?_) (fun q4 => ?_)
            · refine lv_iconst (v := (0 : Int32)) hx hb d_M_draw_87 (by decide) ?_
              refine va_zast (A := (kA 8 ad)) hx hb hK hP (hD _) hS 5 1 rfl rfl (by first | with_reducible assumption | with_reducible exact kdiv6 (by omega) | with_reducible exact krem6 (by omega) | with_reducible exact vp_in_nI (by omega) (by decide)) d_M_draw_88 (fun H locs hP _ hS => ?_)
              have hP := kst (mw_s5 cA ad σ1 ((nI i)).toNatClampNeg (vp_nar .boolean (0 : Int32))) hP
              refine lv_iinc (v := (nI (i + 1))) (lv' := [(2, .int (nI (i + 1))), (0, .ref (ad 0)), (1, .int x)]) hx hb d_M_draw_89 hl (k := 0) rfl (by rw [nI_succ]; rfl) (by decide) rfl (fun ls hl => ?_)
              refine lv_goto (tgt := 28) hx hb d_M_draw_92 (by decide) ?_
              exact ih (i + 1) (kup σ1 4 ((nI i)).toNatClampNeg (vp_nar .boolean (0 : Int32))) H locs ls (by omega) (lv_sub hl [0, 1, 2] rfl) hP hS (by rw [← hg, f_M_draw_lp28_s, if_pos q1, if_neg q2, if_neg q3, if_pos q4, nI_succ])
            · refine lv_iconst (v := (1 : Int32)) hx hb d_M_draw_83 (by decide) ?_
              refine lv_goto (tgt := 88) hx hb d_M_draw_84 (by decide) ?_
              refine va_zast (A := (kA 8 ad)) hx hb hK hP (hD _) hS 5 1 rfl rfl (by first | with_reducible assumption | with_reducible exact kdiv6 (by omega) | with_reducible exact krem6 (by omega) | with_reducible exact vp_in_nI (by omega) (by decide)) d_M_draw_88 (fun H locs hP _ hS => ?_)
              have hP := kst (mw_s5 cA ad σ1 ((nI i)).toNatClampNeg (vp_nar .boolean (1 : Int32))) hP
              refine lv_iinc (v := (nI (i + 1))) (lv' := [(2, .int (nI (i + 1))), (0, .ref (ad 0)), (1, .int x)]) hx hb d_M_draw_89 hl (k := 0) rfl (by rw [nI_succ]; rfl) (by decide) rfl (fun ls hl => ?_)
              refine lv_goto (tgt := 28) hx hb d_M_draw_92 (by decide) ?_
              exact ih (i + 1) (kup σ1 4 ((nI i)).toNatClampNeg (vp_nar .boolean (1 : Int32))) H locs ls (by omega) (lv_sub hl [0, 1, 2] rfl) hP hS (by rw [← hg, f_M_draw_lp28_s, if_pos q1, if_neg q2, if_neg q3, if_neg q4, nI_succ])
  have loop2 : ∀ (n i : Nat) (σ1 : Nat → Nat → Int32) (H : Heap) (locs : List Loc) (ls : Array Slot), i + n = 6 → lv_has ls 3 [(2, .int (nI i)), (0, .ref (ad 0)), (1, .int x)] → va_P D classes (mw cA ad σ1) H → va_S (kA 8 ad) s.heap H locs → f_M_draw_lp2 σ x n (nI i) σ1 = f_M_draw σ x → W p l e (headSpec w_M_draw ({ frames := 4, cells := 0, slots := 0, locals := 93 } : Room)).room s m ([.ref (ad 0), .int x] : List Value).toArray below meth c H locs 0 0 (MQ below (kQv D (mw cA ad (f_M_draw σ x)) (kA 8 ad)) ([.ref (ad 0), .int x] : List Value).toArray s 0 0 (kA 8 ad)) (F0 m 2 ls []) := by
    intro n
    induction n with
    | zero =>
      intro i σ1 H locs ls hi hl hP hS hg
      refine lv_iload_n hx hb d_M_draw_2 rfl (lv_at hl 0 rfl) ?_
      refine lv_bipush (v := (6 : Int32)) hx hb d_M_draw_3 (by decide) ?_
      refine lv_icmp_ge (tgt := 26) hx hb d_M_draw_5 (by decide) (fun _ => ?_) (fun h9 => absurd (nI_le (a := 6) (b := i) (by omega) (by omega)) h9)
      refine lv_iconst (v := (0 : Int32)) hx hb d_M_draw_26 (by decide) ?_
      refine lv_istore_n (lv' := [(2, .int (0 : Int32)), (0, .ref (ad 0)), (1, .int x)]) hx hb d_M_draw_27 rfl hl (by decide) rfl (fun ls hl => ?_)
      exact loop28 36 0 σ1 H locs ls rfl (lv_sub hl [0, 1, 2] rfl) hP hS (by rw [← hg, f_M_draw_lp2_z]; rfl)
    | succ n ih =>
      intro i σ1 H locs ls hi hl hP hS hg
      refine lv_iload_n hx hb d_M_draw_2 rfl (lv_at hl 0 rfl) ?_
      refine lv_bipush (v := (6 : Int32)) hx hb d_M_draw_3 (by decide) ?_
      refine lv_icmp_ge (tgt := 26) hx hb d_M_draw_5 (by decide) (fun h9 => absurd h9 (nI_ge (a := i) (b := 6) (by omega) (by decide))) (fun _ => ?_)
      refine lv_aload_n hx hb d_M_draw_8 rfl (lv_at hl 1 rfl) ?_
      refine va_get (D := D) (ci := 2) (v := .ref (ad 7)) (C := R_M) (T := F_M) (N := 17) hx hb hT in_M hown hK hP 0 rfl rfl 9 (by decide) (hT _ fl_M_29) (fun _ h9 => h9) rfl d_M_draw_9 ?_
      refine lv_iload_n hx hb d_M_draw_12 rfl (lv_at hl 0 rfl) ?_
      refine lv_aload_n hx hb d_M_draw_13 rfl (lv_at hl 1 rfl) ?_
      refine lv_iload_n hx hb d_M_draw_14 rfl (lv_at hl 0 rfl) ?_
      refine lv_iload_n hx hb d_M_draw_15 rfl (lv_at hl 2 rfl) ?_
      refine vp_callSi (va_Run.run (va_runV (As := [.int (nI i), .int x]) (rest := [.int (nI i), .ref (ad 7)]) ⟨hx, hb, hml, hown, hT⟩ (c_M_isThere l D cA ad hap σ1 (nI i) x (by first | with_reducible assumption | with_reducible exact kdiv6 (by omega) | with_reducible exact krem6 (by omega) | with_reducible exact vp_in_nI (by omega) (by decide))) (kCV 2 hT ml_M_98 mi_M_isThere ⟨Nat.le_of_ble_eq_true rfl, Nat.le_of_ble_eq_true rfl⟩) (mpreV hK hP) rfl rfl hl.1 rfl (lv_room (Nat.le_of_ble_eq_true rfl)) d_M_draw_16 ⟨Nat.le_of_ble_eq_true rfl, Nat.le_of_ble_eq_true rfl⟩)) (fun r9 e9 => ?_)
      subst e9
      refine va_zast (A := (kA 8 ad)) hx hb hK hP (hD _) hS 7 1 rfl rfl (by first | with_reducible assumption | with_reducible exact kdiv6 (by omega) | with_reducible exact krem6 (by omega) | with_reducible exact vp_in_nI (by omega) (by decide)) d_M_draw_19 (fun H locs hP _ hS => ?_)
      have hP := kst (mw_s7 cA ad σ1 ((nI i)).toNatClampNeg (vp_nar .boolean (f_M_isThere σ1 (nI i) x))) hP
      refine lv_iinc (v := (nI (i + 1))) (lv' := [(2, .int (nI (i + 1))), (0, .ref (ad 0)), (1, .int x)]) hx hb d_M_draw_20 hl (k := 0) rfl (by rw [nI_succ]; rfl) (by decide) rfl (fun ls hl => ?_)
      refine lv_goto (tgt := 2) hx hb d_M_draw_23 (by decide) ?_
      exact ih (i + 1) (kup σ1 6 ((nI i)).toNatClampNeg (vp_nar .boolean (f_M_isThere σ1 (nI i) x))) H locs ls (by omega) (lv_sub hl [0, 1, 2] rfl) hP hS (by rw [← hg, f_M_draw_lp2_s, nI_succ])
  refine lv_iconst (v := (0 : Int32)) hx hb d_M_draw_0 (by decide) ?_
  refine lv_istore_n (lv' := [(2, .int (0 : Int32)), (0, .ref (ad 0)), (1, .int x)]) hx hb d_M_draw_1 rfl hl (by decide) rfl (fun ls hl => ?_)
  exact loop2 6 0 σ s.heap [] ls rfl (lv_sub hl [0, 1, 2] rfl) hP hS (by rw [f_M_draw]; rfl)

def f_M_timer (σ : Nat → Nat → Int32) : (Nat → Nat → Int32) := (if ((3 : Int32) * ((kup σ 7 8 ((σ 7 8) + (1 : Int32))) 7 7)) ≤ ((σ 7 8) + (1 : Int32)) then (if 0 ≤ (((kup (kup σ 7 8 ((σ 7 8) + (1 : Int32))) 7 8 (0 : Int32)) 7 6) - (1 : Int32)) then (kup (kup (kup σ 7 8 ((σ 7 8) + (1 : Int32))) 7 8 (0 : Int32)) 7 6 (((kup (kup σ 7 8 ((σ 7 8) + (1 : Int32))) 7 8 (0 : Int32)) 7 6) - (1 : Int32))) else (kup (kup (kup (kup (kup (kup σ 7 8 ((σ 7 8) + (1 : Int32))) 7 8 (0 : Int32)) 7 6 (((kup (kup σ 7 8 ((σ 7 8) + (1 : Int32))) 7 8 (0 : Int32)) 7 6) - (1 : Int32))) 7 6 (255 : Int32)) 7 9 (1 : Int32)) 7 7 (1 : Int32))) else (kup σ 7 8 ((σ 7 8) + (1 : Int32))))

set_option maxRecDepth 100000 in
set_option maxHeartbeats 4000000 in
theorem c_M_timer (l : Launch) (D : va_G) (cA ad : Nat → Nat) (hap : kap 8 ad) (σ : Nat → Nat → Int32) : Met l y_M_timer w_M_timer ({ frames := 0, cells := 0, slots := 0, locals := 0 } : Room) (va_Pc [.ref (ad 0)] (mPre D cA ad σ)) (kQv D (mw cA ad (f_M_timer σ)) (kA 8 ad)) 0 0 (kA 8 ad) := by
  refine Met.ofW (cc := b_M_timer) (maxL := 1) (ret := none) (by decide) rfl ?_
  intro p e s m args below meth c s₁ B hml hv
  obtain ⟨rfl, hv⟩ := hv
  obtain ⟨hP, hK⟩ := hv
  have hx := B.exec
  have hb := B.bytes
  have hr := B.returns
  have hlocks := B.notSynchronized
  have hT : ∀ w ∈ TB, w.before ([.ref (ad 0)] : List Value).toArray s = true := fun w h => atoms_spec (ws := w_M_timer) B.pre w (List.mem_cons_of_mem _ h)
  have hown : s.vm.findClass R_M = some m.cls := findClass_of_methodNamed B.named
  have hS : va_S (kA 8 ad) s.heap s.heap [] := va_S.rf
  have hD : ∀ σ, va_D (kA 8 ad) (mw cA ad σ) := fun σ => kD hap rfl
  have hl := lv_entry ([.ref (ad 0)]) (n := 1) (Nat.le_of_ble_eq_true rfl)
  rw [lg_entry_eq]
  generalize (lg_sl ([.ref (ad 0)]) ++ List.replicate (1 - (lg_sl ([.ref (ad 0)])).length) Slot.unset).toArray = ls at hl ⊢
  have hl : lv_has ls 1 [(0, .ref (ad 0))] := hl
  refine lv_aload_n hx hb d_M_timer_0 rfl (lv_at hl 0 rfl) ?_
  refine lv_dup hx hb d_M_timer_1 rfl ?_
  refine va_get (D := D) (ci := 2) (v := .int (σ 7 8)) (C := R_M) (T := F_M) (N := 17) hx hb hT in_M hown hK hP 0 rfl rfl 15 (by decide) (hT _ fl_M_107) (fun _ h9 => h9) rfl d_M_timer_2 ?_
  refine lv_iconst (v := (1 : Int32)) hx hb d_M_timer_5 (by decide) ?_
  refine lv_iadd hx hb d_M_timer_6 ?_
  refine va_put (A := (kA 8 ad)) (D := D) (ci := 2) (v := .int ((σ 7 8) + (1 : Int32))) (ty := .int) (C := R_M) (T := F_M) (N := 17) hx hb hT in_M ft_M ft_M_ok n_M hown hK hP (hD _) hS 0 rfl rfl 15 (by decide) (hT _ fl_M_107) (fun _ h9 => h9) rfl (by decide +kernel) rfl rfl (Nat.le_of_ble_eq_true rfl) d_M_timer_7 (fun H locs hP _ hS => ?_)
  have hP := kst (mw_p0_15 cA ad σ ((σ 7 8) + (1 : Int32))) hP
  refine lv_aload_n hx hb d_M_timer_10 rfl (lv_at hl 0 rfl) ?_
  refine va_get (D := D) (ci := 2) (v := .int ((σ 7 8) + (1 : Int32))) (C := R_M) (T := F_M) (N := 17) hx hb hT in_M hown hK hP 0 rfl rfl 15 (by decide) (hT _ fl_M_107) (fun _ h9 => h9) rfl d_M_timer_11 ?_
  refine lv_iconst (v := (3 : Int32)) hx hb d_M_timer_14 (by decide) ?_
  refine lv_aload_n hx hb d_M_timer_15 rfl (lv_at hl 0 rfl) ?_
  refine va_get (D := D) (ci := 2) (v := .int ((kup σ 7 8 ((σ 7 8) + (1 : Int32))) 7 7)) (C := R_M) (T := F_M) (N := 17) hx hb hT in_M hown hK hP 0 rfl rfl 14 (by decide) (hT _ fl_M_32) (fun _ h9 => h9) rfl d_M_timer_16 ?_
  refine lv_imul hx hb d_M_timer_19 ?_
  refine lv_icmp_ge (tgt := 24) hx hb d_M_timer_20 (by decide) (fun q1 => ?_) (fun q1 => ?_)
  · refine lv_aload_n hx hb d_M_timer_24 rfl (lv_at hl 0 rfl) ?_
    refine lv_iconst (v := (0 : Int32)) hx hb d_M_timer_25 (by decide) ?_
    refine va_put (A := (kA 8 ad)) (D := D) (ci := 2) (v := .int (0 : Int32)) (ty := .int) (C := R_M) (T := F_M) (N := 17) hx hb hT in_M ft_M ft_M_ok n_M hown hK hP (hD _) hS 0 rfl rfl 15 (by decide) (hT _ fl_M_107) (fun _ h9 => h9) rfl (by decide +kernel) rfl rfl (Nat.le_of_ble_eq_true rfl) d_M_timer_26 (fun H locs hP _ hS => ?_)
    have hP := kst (mw_p0_15 cA ad (kup σ 7 8 ((σ 7 8) + (1 : Int32))) (0 : Int32)) hP
    refine lv_aload_n hx hb d_M_timer_29 rfl (lv_at hl 0 rfl) ?_
    refine lv_dup hx hb d_M_timer_30 rfl ?_
    refine va_get (D := D) (ci := 2) (v := .int ((kup (kup σ 7 8 ((σ 7 8) + (1 : Int32))) 7 8 (0 : Int32)) 7 6)) (C := R_M) (T := F_M) (N := 17) hx hb hT in_M hown hK hP 0 rfl rfl 13 (by decide) (hT _ fl_M_110) (fun _ h9 => h9) rfl d_M_timer_31 ?_
    refine lv_iconst (v := (1 : Int32)) hx hb d_M_timer_34 (by decide) ?_
    refine lv_isub hx hb d_M_timer_35 ?_
    refine va_put (A := (kA 8 ad)) (D := D) (ci := 2) (v := .int (((kup (kup σ 7 8 ((σ 7 8) + (1 : Int32))) 7 8 (0 : Int32)) 7 6) - (1 : Int32))) (ty := .int) (C := R_M) (T := F_M) (N := 17) hx hb hT in_M ft_M ft_M_ok n_M hown hK hP (hD _) hS 0 rfl rfl 13 (by decide) (hT _ fl_M_110) (fun _ h9 => h9) rfl (by decide +kernel) rfl rfl (Nat.le_of_ble_eq_true rfl) d_M_timer_36 (fun H locs hP _ hS => ?_)
    have hP := kst (mw_p0_13 cA ad (kup (kup σ 7 8 ((σ 7 8) + (1 : Int32))) 7 8 (0 : Int32)) (((kup (kup σ 7 8 ((σ 7 8) + (1 : Int32))) 7 8 (0 : Int32)) 7 6) - (1 : Int32))) hP
    refine lv_aload_n hx hb d_M_timer_39 rfl (lv_at hl 0 rfl) ?_
    refine va_get (D := D) (ci := 2) (v := .int (((kup (kup σ 7 8 ((σ 7 8) + (1 : Int32))) 7 8 (0 : Int32)) 7 6) - (1 : Int32))) (C := R_M) (T := F_M) (N := 17) hx hb hT in_M hown hK hP 0 rfl rfl 13 (by decide) (hT _ fl_M_110) (fun _ h9 => h9) rfl d_M_timer_40 ?_
    refine lv_if_ge (tgt := 63) hx hb d_M_timer_43 (by decide) (fun q2 => ?_) (fun q2 => ?_)
    · have e9 : (kup (kup (kup σ 7 8 ((σ 7 8) + (1 : Int32))) 7 8 (0 : Int32)) 7 6 (((kup (kup σ 7 8 ((σ 7 8) + (1 : Int32))) 7 8 (0 : Int32)) 7 6) - (1 : Int32))) = f_M_timer σ := by rw [f_M_timer, if_pos q1, if_pos q2]
      exact W.vret hx hb hr (fun t ht hW => ⟨rfl, by rw [ht, ← e9]; exact hP, hS.F ht⟩) hS.2.2 d_M_timer_63
    · refine lv_aload_n hx hb d_M_timer_46 rfl (lv_at hl 0 rfl) ?_
      refine lv_sipush (v := (255 : Int32)) hx hb d_M_timer_47 (by decide) ?_
      refine va_put (A := (kA 8 ad)) (D := D) (ci := 2) (v := .int (255 : Int32)) (ty := .int) (C := R_M) (T := F_M) (N := 17) hx hb hT in_M ft_M ft_M_ok n_M hown hK hP (hD _) hS 0 rfl rfl 13 (by decide) (hT _ fl_M_110) (fun _ h9 => h9) rfl (by decide +kernel) rfl rfl (Nat.le_of_ble_eq_true rfl) d_M_timer_50 (fun H locs hP _ hS => ?_)
      have hP := kst (mw_p0_13 cA ad (kup (kup (kup σ 7 8 ((σ 7 8) + (1 : Int32))) 7 8 (0 : Int32)) 7 6 (((kup (kup σ 7 8 ((σ 7 8) + (1 : Int32))) 7 8 (0 : Int32)) 7 6) - (1 : Int32))) (255 : Int32)) hP
      refine lv_aload_n hx hb d_M_timer_53 rfl (lv_at hl 0 rfl) ?_
      refine lv_iconst (v := (1 : Int32)) hx hb d_M_timer_54 (by decide) ?_
      refine va_put (A := (kA 8 ad)) (D := D) (ci := 2) (v := .int (1 : Int32)) (ty := .boolean) (C := R_M) (T := F_M) (N := 17) hx hb hT in_M ft_M ft_M_ok n_M hown hK hP (hD _) hS 0 rfl rfl 16 (by decide) (hT _ fl_M_113) (fun _ h9 => h9) rfl (by decide +kernel) (by decide) (by decide) (Nat.le_of_ble_eq_true rfl) d_M_timer_55 (fun H locs hP _ hS => ?_)
      have hP := kst (mw_p0_16 cA ad (kup (kup (kup (kup σ 7 8 ((σ 7 8) + (1 : Int32))) 7 8 (0 : Int32)) 7 6 (((kup (kup σ 7 8 ((σ 7 8) + (1 : Int32))) 7 8 (0 : Int32)) 7 6) - (1 : Int32))) 7 6 (255 : Int32)) (1 : Int32)) hP
      refine lv_aload_n hx hb d_M_timer_58 rfl (lv_at hl 0 rfl) ?_
      refine lv_iconst (v := (1 : Int32)) hx hb d_M_timer_59 (by decide) ?_
      refine va_put (A := (kA 8 ad)) (D := D) (ci := 2) (v := .int (1 : Int32)) (ty := .int) (C := R_M) (T := F_M) (N := 17) hx hb hT in_M ft_M ft_M_ok n_M hown hK hP (hD _) hS 0 rfl rfl 14 (by decide) (hT _ fl_M_32) (fun _ h9 => h9) rfl (by decide +kernel) rfl rfl (Nat.le_of_ble_eq_true rfl) d_M_timer_60 (fun H locs hP _ hS => ?_)
      have hP := kst (mw_p0_14 cA ad (kup (kup (kup (kup (kup σ 7 8 ((σ 7 8) + (1 : Int32))) 7 8 (0 : Int32)) 7 6 (((kup (kup σ 7 8 ((σ 7 8) + (1 : Int32))) 7 8 (0 : Int32)) 7 6) - (1 : Int32))) 7 6 (255 : Int32)) 7 9 (1 : Int32)) (1 : Int32)) hP
      have e9 : (kup (kup (kup (kup (kup (kup σ 7 8 ((σ 7 8) + (1 : Int32))) 7 8 (0 : Int32)) 7 6 (((kup (kup σ 7 8 ((σ 7 8) + (1 : Int32))) 7 8 (0 : Int32)) 7 6) - (1 : Int32))) 7 6 (255 : Int32)) 7 9 (1 : Int32)) 7 7 (1 : Int32)) = f_M_timer σ := by rw [f_M_timer, if_pos q1, if_neg q2]
      exact W.vret hx hb hr (fun t ht hW => ⟨rfl, by rw [ht, ← e9]; exact hP, hS.F ht⟩) hS.2.2 d_M_timer_63
  · have e9 : (kup σ 7 8 ((σ 7 8) + (1 : Int32))) = f_M_timer σ := by rw [f_M_timer, if_neg q1]
    exact W.vret hx hb hr (fun t ht hW => ⟨rfl, by rw [ht, ← e9]; exact hP, hS.F ht⟩) hS.2.2 d_M_timer_23

theorem md28 (σ : Nat → Nat → Int32) (x : Int32) (n : Nat) : ∀ (i : Int32) (σ1 : Nat → Nat → Int32), f_M_draw_lp28 σ x n i σ1 7 3 = σ1 7 3 := by
  induction n with
  | zero => intro i σ1; rw [f_M_draw_lp28_z]; rfl
  | succ n ih =>
    intro i σ1
    rw [f_M_draw_lp28_s]
    repeat' split
    all_goals exact ih _ _
theorem md2 (σ : Nat → Nat → Int32) (x : Int32) (n : Nat) : ∀ (i : Int32) (σ1 : Nat → Nat → Int32), f_M_draw_lp2 σ x n i σ1 7 3 = σ1 7 3 := by
  induction n with
  | zero => intro i σ1; rw [f_M_draw_lp2_z, md28]
  | succ n ih =>
    intro i σ1
    rw [f_M_draw_lp2_s]
    exact ih _ _
theorem mtimer3 (X : Nat → Nat → Int32) : f_M_timer X 7 3 = X 7 3 := by
  rw [f_M_timer]
  repeat' split
  all_goals rfl
def f_M_oneClock (σ : Nat → Nat → Int32) : (Nat → Nat → Int32) := (if (σ 7 3) < (68 : Int32) then (if (((f_M_timer σ) 7 3) + (1 : Int32)) = (228 : Int32) then (kup (kup (kup (f_M_timer σ) 7 3 (((f_M_timer σ) 7 3) + (1 : Int32))) 7 3 (0 : Int32)) 7 4 (((kup (kup (f_M_timer σ) 7 3 (((f_M_timer σ) 7 3) + (1 : Int32))) 7 3 (0 : Int32)) 7 4) + (1 : Int32))) else (kup (f_M_timer σ) 7 3 (((f_M_timer σ) 7 3) + (1 : Int32)))) else (if (((f_M_timer (f_M_draw σ ((σ 7 3) - (68 : Int32)))) 7 3) + (1 : Int32)) = (228 : Int32) then (kup (kup (kup (f_M_timer (f_M_draw σ ((σ 7 3) - (68 : Int32)))) 7 3 (((f_M_timer (f_M_draw σ ((σ 7 3) - (68 : Int32)))) 7 3) + (1 : Int32))) 7 3 (0 : Int32)) 7 4 (((kup (kup (f_M_timer (f_M_draw σ ((σ 7 3) - (68 : Int32)))) 7 3 (((f_M_timer (f_M_draw σ ((σ 7 3) - (68 : Int32)))) 7 3) + (1 : Int32))) 7 3 (0 : Int32)) 7 4) + (1 : Int32))) else (kup (f_M_timer (f_M_draw σ ((σ 7 3) - (68 : Int32)))) 7 3 (((f_M_timer (f_M_draw σ ((σ 7 3) - (68 : Int32)))) 7 3) + (1 : Int32)))))

set_option maxRecDepth 100000 in
set_option maxHeartbeats 4000000 in
theorem c_M_oneClock (l : Launch) (D : va_G) (cA ad : Nat → Nat) (hap : kap 8 ad) (σ : Nat → Nat → Int32) (h1 : mClk σ) : Met l y_M_oneClock w_M_oneClock ({ frames := 5, cells := 0, slots := 0, locals := 115 } : Room) (va_Pc [.ref (ad 0)] (mPre D cA ad σ)) (kQv D (mw cA ad (f_M_oneClock σ)) (kA 8 ad)) 0 0 (kA 8 ad) := by
  refine Met.ofW (cc := b_M_oneClock) (maxL := 1) (ret := none) (by decide) rfl ?_
  intro p e s m args below meth c s₁ B hml hv
  obtain ⟨rfl, hv⟩ := hv
  obtain ⟨hP, hK⟩ := hv
  have hx := B.exec
  have hb := B.bytes
  have hr := B.returns
  have hlocks := B.notSynchronized
  have hT : ∀ w ∈ TB, w.before ([.ref (ad 0)] : List Value).toArray s = true := fun w h => atoms_spec (ws := w_M_oneClock) B.pre w (List.mem_cons_of_mem _ h)
  have hown : s.vm.findClass R_M = some m.cls := findClass_of_methodNamed B.named
  have hS : va_S (kA 8 ad) s.heap s.heap [] := va_S.rf
  have hD : ∀ σ, va_D (kA 8 ad) (mw cA ad σ) := fun σ => kD hap rfl
  have hl := lv_entry ([.ref (ad 0)]) (n := 1) (Nat.le_of_ble_eq_true rfl)
  rw [lg_entry_eq]
  generalize (lg_sl ([.ref (ad 0)]) ++ List.replicate (1 - (lg_sl ([.ref (ad 0)])).length) Slot.unset).toArray = ls at hl ⊢
  have hl : lv_has ls 1 [(0, .ref (ad 0))] := hl
  refine lv_aload_n hx hb d_M_oneClock_0 rfl (lv_at hl 0 rfl) ?_
  refine va_get (D := D) (ci := 2) (v := .int (σ 7 3)) (C := R_M) (T := F_M) (N := 17) hx hb hT in_M hown hK hP 0 rfl rfl 10 (by decide) (hT _ fl_M_50) (fun _ h9 => h9) rfl d_M_oneClock_1 ?_
  refine lv_bipush (v := (68 : Int32)) hx hb d_M_oneClock_4 (by decide) ?_
  refine lv_icmp_lt (tgt := 20) hx hb d_M_oneClock_6 (by decide) (fun q1 => ?_) (fun q1 => ?_)
  · refine lv_aload_n hx hb d_M_oneClock_20 rfl (lv_at hl 0 rfl) ?_
    refine kcv (va_runV (As := []) (rest := []) ⟨hx, hb, hml, hown, hT⟩ (c_M_timer l D cA ad hap σ) (kCV 0 hT ml_M_119 mi_M_timer ⟨Nat.le_of_ble_eq_true rfl, Nat.le_of_ble_eq_true rfl⟩) (mpreV hK hP) rfl rfl hl.1 rfl (lv_room (Nat.le_of_ble_eq_true rfl)) d_M_oneClock_21 ⟨Nat.le_of_ble_eq_true rfl, Nat.le_of_ble_eq_true rfl⟩) hS (fun H locs hP hS => ?_)
    refine lv_aload_n hx hb d_M_oneClock_24 rfl (lv_at hl 0 rfl) ?_
    refine lv_dup hx hb d_M_oneClock_25 rfl ?_
    refine va_get (D := D) (ci := 2) (v := .int ((f_M_timer σ) 7 3)) (C := R_M) (T := F_M) (N := 17) hx hb hT in_M hown hK hP 0 rfl rfl 10 (by decide) (hT _ fl_M_50) (fun _ h9 => h9) rfl d_M_oneClock_26 ?_
    refine lv_iconst (v := (1 : Int32)) hx hb d_M_oneClock_29 (by decide) ?_
    refine lv_iadd hx hb d_M_oneClock_30 ?_
    refine va_put (A := (kA 8 ad)) (D := D) (ci := 2) (v := .int (((f_M_timer σ) 7 3) + (1 : Int32))) (ty := .int) (C := R_M) (T := F_M) (N := 17) hx hb hT in_M ft_M ft_M_ok n_M hown hK hP (hD _) hS 0 rfl rfl 10 (by decide) (hT _ fl_M_50) (fun _ h9 => h9) rfl (by decide +kernel) rfl rfl (Nat.le_of_ble_eq_true rfl) d_M_oneClock_31 (fun H locs hP _ hS => ?_)
    have hP := kst (mw_p0_10 cA ad (f_M_timer σ) (((f_M_timer σ) 7 3) + (1 : Int32))) hP
    refine lv_aload_n hx hb d_M_oneClock_34 rfl (lv_at hl 0 rfl) ?_
    refine va_get (D := D) (ci := 2) (v := .int (((f_M_timer σ) 7 3) + (1 : Int32))) (C := R_M) (T := F_M) (N := 17) hx hb hT in_M hown hK hP 0 rfl rfl 10 (by decide) (hT _ fl_M_50) (fun _ h9 => h9) rfl d_M_oneClock_35 ?_
    refine lv_sipush (v := (228 : Int32)) hx hb d_M_oneClock_38 (by decide) ?_
    refine lv_icmp_ne (tgt := 59) hx hb d_M_oneClock_41 (by decide) (fun q2 => ?_) (fun q2 => ?_)
    · have e9 : (kup (f_M_timer σ) 7 3 (((f_M_timer σ) 7 3) + (1 : Int32))) = f_M_oneClock σ := by rw [f_M_oneClock, if_pos q1, if_neg q2]
      exact W.vret hx hb hr (fun t ht hW => ⟨rfl, by rw [ht, ← e9]; exact hP, hS.F ht⟩) hS.2.2 d_M_oneClock_59
    · refine lv_aload_n hx hb d_M_oneClock_44 rfl (lv_at hl 0 rfl) ?_
      refine lv_iconst (v := (0 : Int32)) hx hb d_M_oneClock_45 (by decide) ?_
      refine va_put (A := (kA 8 ad)) (D := D) (ci := 2) (v := .int (0 : Int32)) (ty := .int) (C := R_M) (T := F_M) (N := 17) hx hb hT in_M ft_M ft_M_ok n_M hown hK hP (hD _) hS 0 rfl rfl 10 (by decide) (hT _ fl_M_50) (fun _ h9 => h9) rfl (by decide +kernel) rfl rfl (Nat.le_of_ble_eq_true rfl) d_M_oneClock_46 (fun H locs hP _ hS => ?_)
      have hP := kst (mw_p0_10 cA ad (kup (f_M_timer σ) 7 3 (((f_M_timer σ) 7 3) + (1 : Int32))) (0 : Int32)) hP
      refine lv_aload_n hx hb d_M_oneClock_49 rfl (lv_at hl 0 rfl) ?_
      refine lv_dup hx hb d_M_oneClock_50 rfl ?_
      refine va_get (D := D) (ci := 2) (v := .int ((kup (kup (f_M_timer σ) 7 3 (((f_M_timer σ) 7 3) + (1 : Int32))) 7 3 (0 : Int32)) 7 4)) (C := R_M) (T := F_M) (N := 17) hx hb hT in_M hown hK hP 0 rfl rfl 11 (by decide) (hT _ fl_M_122) (fun _ h9 => h9) rfl d_M_oneClock_51 ?_
      refine lv_iconst (v := (1 : Int32)) hx hb d_M_oneClock_54 (by decide) ?_
      refine lv_iadd hx hb d_M_oneClock_55 ?_
      refine va_put (A := (kA 8 ad)) (D := D) (ci := 2) (v := .int (((kup (kup (f_M_timer σ) 7 3 (((f_M_timer σ) 7 3) + (1 : Int32))) 7 3 (0 : Int32)) 7 4) + (1 : Int32))) (ty := .int) (C := R_M) (T := F_M) (N := 17) hx hb hT in_M ft_M ft_M_ok n_M hown hK hP (hD _) hS 0 rfl rfl 11 (by decide) (hT _ fl_M_122) (fun _ h9 => h9) rfl (by decide +kernel) rfl rfl (Nat.le_of_ble_eq_true rfl) d_M_oneClock_56 (fun H locs hP _ hS => ?_)
      have hP := kst (mw_p0_11 cA ad (kup (kup (f_M_timer σ) 7 3 (((f_M_timer σ) 7 3) + (1 : Int32))) 7 3 (0 : Int32)) (((kup (kup (f_M_timer σ) 7 3 (((f_M_timer σ) 7 3) + (1 : Int32))) 7 3 (0 : Int32)) 7 4) + (1 : Int32))) hP
      have e9 : (kup (kup (kup (f_M_timer σ) 7 3 (((f_M_timer σ) 7 3) + (1 : Int32))) 7 3 (0 : Int32)) 7 4 (((kup (kup (f_M_timer σ) 7 3 (((f_M_timer σ) 7 3) + (1 : Int32))) 7 3 (0 : Int32)) 7 4) + (1 : Int32))) = f_M_oneClock σ := by rw [f_M_oneClock, if_pos q1, if_pos q2]
      exact W.vret hx hb hr (fun t ht hW => ⟨rfl, by rw [ht, ← e9]; exact hP, hS.F ht⟩) hS.2.2 d_M_oneClock_59
  · refine lv_aload_n hx hb d_M_oneClock_9 rfl (lv_at hl 0 rfl) ?_
    refine lv_aload_n hx hb d_M_oneClock_10 rfl (lv_at hl 0 rfl) ?_
    refine va_get (D := D) (ci := 2) (v := .int (σ 7 3)) (C := R_M) (T := F_M) (N := 17) hx hb hT in_M hown hK hP 0 rfl rfl 10 (by decide) (hT _ fl_M_50) (fun _ h9 => h9) rfl d_M_oneClock_11 ?_
    refine lv_bipush (v := (68 : Int32)) hx hb d_M_oneClock_14 (by decide) ?_
    refine lv_isub hx hb d_M_oneClock_16 ?_
    refine kcv (va_runV (As := [.int ((σ 7 3) - (68 : Int32))]) (rest := []) ⟨hx, hb, hml, hown, hT⟩ (c_M_draw l D cA ad hap σ ((σ 7 3) - (68 : Int32)) (by first | assumption | exact kin (by decide) | exact mClk_x h1 (by assumption))) (kCV 1 hT ml_M_116 mi_M_draw ⟨Nat.le_of_ble_eq_true rfl, Nat.le_of_ble_eq_true rfl⟩) (mpreV hK hP) rfl rfl hl.1 rfl (lv_room (Nat.le_of_ble_eq_true rfl)) d_M_oneClock_17 ⟨Nat.le_of_ble_eq_true rfl, Nat.le_of_ble_eq_true rfl⟩) hS (fun H locs hP hS => ?_)
    refine lv_aload_n hx hb d_M_oneClock_20 rfl (lv_at hl 0 rfl) ?_
    refine kcv (va_runV (As := []) (rest := []) ⟨hx, hb, hml, hown, hT⟩ (c_M_timer l D cA ad hap (f_M_draw σ ((σ 7 3) - (68 : Int32)))) (kCV 0 hT ml_M_119 mi_M_timer ⟨Nat.le_of_ble_eq_true rfl, Nat.le_of_ble_eq_true rfl⟩) (mpreV hK hP) rfl rfl hl.1 rfl (lv_room (Nat.le_of_ble_eq_true rfl)) d_M_oneClock_21 ⟨Nat.le_of_ble_eq_true rfl, Nat.le_of_ble_eq_true rfl⟩) hS (fun H locs hP hS => ?_)
    refine lv_aload_n hx hb d_M_oneClock_24 rfl (lv_at hl 0 rfl) ?_
    refine lv_dup hx hb d_M_oneClock_25 rfl ?_
    refine va_get (D := D) (ci := 2) (v := .int ((f_M_timer (f_M_draw σ ((σ 7 3) - (68 : Int32)))) 7 3)) (C := R_M) (T := F_M) (N := 17) hx hb hT in_M hown hK hP 0 rfl rfl 10 (by decide) (hT _ fl_M_50) (fun _ h9 => h9) rfl d_M_oneClock_26 ?_
    refine lv_iconst (v := (1 : Int32)) hx hb d_M_oneClock_29 (by decide) ?_
    refine lv_iadd hx hb d_M_oneClock_30 ?_
    refine va_put (A := (kA 8 ad)) (D := D) (ci := 2) (v := .int (((f_M_timer (f_M_draw σ ((σ 7 3) - (68 : Int32)))) 7 3) + (1 : Int32))) (ty := .int) (C := R_M) (T := F_M) (N := 17) hx hb hT in_M ft_M ft_M_ok n_M hown hK hP (hD _) hS 0 rfl rfl 10 (by decide) (hT _ fl_M_50) (fun _ h9 => h9) rfl (by decide +kernel) rfl rfl (Nat.le_of_ble_eq_true rfl) d_M_oneClock_31 (fun H locs hP _ hS => ?_)
    have hP := kst (mw_p0_10 cA ad (f_M_timer (f_M_draw σ ((σ 7 3) - (68 : Int32)))) (((f_M_timer (f_M_draw σ ((σ 7 3) - (68 : Int32)))) 7 3) + (1 : Int32))) hP
    refine lv_aload_n hx hb d_M_oneClock_34 rfl (lv_at hl 0 rfl) ?_
    refine va_get (D := D) (ci := 2) (v := .int (((f_M_timer (f_M_draw σ ((σ 7 3) - (68 : Int32)))) 7 3) + (1 : Int32))) (C := R_M) (T := F_M) (N := 17) hx hb hT in_M hown hK hP 0 rfl rfl 10 (by decide) (hT _ fl_M_50) (fun _ h9 => h9) rfl d_M_oneClock_35 ?_
    refine lv_sipush (v := (228 : Int32)) hx hb d_M_oneClock_38 (by decide) ?_
    refine lv_icmp_ne (tgt := 59) hx hb d_M_oneClock_41 (by decide) (fun q3 => ?_) (fun q3 => ?_)
    · have e9 : (kup (f_M_timer (f_M_draw σ ((σ 7 3) - (68 : Int32)))) 7 3 (((f_M_timer (f_M_draw σ ((σ 7 3) - (68 : Int32)))) 7 3) + (1 : Int32))) = f_M_oneClock σ := by rw [f_M_oneClock, if_neg q1, if_neg q3]
      exact W.vret hx hb hr (fun t ht hW => ⟨rfl, by rw [ht, ← e9]; exact hP, hS.F ht⟩) hS.2.2 d_M_oneClock_59
    · refine lv_aload_n hx hb d_M_oneClock_44 rfl (lv_at hl 0 rfl) ?_
      refine lv_iconst (v := (0 : Int32)) hx hb d_M_oneClock_45 (by decide) ?_
      refine va_put (A := (kA 8 ad)) (D := D) (ci := 2) (v := .int (0 : Int32)) (ty := .int) (C := R_M) (T := F_M) (N := 17) hx hb hT in_M ft_M ft_M_ok n_M hown hK hP (hD _) hS 0 rfl rfl 10 (by decide) (hT _ fl_M_50) (fun _ h9 => h9) rfl (by decide +kernel) rfl rfl (Nat.le_of_ble_eq_true rfl) d_M_oneClock_46 (fun H locs hP _ hS => ?_)
      have hP := kst (mw_p0_10 cA ad (kup (f_M_timer (f_M_draw σ ((σ 7 3) - (68 : Int32)))) 7 3 (((f_M_timer (f_M_draw σ ((σ 7 3) - (68 : Int32)))) 7 3) + (1 : Int32))) (0 : Int32)) hP
      refine lv_aload_n hx hb d_M_oneClock_49 rfl (lv_at hl 0 rfl) ?_
      refine lv_dup hx hb d_M_oneClock_50 rfl ?_
      refine va_get (D := D) (ci := 2) (v := .int ((kup (kup (f_M_timer (f_M_draw σ ((σ 7 3) - (68 : Int32)))) 7 3 (((f_M_timer (f_M_draw σ ((σ 7 3) - (68 : Int32)))) 7 3) + (1 : Int32))) 7 3 (0 : Int32)) 7 4)) (C := R_M) (T := F_M) (N := 17) hx hb hT in_M hown hK hP 0 rfl rfl 11 (by decide) (hT _ fl_M_122) (fun _ h9 => h9) rfl d_M_oneClock_51 ?_
      refine lv_iconst (v := (1 : Int32)) hx hb d_M_oneClock_54 (by decide) ?_
      refine lv_iadd hx hb d_M_oneClock_55 ?_
      refine va_put (A := (kA 8 ad)) (D := D) (ci := 2) (v := .int (((kup (kup (f_M_timer (f_M_draw σ ((σ 7 3) - (68 : Int32)))) 7 3 (((f_M_timer (f_M_draw σ ((σ 7 3) - (68 : Int32)))) 7 3) + (1 : Int32))) 7 3 (0 : Int32)) 7 4) + (1 : Int32))) (ty := .int) (C := R_M) (T := F_M) (N := 17) hx hb hT in_M ft_M ft_M_ok n_M hown hK hP (hD _) hS 0 rfl rfl 11 (by decide) (hT _ fl_M_122) (fun _ h9 => h9) rfl (by decide +kernel) rfl rfl (Nat.le_of_ble_eq_true rfl) d_M_oneClock_56 (fun H locs hP _ hS => ?_)
      have hP := kst (mw_p0_11 cA ad (kup (kup (f_M_timer (f_M_draw σ ((σ 7 3) - (68 : Int32)))) 7 3 (((f_M_timer (f_M_draw σ ((σ 7 3) - (68 : Int32)))) 7 3) + (1 : Int32))) 7 3 (0 : Int32)) (((kup (kup (f_M_timer (f_M_draw σ ((σ 7 3) - (68 : Int32)))) 7 3 (((f_M_timer (f_M_draw σ ((σ 7 3) - (68 : Int32)))) 7 3) + (1 : Int32))) 7 3 (0 : Int32)) 7 4) + (1 : Int32))) hP
      have e9 : (kup (kup (kup (f_M_timer (f_M_draw σ ((σ 7 3) - (68 : Int32)))) 7 3 (((f_M_timer (f_M_draw σ ((σ 7 3) - (68 : Int32)))) 7 3) + (1 : Int32))) 7 3 (0 : Int32)) 7 4 (((kup (kup (f_M_timer (f_M_draw σ ((σ 7 3) - (68 : Int32)))) 7 3 (((f_M_timer (f_M_draw σ ((σ 7 3) - (68 : Int32)))) 7 3) + (1 : Int32))) 7 3 (0 : Int32)) 7 4) + (1 : Int32))) = f_M_oneClock σ := by rw [f_M_oneClock, if_neg q1, if_pos q3]
      exact W.vret hx hb hr (fun t ht hW => ⟨rfl, by rw [ht, ← e9]; exact hP, hS.F ht⟩) hS.2.2 d_M_oneClock_59

def f_M_isPixel (x : Int32) : Int32 := (if x < 0 then (0 : Int32) else (if (160 : Int32) ≤ x then (0 : Int32) else (1 : Int32)))

theorem z_M_isPixel (x : Int32) : f_M_isPixel x = 0 ∨ f_M_isPixel x = 1 := by
  rw [f_M_isPixel]
  repeat' split
  all_goals first | with_reducible exact Or.inl rfl | with_reducible exact Or.inr rfl

set_option maxRecDepth 100000 in
set_option maxHeartbeats 4000000 in
theorem c_M_isPixel (l : Launch) (D : va_G) (cA ad : Nat → Nat) (hap : kap 8 ad) (σ : Nat → Nat → Int32) (x : Int32) : Met l y_M_isPixel w_M_isPixel ({ frames := 0, cells := 0, slots := 0, locals := 0 } : Room) (va_Pc [.int x] (mPre D cA ad σ)) (vp_Si (fun v => v = f_M_isPixel x)) 0 0 (fun _ => False) := by
  refine Met.ofW (cc := b_M_isPixel) (maxL := 1) (ret := (some .boolean)) (by decide) rfl ?_
  intro p e s m args below meth c s₁ B hml hv
  obtain ⟨rfl, hv⟩ := hv
  obtain ⟨hP, hK⟩ := hv
  have hx := B.exec
  have hb := B.bytes
  have hr := B.returns
  have hlocks := B.notSynchronized
  have hT : ∀ w ∈ TB, w.before ([.int x] : List Value).toArray s = true := fun w h => atoms_spec (ws := w_M_isPixel) B.pre w (List.mem_cons_of_mem _ h)
  have hown : s.vm.findClass R_M = some m.cls := findClass_of_methodNamed B.named
  have hS : va_S (kA 8 ad) s.heap s.heap [] := va_S.rf
  have hl := lv_entry ([.int x]) (n := 1) (Nat.le_of_ble_eq_true rfl)
  rw [lg_entry_eq]
  generalize (lg_sl ([.int x]) ++ List.replicate (1 - (lg_sl ([.int x])).length) Slot.unset).toArray = ls at hl ⊢
  have hl : lv_has ls 1 [(0, .int x)] := hl
  refine lv_iload_n hx hb d_M_isPixel_0 rfl (lv_at hl 0 rfl) ?_
  refine lv_if_lt (tgt := 15) hx hb d_M_isPixel_1 (by decide) (fun q1 => ?_) (fun q1 => ?_)
  · refine lv_iconst (v := (0 : Int32)) hx hb d_M_isPixel_15 (by decide) ?_
    have e9 : (0 : Int32) = f_M_isPixel x := by rw [f_M_isPixel, if_pos q1]
    exact W.zret (v := (0 : Int32)) hx hb hr (by decide) (fun t ht hW => ⟨_, rfl, e9, ht⟩) (fun _ h => absurd h List.not_mem_nil) d_M_isPixel_16
  · refine lv_iload_n hx hb d_M_isPixel_4 rfl (lv_at hl 0 rfl) ?_
    refine lv_sipush (v := (160 : Int32)) hx hb d_M_isPixel_5 (by decide) ?_
    refine lv_icmp_ge (tgt := 15) hx hb d_M_isPixel_8 (by decide) (fun q2 => ?_) (fun q2 => ?_)
    · refine lv_iconst (v := (0 : Int32)) hx hb d_M_isPixel_15 (by decide) ?_
      have e9 : (0 : Int32) = f_M_isPixel x := by rw [f_M_isPixel, if_neg q1, if_pos q2]
      exact W.zret (v := (0 : Int32)) hx hb hr (by decide) (fun t ht hW => ⟨_, rfl, e9, ht⟩) (fun _ h => absurd h List.not_mem_nil) d_M_isPixel_16
    · refine lv_iconst (v := (1 : Int32)) hx hb d_M_isPixel_11 (by decide) ?_
      refine lv_goto (tgt := 16) hx hb d_M_isPixel_12 (by decide) ?_
      have e9 : (1 : Int32) = f_M_isPixel x := by rw [f_M_isPixel, if_neg q1, if_neg q2]
      exact W.zret (v := (1 : Int32)) hx hb hr (by decide) (fun t ht hW => ⟨_, rfl, e9, ht⟩) (fun _ h => absurd h List.not_mem_nil) d_M_isPixel_16

theorem mClk_one {σ : Nat → Nat → Int32} (hk : mClk σ) : mClk (f_M_oneClock σ) := by
  have key : ∀ X : Nat → Nat → Int32, X 7 3 = σ 7 3 → ¬ f_M_timer X 7 3 + (1 : Int32) = (228 : Int32) → vp_in (f_M_timer X 7 3 + (1 : Int32)) 228 := by
    intro X hX h
    refine k228 ?_ h
    rw [mtimer3, hX]
    exact hk
  unfold mClk
  rw [f_M_oneClock]
  split
  · split
    · exact kin (i := 0) (by decide)
    · exact key σ rfl (by assumption)
  · split
    · exact kin (i := 0) (by decide)
    · exact key _ (by rw [f_M_draw, md2]) (by assumption)
theorem kgo_pixel {σ : Nat → Nat → Int32} {x : Int32} (h : ¬ (f_M_goes σ (f_M_isPixel x) 1).1 = 0) : vp_in x 160 := by
  rw [f_M_isPixel] at h
  split at h
  · exact absurd (kgo0 ..) h
  · split at h
    · exact absurd (kgo0 ..) h
    · exact kRin (n := 160) (by decide) (by assumption) (klt (by assumption))
