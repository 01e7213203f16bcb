theorem kup_ne {σ : Nat → Nat → Int32} {k j a : Nat} {v : Int32} (h : a ≠ k) : kup σ k j v a = σ a := if_neg h
theorem kup_eq {σ : Nat → Nat → Int32} {k j : Nat} {v : Int32} : kup σ k j v k = upd (σ k) j v := if_pos rfl
theorem kkeep (σ : Nat → Nat → Int32) (he : Int32) (n : Nat) (a : Nat) (h : a ≠ 4) : ∀ (i : Int32) (σ1 : Nat → Nat → Int32), f_B_keepMeetings_lp2 σ he n i σ1 a = σ1 a := by
  induction n with
  | zero => intro i σ1; rw [f_B_keepMeetings_lp2_z]
  | succ n ih =>
    intro i σ1
    rw [f_B_keepMeetings_lp2_s]
    split
    · rw [ih]
    · rw [ih, kup_ne h]
theorem kdraw_lp (σ : Nat → Nat → Int32) (x : Int32) (n : Nat) (a : Nat) (h3 : a ≠ 3) (h4 : a ≠ 4) : ∀ (i acc : Int32) (σ1 : Nat → Nat → Int32), f_B_draw_lp4 σ x n i acc σ1 a = σ1 a := by
  induction n with
  | zero => intro i acc σ1; rw [f_B_draw_lp4_z, f_B_keepMeetings, kkeep _ _ _ _ h4, kup_ne h3]
  | succ n ih =>
    intro i acc σ1
    rw [f_B_draw_lp4_s]
    split <;> exact ih _ _ _
theorem kdraw5 (σ : Nat → Nat → Int32) (x : Int32) : f_B_draw σ x 5 = σ 5 := by rw [f_B_draw, kdraw_lp _ _ _ _ (by decide) (by decide)]
theorem ktick1 (X : Nat → Nat → Int32) : f_T_tick X 5 1 = X 5 1 := by
  rw [f_T_tick]
  repeat' split
  all_goals rfl
theorem kClk_run {σ1 X : Nat → Nat → Int32} (hk : kClk σ1) (hX : X 5 1 = σ1 5 1) : kClk (f_B_stepClock (f_T_tick X)) := by
  have h1 : vp_in (f_T_tick X 5 1) 228 := by rw [ktick1, hX]; exact hk
  unfold kClk
  rw [f_B_stepClock]
  split
  · exact kin (i := 0) (by decide)
  · exact k228 h1 (by assumption)
def f_B_run_lp2 (σ : Nat → Nat → Int32) (N : Nat) : Nat → Int32 → (Nat → Nat → Int32) → (Nat → Nat → Int32)
  | 0, i, σ1 => σ1
  | n + 1, i, σ1 => (if (σ1 5 1) < (68 : Int32) then (f_B_run_lp2 σ N n (i + 1) (f_B_stepClock (f_T_tick σ1))) else (if (228 : Int32) ≤ i then (f_B_run_lp2 σ N n (i + 1) (f_B_stepClock (f_T_tick (kup σ1 5 3 ((σ1 5 3) + (1 : Int32)))))) else (f_B_run_lp2 σ N n (i + 1) (f_B_stepClock (f_T_tick (kup (f_B_draw σ1 ((σ1 5 1) - (68 : Int32))) 5 3 (((f_B_draw σ1 ((σ1 5 1) - (68 : Int32))) 5 3) + (1 : Int32))))))))
theorem f_B_run_lp2_z (σ : Nat → Nat → Int32) (N : Nat) (i : Int32) (σ1 : Nat → Nat → Int32) : f_B_run_lp2 σ N 0 i σ1 = σ1 := rfl
theorem f_B_run_lp2_s (σ : Nat → Nat → Int32) (N : Nat) (n : Nat) (i : Int32) (σ1 : Nat → Nat → Int32) : f_B_run_lp2 σ N (n + 1) i σ1 = (if (σ1 5 1) < (68 : Int32) then (f_B_run_lp2 σ N n (i + 1) (f_B_stepClock (f_T_tick σ1))) else (if (228 : Int32) ≤ i then (f_B_run_lp2 σ N n (i + 1) (f_B_stepClock (f_T_tick (kup σ1 5 3 ((σ1 5 3) + (1 : Int32)))))) else (f_B_run_lp2 σ N n (i + 1) (f_B_stepClock (f_T_tick (kup (f_B_draw σ1 ((σ1 5 1) - (68 : Int32))) 5 3 (((f_B_draw σ1 ((σ1 5 1) - (68 : Int32))) 5 3) + (1 : Int32)))))))) := rfl

def f_B_run (σ : Nat → Nat → Int32) (N : Nat) : (Nat → Nat → Int32) := (f_B_run_lp2 σ N N (0 : Int32) σ)

set_option maxRecDepth 100000 in
set_option maxHeartbeats 4000000 in
theorem c_B_run (l : Launch) (D : va_G) (cA ad t : Nat → Nat) (hap : kap 7 ad) (σ : Nat → Nat → Int32) (N : Nat) (hN : N < 2 ^ 31) (h0 : kClk σ) : Met l y_B_run w_B_run ({ frames := 5, cells := 0, slots := 0, locals := 115 } : Room) (va_Pc [.ref (ad 0), .int (nI N)] (bPre D cA ad t σ)) (kQv D (bw cA ad (f_B_run σ N)) (kA 7 ad)) 0 0 (kA 7 ad) := by
  refine Met.ofW (cc := b_B_run) (maxL := 3) (ret := none) (by decide) rfl ?_
  intro p e s m args below meth c s₁ B hml hv
  obtain ⟨rfl, hv⟩ := hv
  obtain ⟨hP, hK, hZ⟩ := hv
  have hx := B.exec
  have hb := B.bytes
  have hr := B.returns
  have hlocks := B.notSynchronized
  have hT : ∀ w ∈ TB, w.before ([.ref (ad 0), .int (nI N)] : List Value).toArray s = true := fun w h => atoms_spec (ws := w_B_run) B.pre w (List.mem_cons_of_mem _ h)
  have hown : s.vm.findClass R_B = some m.cls := findClass_of_methodNamed B.named
  have hS : va_S (kA 7 ad) s.heap s.heap [] := va_S.rf
  have hD : ∀ σ, va_D (kA 7 ad) (bw cA ad σ) := fun σ => kD hap rfl
  have hl := lv_entry ([.ref (ad 0), .int (nI N)]) (n := 3) (Nat.le_of_ble_eq_true rfl)
  rw [lg_entry_eq]
  generalize (lg_sl ([.ref (ad 0), .int (nI N)]) ++ List.replicate (3 - (lg_sl ([.ref (ad 0), .int (nI N)])).length) Slot.unset).toArray = ls at hl ⊢
  have hl : lv_has ls 3 [(0, .ref (ad 0)), (1, .int (nI N))] := hl
  have loop2 : ∀ (n i : Nat) (σ1 : Nat → Nat → Int32) (H : Heap) (locs : List Loc) (ls : Array Slot), i + n = N → lv_has ls 3 [(2, .int (nI i)), (0, .ref (ad 0)), (1, .int (nI N))] → va_P D classes (bw cA ad σ1) H → va_S (kA 7 ad) s.heap H locs → kClk σ1 → f_B_run_lp2 σ N n (nI i) σ1 = f_B_run σ N → W p l e (headSpec w_B_run ({ frames := 5, cells := 0, slots := 0, locals := 115 } : Room)).room s m ([.ref (ad 0), .int (nI N)] : List Value).toArray below meth c H locs 0 0 (MQ below (kQv D (bw cA ad (f_B_run σ N)) (kA 7 ad)) ([.ref (ad 0), .int (nI N)] : List Value).toArray s 0 0 (kA 7 ad)) (F0 m 2 ls []) := by
    intro n
    induction n with
    | zero =>
      intro i σ1 H locs ls hi hl hP hS hk hg
      refine lv_iload_n hx hb d_B_run_2 rfl (lv_at hl 0 rfl) ?_
      refine lv_iload_n hx hb d_B_run_3 rfl (lv_at hl 2 rfl) ?_
      refine lv_icmp_ge (tgt := 61) hx hb d_B_run_4 (by decide) (fun _ => ?_) (fun h9 => absurd (nI_le (a := N) (b := i) (by omega) (by omega)) h9)
      have e9 : σ1 = f_B_run σ N := by rw [← hg, f_B_run_lp2_z]
      exact W.vret hx hb hr (fun t ht hW => ⟨rfl, by rw [ht, ← e9]; exact hP, hS.F ht⟩) hS.2.2 d_B_run_61
    | succ n ih =>
      intro i σ1 H locs ls hi hl hP hS hk hg
      refine lv_iload_n hx hb d_B_run_2 rfl (lv_at hl 0 rfl) ?_
      refine lv_iload_n hx hb d_B_run_3 rfl (lv_at hl 2 rfl) ?_
      refine lv_icmp_ge (tgt := 61) hx hb d_B_run_4 (by decide) (fun h9 => absurd h9 (nI_ge (a := i) (b := N) (by omega) hN)) (fun _ => ?_)
      refine lv_aload_n hx hb d_B_run_7 rfl (lv_at hl 1 rfl) ?_
      refine va_get (D := D) (ci := 0) (v := .int (σ1 5 1)) (C := R_B) (T := F_B) (N := 10) hx hb hT in_B hown hK hP 0 rfl rfl 7 (by decide) (hT _ fl_B_49) (fun _ h9 => h9) rfl d_B_run_8 ?_
      refine lv_bipush (v := (68 : Int32)) hx hb d_B_run_11 (by decide) ?_
      refine lv_icmp_lt (tgt := 44) hx hb d_B_run_13 (by decide) (fun q1 => ?_) (fun q1 => ?_)
      · refine lv_aload_n hx hb d_B_run_44 rfl (lv_at hl 1 rfl) ?_
        refine va_get (D := D) (ci := 0) (v := .ref (ad 6)) (C := R_B) (T := F_B) (N := 10) hx hb hT in_B hown hK hP 0 rfl rfl 5 (by decide) (hT _ fl_B_28) (fun _ h9 => h9) rfl d_B_run_45 ?_
        refine kcv (va_runVN (As := []) (rest := []) ⟨hx, hb, hml, hown, hT⟩ (c_T_tick l D cA ad t hap σ1) (kCN 0 hT ml_B_130 mi_T_tick ⟨Nat.le_of_ble_eq_true rfl, Nat.le_of_ble_eq_true rfl⟩) (bpreT hK hP hZ hS) rfl rfl hl.1 rfl (lv_room (Nat.le_of_ble_eq_true rfl)) d_B_run_48 ⟨Nat.le_of_ble_eq_true rfl, Nat.le_of_ble_eq_true rfl⟩) hS (fun H locs hP hS => ?_)
        refine lv_aload_n hx hb d_B_run_51 rfl (lv_at hl 1 rfl) ?_
        refine kcv (va_runV (As := []) (rest := []) ⟨hx, hb, hml, hown, hT⟩ (c_B_stepClock l D cA ad t hap (f_T_tick σ1)) (kCV 0 hT ml_B_133 mi_B_stepClock ⟨Nat.le_of_ble_eq_true rfl, Nat.le_of_ble_eq_true rfl⟩) (bpreV hK hP hZ hS) rfl rfl hl.1 rfl (lv_room (Nat.le_of_ble_eq_true rfl)) d_B_run_52 ⟨Nat.le_of_ble_eq_true rfl, Nat.le_of_ble_eq_true rfl⟩) hS (fun H locs hP hS => ?_)
        refine lv_iinc (v := (nI (i + 1))) (lv' := [(2, .int (nI (i + 1))), (0, .ref (ad 0)), (1, .int (nI N))]) hx hb d_B_run_55 hl (k := 0) rfl (by rw [nI_succ]; rfl) (by decide) rfl (fun ls hl => ?_)
        refine lv_goto (tgt := 2) hx hb d_B_run_58 (by decide) ?_
        exact ih (i + 1) (f_B_stepClock (f_T_tick σ1)) H locs ls (by omega) (lv_sub hl [0, 1, 2] rfl) hP hS (kClk_run hk (by first | rfl | exact congrFun (kdraw5 ..) 1)) (by rw [← hg, f_B_run_lp2_s, if_pos q1, nI_succ])
      · refine lv_iload_n hx hb d_B_run_16 rfl (lv_at hl 0 rfl) ?_
        refine lv_sipush (v := (228 : Int32)) hx hb d_B_run_17 (by decide) ?_
        refine lv_icmp_ge (tgt := 34) hx hb d_B_run_20 (by decide) (fun q2 => ?_) (fun q2 => ?_)
        · refine lv_aload_n hx hb d_B_run_34 rfl (lv_at hl 1 rfl) ?_
          refine lv_dup hx hb d_B_run_35 rfl ?_
          refine va_get (D := D) (ci := 0) (v := .int (σ1 5 3)) (C := R_B) (T := F_B) (N := 10) hx hb hT in_B hown hK hP 0 rfl rfl 9 (by decide) (hT _ fl_B_84) (fun _ h9 => h9) rfl d_B_run_36 ?_
          refine lv_iconst (v := (1 : Int32)) hx hb d_B_run_39 (by decide) ?_
          refine lv_iadd hx hb d_B_run_40 ?_
          refine va_put (A := (kA 7 ad)) (D := D) (ci := 0) (v := .int ((σ1 5 3) + (1 : Int32))) (ty := .int) (C := R_B) (T := F_B) (N := 10) hx hb hT in_B ft_B ft_B_ok n_B hown hK hP (hD _) hS 0 rfl rfl 9 (by decide) (hT _ fl_B_84) (fun _ h9 => h9) rfl (by decide +kernel) rfl rfl (Nat.le_of_ble_eq_true rfl) d_B_run_41 (fun H locs hP _ hS => ?_)
          have hP := kst (bw_p0_9 cA ad σ1 ((σ1 5 3) + (1 : Int32))) hP
          refine lv_aload_n hx hb d_B_run_44 rfl (lv_at hl 1 rfl) ?_
          refine va_get (D := D) (ci := 0) (v := .ref (ad 6)) (C := R_B) (T := F_B) (N := 10) hx hb hT in_B hown hK hP 0 rfl rfl 5 (by decide) (hT _ fl_B_28) (fun _ h9 => h9) rfl d_B_run_45 ?_
          refine kcv (va_runVN (As := []) (rest := []) ⟨hx, hb, hml, hown, hT⟩ (c_T_tick l D cA ad t hap (kup σ1 5 3 ((σ1 5 3) + (1 : Int32)))) (kCN 0 hT ml_B_130 mi_T_tick ⟨Nat.le_of_ble_eq_true rfl, Nat.le_of_ble_eq_true rfl⟩) (bpreT hK hP hZ hS) rfl rfl hl.1 rfl (lv_room (Nat.le_of_ble_eq_true rfl)) d_B_run_48 ⟨Nat.le_of_ble_eq_true rfl, Nat.le_of_ble_eq_true rfl⟩) hS (fun H locs hP hS => ?_)
          refine lv_aload_n hx hb d_B_run_51 rfl (lv_at hl 1 rfl) ?_
          refine kcv (va_runV (As := []) (rest := []) ⟨hx, hb, hml, hown, hT⟩ (c_B_stepClock l D cA ad t hap (f_T_tick (kup σ1 5 3 ((σ1 5 3) + (1 : Int32))))) (kCV 0 hT ml_B_133 mi_B_stepClock ⟨Nat.le_of_ble_eq_true rfl, Nat.le_of_ble_eq_true rfl⟩) (bpreV hK hP hZ hS) rfl rfl hl.1 rfl (lv_room (Nat.le_of_ble_eq_true rfl)) d_B_run_52 ⟨Nat.le_of_ble_eq_true rfl, Nat.le_of_ble_eq_true rfl⟩) hS (fun H locs hP hS => ?_)
          refine lv_iinc (v := (nI (i + 1))) (lv' := [(2, .int (nI (i + 1))), (0, .ref (ad 0)), (1, .int (nI N))]) hx hb d_B_run_55 hl (k := 0) rfl (by rw [nI_succ]; rfl) (by decide) rfl (fun ls hl => ?_)
          refine lv_goto (tgt := 2) hx hb d_B_run_58 (by decide) ?_
          exact ih (i + 1) (f_B_stepClock (f_T_tick (kup σ1 5 3 ((σ1 5 3) + (1 : Int32))))) H locs ls (by omega) (lv_sub hl [0, 1, 2] rfl) hP hS (kClk_run hk (by first | rfl | exact congrFun (kdraw5 ..) 1)) (by rw [← hg, f_B_run_lp2_s, if_neg q1, if_pos q2, nI_succ])
        · refine lv_aload_n hx hb d_B_run_23 rfl (lv_at hl 1 rfl) ?_
          refine lv_aload_n hx hb d_B_run_24 rfl (lv_at hl 1 rfl) ?_
          refine va_get (D := D) (ci := 0) (v := .int (σ1 5 1)) (C := R_B) (T := F_B) (N := 10) hx hb hT in_B hown hK hP 0 rfl rfl 7 (by decide) (hT _ fl_B_49) (fun _ h9 => h9) rfl d_B_run_25 ?_
          refine lv_bipush (v := (68 : Int32)) hx hb d_B_run_28 (by decide) ?_
          refine lv_isub hx hb d_B_run_30 ?_
          refine kcv (va_runV (As := [.int ((σ1 5 1) - (68 : Int32))]) (rest := []) ⟨hx, hb, hml, hown, hT⟩ (c_B_draw l D cA ad t hap σ1 ((σ1 5 1) - (68 : Int32)) (by first | assumption | exact kin (by decide) | exact kClk_x hk (by assumption))) (kCV 1 hT ml_B_127 mi_B_draw ⟨Nat.le_of_ble_eq_true rfl, Nat.le_of_ble_eq_true rfl⟩) (bpreV hK hP hZ hS) rfl rfl hl.1 rfl (lv_room (Nat.le_of_ble_eq_true rfl)) d_B_run_31 ⟨Nat.le_of_ble_eq_true rfl, Nat.le_of_ble_eq_true rfl⟩) hS (fun H locs hP hS => ?_)
          refine lv_aload_n hx hb d_B_run_34 rfl (lv_at hl 1 rfl) ?_
          refine lv_dup hx hb d_B_run_35 rfl ?_
          refine va_get (D := D) (ci := 0) (v := .int ((f_B_draw σ1 ((σ1 5 1) - (68 : Int32))) 5 3)) (C := R_B) (T := F_B) (N := 10) hx hb hT in_B hown hK hP 0 rfl rfl 9 (by decide) (hT _ fl_B_84) (fun _ h9 => h9) rfl d_B_run_36 ?_
          refine lv_iconst (v := (1 : Int32)) hx hb d_B_run_39 (by decide) ?_
          refine lv_iadd hx hb d_B_run_40 ?_
          refine va_put (A := (kA 7 ad)) (D := D) (ci := 0) (v := .int (((f_B_draw σ1 ((σ1 5 1) - (68 : Int32))) 5 3) + (1 : Int32))) (ty := .int) (C := R_B) (T := F_B) (N := 10) hx hb hT in_B ft_B ft_B_ok n_B hown hK hP (hD _) hS 0 rfl rfl 9 (by decide) (hT _ fl_B_84) (fun _ h9 => h9) rfl (by decide +kernel) rfl rfl (Nat.le_of_ble_eq_true rfl) d_B_run_41 (fun H locs hP _ hS => ?_)
          have hP := kst (bw_p0_9 cA ad (f_B_draw σ1 ((σ1 5 1) - (68 : Int32))) (((f_B_draw σ1 ((σ1 5 1) - (68 : Int32))) 5 3) + (1 : Int32))) hP
          refine lv_aload_n hx hb d_B_run_44 rfl (lv_at hl 1 rfl) ?_
          refine va_get (D := D) (ci := 0) (v := .ref (ad 6)) (C := R_B) (T := F_B) (N := 10) hx hb hT in_B hown hK hP 0 rfl rfl 5 (by decide) (hT _ fl_B_28) (fun _ h9 => h9) rfl d_B_run_45 ?_
          refine kcv (va_runVN (As := []) (rest := []) ⟨hx, hb, hml, hown, hT⟩ (c_T_tick l D cA ad t hap (kup (f_B_draw σ1 ((σ1 5 1) - (68 : Int32))) 5 3 (((f_B_draw σ1 ((σ1 5 1) - (68 : Int32))) 5 3) + (1 : Int32)))) (kCN 0 hT ml_B_130 mi_T_tick ⟨Nat.le_of_ble_eq_true rfl, Nat.le_of_ble_eq_true rfl⟩) (bpreT hK hP hZ hS) rfl rfl hl.1 rfl (lv_room (Nat.le_of_ble_eq_true rfl)) d_B_run_48 ⟨Nat.le_of_ble_eq_true rfl, Nat.le_of_ble_eq_true rfl⟩) hS (fun H locs hP hS => ?_)
          refine lv_aload_n hx hb d_B_run_51 rfl (lv_at hl 1 rfl) ?_
          refine kcv (va_runV (As := []) (rest := []) ⟨hx, hb, hml, hown, hT⟩ (c_B_stepClock l D cA ad t hap (f_T_tick (kup (f_B_draw σ1 ((σ1 5 1) - (68 : Int32))) 5 3 (((f_B_draw σ1 ((σ1 5 1) - (68 : Int32))) 5 3) + (1 : Int32))))) (kCV 0 hT ml_B_133 mi_B_stepClock ⟨Nat.le_of_ble_eq_true rfl, Nat.le_of_ble_eq_true rfl⟩) (bpreV hK hP hZ hS) rfl rfl hl.1 rfl (lv_room (Nat.le_of_ble_eq_true rfl)) d_B_run_52 ⟨Nat.le_of_ble_eq_true rfl, Nat.le_of_ble_eq_true rfl⟩) hS (fun H locs hP hS => ?_)
          refine lv_iinc (v := (nI (i + 1))) (lv' := [(2, .int (nI (i + 1))), (0, .ref (ad 0)), (1, .int (nI N))]) hx hb d_B_run_55 hl (k := 0) rfl (by rw [nI_succ]; rfl) (by decide) rfl (fun ls hl => ?_)
          refine lv_goto (tgt := 2) hx hb d_B_run_58 (by decide) ?_
          exact ih (i + 1) (f_B_stepClock (f_T_tick (kup (f_B_draw σ1 ((σ1 5 1) - (68 : Int32))) 5 3 (((f_B_draw σ1 ((σ1 5 1) - (68 : Int32))) 5 3) + (1 : Int32))))) H locs ls (by omega) (lv_sub hl [0, 1, 2] rfl) hP hS (kClk_run hk (by first | rfl | exact congrFun (kdraw5 ..) 1)) (by rw [← hg, f_B_run_lp2_s, if_neg q1, if_neg q2, nI_succ])
  refine lv_iconst (v := (0 : Int32)) hx hb d_B_run_0 (by decide) ?_
  refine lv_istore_n (lv' := [(2, .int (0 : Int32)), (0, .ref (ad 0)), (1, .int (nI N))]) hx hb d_B_run_1 rfl hl (by decide) rfl (fun ls hl => ?_)
  exact loop2 N 0 σ s.heap [] ls (by omega) (lv_sub hl [0, 1, 2] rfl) hP hS (h0) (by rw [f_B_run]; rfl)
