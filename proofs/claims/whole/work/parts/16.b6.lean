def f_B_keepMeetings_lp2 (σ : Nat → Nat → Int32) (he : Int32) : Nat → Int32 → (Nat → Nat → Int32) → (Nat → Nat → Int32)
  | 0, i, σ1 => σ1
  | n + 1, i, σ1 => (if (he &&& ((1 : Int32) <<< (i &&& 31))) = 0 then (f_B_keepMeetings_lp2 σ he n (i + 1) σ1) else (f_B_keepMeetings_lp2 σ he n (i + 1) (kup σ1 4 (i).toNatClampNeg ((σ1 4 (i).toNatClampNeg) ||| (he &&& (((1 : Int32) <<< (i &&& 31)) ^^^ (-1 : Int32)))))))
theorem f_B_keepMeetings_lp2_z (σ : Nat → Nat → Int32) (he : Int32) (i : Int32) (σ1 : Nat → Nat → Int32) : f_B_keepMeetings_lp2 σ he 0 i σ1 = σ1 := rfl
theorem f_B_keepMeetings_lp2_s (σ : Nat → Nat → Int32) (he : Int32) (n : Nat) (i : Int32) (σ1 : Nat → Nat → Int32) : f_B_keepMeetings_lp2 σ he (n + 1) i σ1 = (if (he &&& ((1 : Int32) <<< (i &&& 31))) = 0 then (f_B_keepMeetings_lp2 σ he n (i + 1) σ1) else (f_B_keepMeetings_lp2 σ he n (i + 1) (kup σ1 4 (i).toNatClampNeg ((σ1 4 (i).toNatClampNeg) ||| (he &&& (((1 : Int32) <<< (i &&& 31)) ^^^ (-1 : Int32))))))) := rfl

def f_B_keepMeetings (σ : Nat → Nat → Int32) (he : Int32) : (Nat → Nat → Int32) := (f_B_keepMeetings_lp2 σ he 6 (0 : Int32) σ)

set_option maxRecDepth 100000 in
set_option maxHeartbeats 4000000 in
theorem c_B_keepMeetings (l : Launch) (D : va_G) (cA ad t : Nat → Nat) (hap : kap 7 ad) (σ : Nat → Nat → Int32) (he : Int32) : Met l y_B_keepMeetings w_B_keepMeetings ({ frames := 0, cells := 0, slots := 0, locals := 0 } : Room) (va_Pc [.ref (ad 0), .int he] (bPre D cA ad t σ)) (kQv D (bw cA ad (f_B_keepMeetings σ he)) (kA 7 ad)) 0 0 (kA 7 ad) := by
  refine Met.ofW (cc := b_B_keepMeetings) (maxL := 4) (ret := none) (by decide) rfl ?_
  intro p e s m args below meth c s₁ B hml hv
  obtain ⟨rfl, hv⟩ := hv
  obtain ⟨hP, hK, hZ⟩ := hv
  have hx := B.exec
  have hb := B.bytes
  have hr := B.returns
  have hlocks := B.notSynchronized
  have hT : ∀ w ∈ TB, w.before ([.ref (ad 0), .int he] : List Value).toArray s = true := fun w h => atoms_spec (ws := w_B_keepMeetings) B.pre w (List.mem_cons_of_mem _ h)
  have hown : s.vm.findClass R_B = some m.cls := findClass_of_methodNamed B.named
  have hS : va_S (kA 7 ad) s.heap s.heap [] := va_S.rf
  have hD : ∀ σ, va_D (kA 7 ad) (bw cA ad σ) := fun σ => kD hap rfl
  have hl := lv_entry ([.ref (ad 0), .int he]) (n := 4) (Nat.le_of_ble_eq_true rfl)
  rw [lg_entry_eq]
  generalize (lg_sl ([.ref (ad 0), .int he]) ++ List.replicate (4 - (lg_sl ([.ref (ad 0), .int he])).length) Slot.unset).toArray = ls at hl ⊢
  have hl : lv_has ls 4 [(0, .ref (ad 0)), (1, .int he)] := hl
  have loop2 : ∀ (n i : Nat) (σ1 : Nat → Nat → Int32) (H : Heap) (locs : List Loc) (ls : Array Slot), i + n = 6 → lv_has ls 4 [(2, .int (nI i)), (0, .ref (ad 0)), (1, .int he)] → va_P D classes (bw cA ad σ1) H → va_S (kA 7 ad) s.heap H locs → f_B_keepMeetings_lp2 σ he n (nI i) σ1 = f_B_keepMeetings σ he → W p l e (headSpec w_B_keepMeetings ({ frames := 0, cells := 0, slots := 0, locals := 0 } : Room)).room s m ([.ref (ad 0), .int he] : List Value).toArray below meth c H locs 0 0 (MQ below (kQv D (bw cA ad (f_B_keepMeetings σ he)) (kA 7 ad)) ([.ref (ad 0), .int he] : List Value).toArray s 0 0 (kA 7 ad)) (F0 m 2 ls []) := by
    intro n
    induction n with
    | zero =>
      intro i σ1 H locs ls hi hl hP hS hg
      refine lv_iload_n hx hb d_B_keepMeetings_2 rfl (lv_at hl 0 rfl) ?_
      refine lv_bipush (v := (6 : Int32)) hx hb d_B_keepMeetings_3 (by decide) ?_
      refine lv_icmp_ge (tgt := 38) hx hb d_B_keepMeetings_5 (by decide) (fun _ => ?_) (fun h9 => absurd (nI_le (a := 6) (b := i) (by omega) (by omega)) h9)
      have e9 : σ1 = f_B_keepMeetings σ he := by rw [← hg, f_B_keepMeetings_lp2_z]
      exact W.vret hx hb hr (fun t ht hW => ⟨rfl, by rw [ht, ← e9]; exact hP, hS.F ht⟩) hS.2.2 d_B_keepMeetings_38
    | succ n ih =>
      intro i σ1 H locs ls hi hl hP hS hg
      refine lv_iload_n hx hb d_B_keepMeetings_2 rfl (lv_at hl 0 rfl) ?_
      refine lv_bipush (v := (6 : Int32)) hx hb d_B_keepMeetings_3 (by decide) ?_
      refine lv_icmp_ge (tgt := 38) hx hb d_B_keepMeetings_5 (by decide) (fun h9 => absurd h9 (nI_ge (a := i) (b := 6) (by omega) (by decide))) (fun _ => ?_)
      refine lv_iconst (v := (1 : Int32)) hx hb d_B_keepMeetings_8 (by decide) ?_
      refine lv_iload_n hx hb d_B_keepMeetings_9 rfl (lv_at hl 0 rfl) ?_
      refine lv_ishl hx hb d_B_keepMeetings_10 ?_
      refine lv_istore_n (lv' := [(3, .int ((1 : Int32) <<< ((nI i) &&& 31))), (2, .int (nI i)), (0, .ref (ad 0)), (1, .int he)]) hx hb d_B_keepMeetings_11 rfl hl (by decide) rfl (fun ls hl => ?_)
      refine lv_iload_n hx hb d_B_keepMeetings_12 rfl (lv_at hl 3 rfl) ?_
      refine lv_iload_n hx hb d_B_keepMeetings_13 rfl (lv_at hl 0 rfl) ?_
      refine lv_iand hx hb d_B_keepMeetings_14 ?_
      refine lv_if_eq (tgt := 32) hx hb d_B_keepMeetings_15 (by decide) (fun q1 => ?_) (fun q1 => ?_)
      · refine lv_iinc (v := (nI (i + 1))) (lv' := [(2, .int (nI (i + 1))), (3, .int ((1 : Int32) <<< ((nI i) &&& 31))), (0, .ref (ad 0)), (1, .int he)]) hx hb d_B_keepMeetings_32 hl (k := 1) rfl (by rw [nI_succ]; rfl) (by decide) rfl (fun ls hl => ?_)
        refine lv_goto (tgt := 2) hx hb d_B_keepMeetings_35 (by decide) ?_
        exact ih (i + 1) σ1 H locs ls (by omega) (lv_sub hl [0, 2, 3] rfl) hP hS (by rw [← hg, f_B_keepMeetings_lp2_s, if_pos q1, nI_succ])
      · refine lv_aload_n hx hb d_B_keepMeetings_18 rfl (lv_at hl 2 rfl) ?_
        refine va_get (D := D) (ci := 0) (v := .ref (ad 5)) (C := R_B) (T := F_B) (N := 10) hx hb hT in_B hown hK hP 0 rfl rfl 4 (by decide) (hT _ fl_B_22) (fun _ h9 => h9) rfl d_B_keepMeetings_19 ?_
        refine lv_iload_n hx hb d_B_keepMeetings_22 rfl (lv_at hl 1 rfl) ?_
        refine lv_dup2_11 hx hb d_B_keepMeetings_23 rfl rfl ?_
        refine va_iald hx hb hK hP 5 0 rfl rfl (by first | assumption | exact kin (by decide) | exact vp_in_nI (by omega) (by decide)) d_B_keepMeetings_24 ?_
        refine lv_iload_n hx hb d_B_keepMeetings_25 rfl (lv_at hl 3 rfl) ?_
        refine lv_iload_n hx hb d_B_keepMeetings_26 rfl (lv_at hl 0 rfl) ?_
        refine lv_iconst (v := (-1 : Int32)) hx hb d_B_keepMeetings_27 (by decide) ?_
        refine lv_ixor hx hb d_B_keepMeetings_28 ?_
        refine lv_iand hx hb d_B_keepMeetings_29 ?_
        refine lv_ior hx hb d_B_keepMeetings_30 ?_
        refine va_iast (A := (kA 7 ad)) hx hb hK hP (hD _) hS 5 0 rfl rfl (by first | assumption | exact kin (by decide) | exact vp_in_nI (by omega) (by decide)) d_B_keepMeetings_31 (fun H locs hP _ hS => ?_)
        have hP := kst (bw_s5 cA ad σ1 ((nI i)).toNatClampNeg ((σ1 4 ((nI i)).toNatClampNeg) ||| (he &&& (((1 : Int32) <<< ((nI i) &&& 31)) ^^^ (-1 : Int32))))) hP
        refine lv_iinc (v := (nI (i + 1))) (lv' := [(2, .int (nI (i + 1))), (3, .int ((1 : Int32) <<< ((nI i) &&& 31))), (0, .ref (ad 0)), (1, .int he)]) hx hb d_B_keepMeetings_32 hl (k := 1) rfl (by rw [nI_succ]; rfl) (by decide) rfl (fun ls hl => ?_)
        refine lv_goto (tgt := 2) hx hb d_B_keepMeetings_35 (by decide) ?_
        exact ih (i + 1) (kup σ1 4 ((nI i)).toNatClampNeg ((σ1 4 ((nI i)).toNatClampNeg) ||| (he &&& (((1 : Int32) <<< ((nI i) &&& 31)) ^^^ (-1 : Int32))))) H locs ls (by omega) (lv_sub hl [0, 2, 3] rfl) hP hS (by rw [← hg, f_B_keepMeetings_lp2_s, if_neg q1, nI_succ])
  refine lv_iconst (v := (0 : Int32)) hx hb d_B_keepMeetings_0 (by decide) ?_
  refine lv_istore_n (lv' := [(2, .int (0 : Int32)), (0, .ref (ad 0)), (1, .int he)]) hx hb d_B_keepMeetings_1 rfl hl (by decide) rfl (fun ls hl => ?_)
  exact loop2 6 0 σ s.heap [] ls rfl (lv_sub hl [0, 1, 2] rfl) hP hS (by rw [f_B_keepMeetings]; rfl)

def f_B_draw_lp4 (σ : Nat → Nat → Int32) (x : Int32) : Nat → Int32 → Int32 → (Nat → Nat → Int32) → (Nat → Nat → Int32)
  | 0, i, acc, σ1 => (f_B_keepMeetings (kup σ1 3 (x).toNatClampNeg (f_B_colourAt σ1 x acc)) acc)
  | n + 1, i, acc, σ1 => (if (f_B_isAt σ1 i x) = 0 then (f_B_draw_lp4 σ x n (i + 1) acc σ1) else (f_B_draw_lp4 σ x n (i + 1) (acc ||| ((1 : Int32) <<< (i &&& 31))) σ1))
theorem f_B_draw_lp4_z (σ : Nat → Nat → Int32) (x : Int32) (i : Int32) (acc : Int32) (σ1 : Nat → Nat → Int32) : f_B_draw_lp4 σ x 0 i acc σ1 = (f_B_keepMeetings (kup σ1 3 (x).toNatClampNeg (f_B_colourAt σ1 x acc)) acc) := rfl
theorem f_B_draw_lp4_s (σ : Nat → Nat → Int32) (x : Int32) (n : Nat) (i : Int32) (acc : Int32) (σ1 : Nat → Nat → Int32) : f_B_draw_lp4 σ x (n + 1) i acc σ1 = (if (f_B_isAt σ1 i x) = 0 then (f_B_draw_lp4 σ x n (i + 1) acc σ1) else (f_B_draw_lp4 σ x n (i + 1) (acc ||| ((1 : Int32) <<< (i &&& 31))) σ1)) := rfl

def f_B_draw (σ : Nat → Nat → Int32) (x : Int32) : (Nat → Nat → Int32) := (f_B_draw_lp4 σ x 6 (0 : Int32) (0 : Int32) σ)

set_option maxRecDepth 100000 in
set_option maxHeartbeats 4000000 in
theorem c_B_draw (l : Launch) (D : va_G) (cA ad t : Nat → Nat) (hap : kap 7 ad) (σ : Nat → Nat → Int32) (x : Int32) (h1 : vp_in x 160) : Met l y_B_draw w_B_draw ({ frames := 4, cells := 0, slots := 0, locals := 92 } : Room) (va_Pc [.ref (ad 0), .int x] (bPre D cA ad t σ)) (kQv D (bw cA ad (f_B_draw σ x)) (kA 7 ad)) 0 0 (kA 7 ad) := by
  refine Met.ofW (cc := b_B_draw) (maxL := 4) (ret := none) (by decide) rfl ?_
  intro p e s m args below meth c s₁ B hml hv
  obtain ⟨rfl, hv⟩ := hv
  obtain ⟨hP, hK, hZ⟩ := hv
  have hx := B.exec
  have hb := B.bytes
  have hr := B.returns
  have hlocks := B.notSynchronized
  have hT : ∀ w ∈ TB, w.before ([.ref (ad 0), .int x] : List Value).toArray s = true := fun w h => atoms_spec (ws := w_B_draw) B.pre w (List.mem_cons_of_mem _ h)
  have hown : s.vm.findClass R_B = some m.cls := findClass_of_methodNamed B.named
  have hS : va_S (kA 7 ad) s.heap s.heap [] := va_S.rf
  have hD : ∀ σ, va_D (kA 7 ad) (bw cA ad σ) := fun σ => kD hap rfl
  have hl := lv_entry ([.ref (ad 0), .int x]) (n := 4) (Nat.le_of_ble_eq_true rfl)
  rw [lg_entry_eq]
  generalize (lg_sl ([.ref (ad 0), .int x]) ++ List.replicate (4 - (lg_sl ([.ref (ad 0), .int x])).length) Slot.unset).toArray = ls at hl ⊢
  have hl : lv_has ls 4 [(0, .ref (ad 0)), (1, .int x)] := hl
  have loop4 : ∀ (n i : Nat) (acc : Int32) (σ1 : Nat → Nat → Int32) (H : Heap) (locs : List Loc) (ls : Array Slot), i + n = 6 → lv_has ls 4 [(3, .int (nI i)), (2, .int acc), (0, .ref (ad 0)), (1, .int x)] → va_P D classes (bw cA ad σ1) H → va_S (kA 7 ad) s.heap H locs → f_B_draw_lp4 σ x n (nI i) acc σ1 = f_B_draw σ x → W p l e (headSpec w_B_draw ({ frames := 4, cells := 0, slots := 0, locals := 92 } : Room)).room s m ([.ref (ad 0), .int x] : List Value).toArray below meth c H locs 0 0 (MQ below (kQv D (bw cA ad (f_B_draw σ x)) (kA 7 ad)) ([.ref (ad 0), .int x] : List Value).toArray s 0 0 (kA 7 ad)) (F0 m 4 ls []) := by
    intro n
    induction n with
    | zero =>
      intro i acc σ1 H locs ls hi hl hP hS hg
      refine lv_iload_n hx hb d_B_draw_4 rfl (lv_at hl 0 rfl) ?_
      refine lv_bipush (v := (6 : Int32)) hx hb d_B_draw_5 (by decide) ?_
      refine lv_icmp_ge (tgt := 31) hx hb d_B_draw_7 (by decide) (fun _ => ?_) (fun h9 => absurd (nI_le (a := 6) (b := i) (by omega) (by omega)) h9)
      refine lv_aload_n hx hb d_B_draw_31 rfl (lv_at hl 2 rfl) ?_
      refine va_get (D := D) (ci := 0) (v := .ref (ad 4)) (C := R_B) (T := F_B) (N := 10) hx hb hT in_B hown hK hP 0 rfl rfl 3 (by decide) (hT _ fl_B_19) (fun _ h9 => h9) rfl d_B_draw_32 ?_
      refine lv_iload_n hx hb d_B_draw_35 rfl (lv_at hl 3 rfl) ?_
      refine lv_aload_n hx hb d_B_draw_36 rfl (lv_at hl 2 rfl) ?_
      refine lv_iload_n hx hb d_B_draw_37 rfl (lv_at hl 3 rfl) ?_
      refine lv_iload_n hx hb d_B_draw_38 rfl (lv_at hl 1 rfl) ?_
      refine vp_callSi (va_Run.run (va_runV (As := [.int x, .int acc]) (rest := [.int x, .ref (ad 4)]) ⟨hx, hb, hml, hown, hT⟩ (c_B_colourAt l D cA ad t hap σ1 x acc) (kCV 2 hT ml_B_136 mi_B_colourAt ⟨Nat.le_of_ble_eq_true rfl, Nat.le_of_ble_eq_true rfl⟩) (bpreV hK hP hZ hS) rfl rfl hl.1 rfl (lv_room (Nat.le_of_ble_eq_true rfl)) d_B_draw_39 ⟨Nat.le_of_ble_eq_true rfl, Nat.le_of_ble_eq_true rfl⟩)) (fun r9 e9 => ?_)
      subst e9
      refine va_iast (A := (kA 7 ad)) hx hb hK hP (hD _) hS 4 0 rfl rfl (by first | assumption | exact kin (by decide) | exact vp_in_nI (by omega) (by decide)) d_B_draw_42 (fun H locs hP _ hS => ?_)
      have hP := kst (bw_s4 cA ad σ1 (x).toNatClampNeg (f_B_colourAt σ1 x acc)) hP
      refine lv_aload_n hx hb d_B_draw_43 rfl (lv_at hl 2 rfl) ?_
      refine lv_iload_n hx hb d_B_draw_44 rfl (lv_at hl 1 rfl) ?_
      refine kcv (va_runV (As := [.int acc]) (rest := []) ⟨hx, hb, hml, hown, hT⟩ (c_B_keepMeetings l D cA ad t hap (kup σ1 3 (x).toNatClampNeg (f_B_colourAt σ1 x acc)) acc) (kCV 1 hT ml_B_139 mi_B_keepMeetings ⟨Nat.le_of_ble_eq_true rfl, Nat.le_of_ble_eq_true rfl⟩) (bpreV hK hP hZ hS) rfl rfl hl.1 rfl (lv_room (Nat.le_of_ble_eq_true rfl)) d_B_draw_45 ⟨Nat.le_of_ble_eq_true rfl, Nat.le_of_ble_eq_true rfl⟩) hS (fun H locs hP hS => ?_)
      have e9 : (f_B_keepMeetings (kup σ1 3 (x).toNatClampNeg (f_B_colourAt σ1 x acc)) acc) = f_B_draw σ x := by rw [← hg, f_B_draw_lp4_z]
      exact W.vret hx hb hr (fun t ht hW => ⟨rfl, by rw [ht, ← e9]; exact hP, hS.F ht⟩) hS.2.2 d_B_draw_48
    | succ n ih =>
      intro i acc σ1 H locs ls hi hl hP hS hg
      refine lv_iload_n hx hb d_B_draw_4 rfl (lv_at hl 0 rfl) ?_
      refine lv_bipush (v := (6 : Int32)) hx hb d_B_draw_5 (by decide) ?_
      refine lv_icmp_ge (tgt := 31) hx hb d_B_draw_7 (by decide) (fun h9 => absurd h9 (nI_ge (a := i) (b := 6) (by omega) (by decide))) (fun _ => ?_)
      refine lv_aload_n hx hb d_B_draw_10 rfl (lv_at hl 2 rfl) ?_
      refine lv_iload_n hx hb d_B_draw_11 rfl (lv_at hl 0 rfl) ?_
      refine lv_iload_n hx hb d_B_draw_12 rfl (lv_at hl 3 rfl) ?_
      refine vp_callSi (va_Run.run (va_runV (As := [.int (nI i), .int x]) (rest := []) ⟨hx, hb, hml, hown, hT⟩ (c_B_isAt l D cA ad t hap σ1 (nI i) x (by first | assumption | exact kin (by decide) | exact vp_in_nI (by omega) (by decide))) (kCV 2 hT ml_B_60 mi_B_isAt ⟨Nat.le_of_ble_eq_true rfl, Nat.le_of_ble_eq_true rfl⟩) (bpreV hK hP hZ hS) rfl rfl hl.1 rfl (lv_room (Nat.le_of_ble_eq_true rfl)) d_B_draw_13 ⟨Nat.le_of_ble_eq_true rfl, Nat.le_of_ble_eq_true rfl⟩)) (fun r9 e9 => ?_)
      subst e9
      refine lv_if_eq (tgt := 25) hx hb d_B_draw_16 (by decide) (fun q1 => ?_) (fun q1 => ?_)
      · refine lv_iinc (v := (nI (i + 1))) (lv' := [(3, .int (nI (i + 1))), (2, .int acc), (0, .ref (ad 0)), (1, .int x)]) hx hb d_B_draw_25 hl (k := 0) rfl (by rw [nI_succ]; rfl) (by decide) rfl (fun ls hl => ?_)
        refine lv_goto (tgt := 4) hx hb d_B_draw_28 (by decide) ?_
        exact ih (i + 1) acc σ1 H locs ls (by omega) (lv_sub hl [0, 1, 2, 3] rfl) hP hS (by rw [← hg, f_B_draw_lp4_s, if_pos q1, nI_succ])
      · refine lv_iload_n hx hb d_B_draw_19 rfl (lv_at hl 1 rfl) ?_
        refine lv_iconst (v := (1 : Int32)) hx hb d_B_draw_20 (by decide) ?_
        refine lv_iload_n hx hb d_B_draw_21 rfl (lv_at hl 0 rfl) ?_
        refine lv_ishl hx hb d_B_draw_22 ?_
        refine lv_ior hx hb d_B_draw_23 ?_
        refine lv_istore_n (lv' := [(2, .int (acc ||| ((1 : Int32) <<< ((nI i) &&& 31)))), (3, .int (nI i)), (0, .ref (ad 0)), (1, .int x)]) hx hb d_B_draw_24 rfl hl (by decide) rfl (fun ls hl => ?_)
        refine lv_iinc (v := (nI (i + 1))) (lv' := [(3, .int (nI (i + 1))), (2, .int (acc ||| ((1 : Int32) <<< ((nI i) &&& 31)))), (0, .ref (ad 0)), (1, .int x)]) hx hb d_B_draw_25 hl (k := 1) rfl (by rw [nI_succ]; rfl) (by decide) rfl (fun ls hl => ?_)
        refine lv_goto (tgt := 4) hx hb d_B_draw_28 (by decide) ?_
        exact ih (i + 1) (acc ||| ((1 : Int32) <<< ((nI i) &&& 31))) σ1 H locs ls (by omega) (lv_sub hl [0, 1, 2, 3] rfl) hP hS (by rw [← hg, f_B_draw_lp4_s, if_neg q1, nI_succ])
  refine lv_iconst (v := (0 : Int32)) hx hb d_B_draw_0 (by decide) ?_
  refine lv_istore_n (lv' := [(2, .int (0 : Int32)), (0, .ref (ad 0)), (1, .int x)]) hx hb d_B_draw_1 rfl hl (by decide) rfl (fun ls hl => ?_)
  refine lv_iconst (v := (0 : Int32)) hx hb d_B_draw_2 (by decide) ?_
  refine lv_istore_n (lv' := [(3, .int (0 : Int32)), (2, .int (0 : Int32)), (0, .ref (ad 0)), (1, .int x)]) hx hb d_B_draw_3 rfl hl (by decide) rfl (fun ls hl => ?_)
  exact loop4 6 0 (0 : Int32) σ s.heap [] ls rfl (lv_sub hl [0, 1, 2, 3] rfl) hP hS (by rw [f_B_draw]; rfl)
