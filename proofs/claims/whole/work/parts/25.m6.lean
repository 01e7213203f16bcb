def f_M_clocks_lp28 (σ : Nat → Nat → Int32) (N : Nat) : Nat → Int32 → (Nat → Nat → Int32) → (Int32 × (Nat → Nat → Int32))
  | 0, i, σ1 => ((σ1 7 3), σ1)
  | n + 1, i, σ1 => (f_M_clocks_lp28 σ N n (i + 1) (f_M_oneClock σ1))
theorem f_M_clocks_lp28_z (σ : Nat → Nat → Int32) (N : Nat) (i : Int32) (σ1 : Nat → Nat → Int32) : f_M_clocks_lp28 σ N 0 i σ1 = ((σ1 7 3), σ1) := rfl
theorem f_M_clocks_lp28_s (σ : Nat → Nat → Int32) (N : Nat) (n : Nat) (i : Int32) (σ1 : Nat → Nat → Int32) : f_M_clocks_lp28 σ N (n + 1) i σ1 = (f_M_clocks_lp28 σ N n (i + 1) (f_M_oneClock σ1)) := rfl

def f_M_clocks (σ : Nat → Nat → Int32) (N : Nat) : (Int32 × (Nat → Nat → Int32)) := (if (nI N) < 0 then ((0 : Int32), (f_M_goes σ (0 : Int32) (1 : Int32)).2) else (if (2000 : Int32) < (nI N) then ((0 : Int32), (f_M_goes σ (0 : Int32) (1 : Int32)).2) else (f_M_clocks_lp28 σ N N (0 : Int32) (f_M_goes σ (1 : Int32) (1 : Int32)).2)))

set_option maxRecDepth 100000 in
set_option maxHeartbeats 4000000 in
theorem c_M_clocks (l : Launch) (D : va_G) (cA ad : Nat → Nat) (hap : kap 8 ad) (σ : Nat → Nat → Int32) (N : Nat) (hN : N < 2 ^ 31) (h0 : mClk σ) : Met l y_M_clocks w_M_clocks ({ frames := 6, cells := 0, slots := 0, locals := 135 } : Room) (va_Pc [.ref (ad 0), .int (nI N)] (mPre D cA ad σ)) (kQi D (mw cA ad (f_M_clocks σ N).2) (kA 8 ad) (f_M_clocks σ N).1) 0 0 (kA 8 ad) := by
  refine Met.ofW (cc := b_M_clocks) (maxL := 3) (ret := (some .int)) (by decide) rfl ?_
  intro p e s m args below meth c s₁ B hml hv
  obtain ⟨rfl, hv⟩ := hv
  obtain ⟨hP, hK⟩ := hv
  have hx := B.exec
  have hb := B.bytes
  have hr := B.returns
  have hlocks := B.notSynchronized
  have hT : ∀ w ∈ TB, w.before ([.ref (ad 0), .int (nI N)] : List Value).toArray s = true := fun w h => atoms_spec (ws := w_M_clocks) B.pre w (List.mem_cons_of_mem _ h)
  have hown : s.vm.findClass R_M = some m.cls := findClass_of_methodNamed B.named
  have hS : va_S (kA 8 ad) s.heap s.heap [] := va_S.rf
  have hD : ∀ σ, va_D (kA 8 ad) (mw cA ad σ) := fun σ => kD hap rfl
  have hl := lv_entry ([.ref (ad 0), .int (nI N)]) (n := 3) (Nat.le_of_ble_eq_true rfl)
  rw [lg_entry_eq]
  generalize (lg_sl ([.ref (ad 0), .int (nI N)]) ++ List.replicate (3 - (lg_sl ([.ref (ad 0), .int (nI N)])).length) Slot.unset).toArray = ls at hl ⊢
  have hl : lv_has ls 3 [(0, .ref (ad 0)), (1, .int (nI N))] := hl
  have loop28 : ∀ (n i : Nat) (σ1 : Nat → Nat → Int32) (H : Heap) (locs : List Loc) (ls : Array Slot), i + n = N → lv_has ls 3 [(2, .int (nI i)), (0, .ref (ad 0)), (1, .int (nI N))] → va_P D classes (mw cA ad σ1) H → va_S (kA 8 ad) s.heap H locs → mClk σ1 → f_M_clocks_lp28 σ N n (nI i) σ1 = f_M_clocks σ N → W p l e (headSpec w_M_clocks ({ frames := 6, cells := 0, slots := 0, locals := 135 } : Room)).room s m ([.ref (ad 0), .int (nI N)] : List Value).toArray below meth c H locs 0 0 (MQ below (kQi D (mw cA ad (f_M_clocks σ N).2) (kA 8 ad) (f_M_clocks σ N).1) ([.ref (ad 0), .int (nI N)] : List Value).toArray s 0 0 (kA 8 ad)) (F0 m 28 ls []) := by
    intro n
    induction n with
    | zero =>
      intro i σ1 H locs ls hi hl hP hS hk hg
      refine lv_iload_n hx hb d_M_clocks_28 rfl (lv_at hl 0 rfl) ?_
      refine lv_iload_n hx hb d_M_clocks_29 rfl (lv_at hl 2 rfl) ?_
      refine lv_icmp_ge (tgt := 43) hx hb d_M_clocks_30 (by decide) (fun _ => ?_) (fun h9 => absurd (nI_le (a := N) (b := i) (by omega) (by omega)) h9)
      refine lv_aload_n hx hb d_M_clocks_43 rfl (lv_at hl 1 rfl) ?_
      refine va_get (D := D) (ci := 2) (v := .int (σ1 7 3)) (C := R_M) (T := F_M) (N := 17) hx hb hT in_M hown hK hP 0 rfl rfl 10 (by decide) (hT _ fl_M_50) (fun _ h9 => h9) rfl d_M_clocks_44 ?_
      have e9 : ((σ1 7 3), σ1) = f_M_clocks σ N := by rw [← hg, f_M_clocks_lp28_z]
      exact W.iret (v := (σ1 7 3)) hx hb hr (fun t ht hW => ⟨by rw [← e9], by rw [ht, ← e9]; exact hP, hS.F ht⟩) hS.2.2 d_M_clocks_47
    | succ n ih =>
      intro i σ1 H locs ls hi hl hP hS hk hg
      refine lv_iload_n hx hb d_M_clocks_28 rfl (lv_at hl 0 rfl) ?_
      refine lv_iload_n hx hb d_M_clocks_29 rfl (lv_at hl 2 rfl) ?_
      refine lv_icmp_ge (tgt := 43) hx hb d_M_clocks_30 (by decide) (fun h9 => absurd h9 (nI_ge (a := i) (b := N) (by omega) hN)) (fun _ => ?_)
      refine lv_aload_n hx hb d_M_clocks_33 rfl (lv_at hl 1 rfl) ?_
      refine kcv (va_runV (As := []) (rest := []) ⟨hx, hb, hml, hown, hT⟩ (c_M_oneClock l D cA ad hap σ1 (by first | assumption | exact kin (by decide))) (kCV 0 hT ml_M_125 mi_M_oneClock ⟨Nat.le_of_ble_eq_true rfl, Nat.le_of_ble_eq_true rfl⟩) (mpreV hK hP) rfl rfl hl.1 rfl (lv_room (Nat.le_of_ble_eq_true rfl)) d_M_clocks_34 ⟨Nat.le_of_ble_eq_true rfl, Nat.le_of_ble_eq_true rfl⟩) hS (fun H locs hP hS => ?_)
      refine lv_iinc (v := (nI (i + 1))) (lv' := [(2, .int (nI (i + 1))), (0, .ref (ad 0)), (1, .int (nI N))]) hx hb d_M_clocks_37 hl (k := 0) rfl (by rw [nI_succ]; rfl) (by decide) rfl (fun ls hl => ?_)
      refine lv_goto (tgt := 28) hx hb d_M_clocks_40 (by decide) ?_
      exact ih (i + 1) (f_M_oneClock σ1) H locs ls (by omega) (lv_sub hl [0, 1, 2] rfl) hP hS (mClk_one hk) (by rw [← hg, f_M_clocks_lp28_s, nI_succ])
  refine lv_aload_n hx hb d_M_clocks_0 rfl (lv_at hl 0 rfl) ?_
  refine lv_iload_n hx hb d_M_clocks_1 rfl (lv_at hl 1 rfl) ?_
  refine lv_if_lt (tgt := 16) hx hb d_M_clocks_2 (by decide) (fun q1 => ?_) (fun q1 => ?_)
  · refine lv_iconst (v := (0 : Int32)) hx hb d_M_clocks_16 (by decide) ?_
    refine lv_iconst (v := (1 : Int32)) hx hb d_M_clocks_17 (by decide) ?_
    refine kci (va_runV (As := [.int (0 : Int32), .int (1 : Int32)]) (rest := []) ⟨hx, hb, hml, hown, hT⟩ (c_M_goes l D cA ad hap σ (0 : Int32) (1 : Int32)) (kCV 2 hT ml_M_60 mi_M_goes ⟨Nat.le_of_ble_eq_true rfl, Nat.le_of_ble_eq_true rfl⟩) (mpreV hK hP) rfl rfl hl.1 rfl (lv_room (Nat.le_of_ble_eq_true rfl)) d_M_clocks_18 ⟨Nat.le_of_ble_eq_true rfl, Nat.le_of_ble_eq_true rfl⟩) hS (fun H locs hP hS => ?_)
    refine lv_if_ne (tgt := 26) hx hb d_M_clocks_21 (by decide) (fun h9 => absurd (kgo0 ..) h9) (fun _ => ?_)
    refine lv_iconst (v := (0 : Int32)) hx hb d_M_clocks_24 (by decide) ?_
    have e9 : ((0 : Int32), (f_M_goes σ (0 : Int32) (1 : Int32)).2) = f_M_clocks σ N := by rw [f_M_clocks, if_pos q1]
    exact W.iret (v := (0 : Int32)) hx hb hr (fun t ht hW => ⟨by rw [← e9], by rw [ht, ← e9]; exact hP, hS.F ht⟩) hS.2.2 d_M_clocks_25
  · refine lv_iload_n hx hb d_M_clocks_5 rfl (lv_at hl 1 rfl) ?_
    refine lv_sipush (v := (2000 : Int32)) hx hb d_M_clocks_6 (by decide) ?_
    refine lv_icmp_gt (tgt := 16) hx hb d_M_clocks_9 (by decide) (fun q2 => ?_) (fun q2 => ?_)
    · refine lv_iconst (v := (0 : Int32)) hx hb d_M_clocks_16 (by decide) ?_
      refine lv_iconst (v := (1 : Int32)) hx hb d_M_clocks_17 (by decide) ?_
      refine kci (va_runV (As := [.int (0 : Int32), .int (1 : Int32)]) (rest := []) ⟨hx, hb, hml, hown, hT⟩ (c_M_goes l D cA ad hap σ (0 : Int32) (1 : Int32)) (kCV 2 hT ml_M_60 mi_M_goes ⟨Nat.le_of_ble_eq_true rfl, Nat.le_of_ble_eq_true rfl⟩) (mpreV hK hP) rfl rfl hl.1 rfl (lv_room (Nat.le_of_ble_eq_true rfl)) d_M_clocks_18 ⟨Nat.le_of_ble_eq_true rfl, Nat.le_of_ble_eq_true rfl⟩) hS (fun H locs hP hS => ?_)
      refine lv_if_ne (tgt := 26) hx hb d_M_clocks_21 (by decide) (fun h9 => absurd (kgo0 ..) h9) (fun _ => ?_)
      refine lv_iconst (v := (0 : Int32)) hx hb d_M_clocks_24 (by decide) ?_
      have e9 : ((0 : Int32), (f_M_goes σ (0 : Int32) (1 : Int32)).2) = f_M_clocks σ N := by rw [f_M_clocks, if_neg q1, if_pos q2]
      exact W.iret (v := (0 : Int32)) hx hb hr (fun t ht hW => ⟨by rw [← e9], by rw [ht, ← e9]; exact hP, hS.F ht⟩) hS.2.2 d_M_clocks_25
    · refine lv_iconst (v := (1 : Int32)) hx hb d_M_clocks_12 (by decide) ?_
      refine lv_goto (tgt := 17) hx hb d_M_clocks_13 (by decide) ?_
      refine lv_iconst (v := (1 : Int32)) hx hb d_M_clocks_17 (by decide) ?_
      refine kci (va_runV (As := [.int (1 : Int32), .int (1 : Int32)]) (rest := []) ⟨hx, hb, hml, hown, hT⟩ (c_M_goes l D cA ad hap σ (1 : Int32) (1 : Int32)) (kCV 2 hT ml_M_60 mi_M_goes ⟨Nat.le_of_ble_eq_true rfl, Nat.le_of_ble_eq_true rfl⟩) (mpreV hK hP) rfl rfl hl.1 rfl (lv_room (Nat.le_of_ble_eq_true rfl)) d_M_clocks_18 ⟨Nat.le_of_ble_eq_true rfl, Nat.le_of_ble_eq_true rfl⟩) hS (fun H locs hP hS => ?_)
      refine lv_if_ne (tgt := 26) hx hb d_M_clocks_21 (by decide) (fun _ => ?_) (fun h9 => absurd h9 (kgo1 _))
      refine lv_iconst (v := (0 : Int32)) hx hb d_M_clocks_26 (by decide) ?_
      refine lv_istore_n (lv' := [(2, .int (0 : Int32)), (0, .ref (ad 0)), (1, .int (nI N))]) hx hb d_M_clocks_27 rfl hl (by decide) rfl (fun ls hl => ?_)
      exact loop28 N 0 (f_M_goes σ (1 : Int32) (1 : Int32)).2 H locs ls (by omega) (lv_sub hl [0, 1, 2] rfl) hP hS (mClk_goes h0) (by rw [f_M_clocks, if_neg q1, if_neg q2]; rfl)

def f_M_clocksN (σ : Nat → Nat → Int32) (n : Int32) : (Int32 × (Nat → Nat → Int32)) := ((0 : Int32), (f_M_goes σ (0 : Int32) (1 : Int32)).2)

set_option maxRecDepth 100000 in
set_option maxHeartbeats 4000000 in
theorem c_M_clocksN (l : Launch) (D : va_G) (cA ad : Nat → Nat) (hap : kap 8 ad) (σ : Nat → Nat → Int32) (n : Int32) (h1 : n < 0) : Met l y_M_clocks w_M_clocks ({ frames := 6, cells := 0, slots := 0, locals := 135 } : Room) (va_Pc [.ref (ad 0), .int n] (mPre D cA ad σ)) (kQi D (mw cA ad (f_M_clocksN σ n).2) (kA 8 ad) (f_M_clocksN σ n).1) 0 0 (kA 8 ad) := by
  refine Met.ofW (cc := b_M_clocks) (maxL := 3) (ret := (some .int)) (by decide) rfl ?_
  intro p e s m args below meth c s₁ B hml hv
  obtain ⟨rfl, hv⟩ := hv
  obtain ⟨hP, hK⟩ := hv
  have hx := B.exec
  have hb := B.bytes
  have hr := B.returns
  have hlocks := B.notSynchronized
  have hT : ∀ w ∈ TB, w.before ([.ref (ad 0), .int n] : List Value).toArray s = true := fun w h => atoms_spec (ws := w_M_clocks) B.pre w (List.mem_cons_of_mem _ h)
  have hown : s.vm.findClass R_M = some m.cls := findClass_of_methodNamed B.named
  have hS : va_S (kA 8 ad) s.heap s.heap [] := va_S.rf
  have hD : ∀ σ, va_D (kA 8 ad) (mw cA ad σ) := fun σ => kD hap rfl
  have hl := lv_entry ([.ref (ad 0), .int n]) (n := 3) (Nat.le_of_ble_eq_true rfl)
  rw [lg_entry_eq]
  generalize (lg_sl ([.ref (ad 0), .int n]) ++ List.replicate (3 - (lg_sl ([.ref (ad 0), .int n])).length) Slot.unset).toArray = ls at hl ⊢
  have hl : lv_has ls 3 [(0, .ref (ad 0)), (1, .int n)] := hl
  refine lv_aload_n hx hb d_M_clocks_0 rfl (lv_at hl 0 rfl) ?_
  refine lv_iload_n hx hb d_M_clocks_1 rfl (lv_at hl 1 rfl) ?_
  refine lv_if_lt (tgt := 16) hx hb d_M_clocks_2 (by decide) (fun _ => ?_) (fun h9 => absurd h1 h9)
  refine lv_iconst (v := (0 : Int32)) hx hb d_M_clocks_16 (by decide) ?_
  refine lv_iconst (v := (1 : Int32)) hx hb d_M_clocks_17 (by decide) ?_
  refine kci (va_runV (As := [.int (0 : Int32), .int (1 : Int32)]) (rest := []) ⟨hx, hb, hml, hown, hT⟩ (c_M_goes l D cA ad hap σ (0 : Int32) (1 : Int32)) (kCV 2 hT ml_M_60 mi_M_goes ⟨Nat.le_of_ble_eq_true rfl, Nat.le_of_ble_eq_true rfl⟩) (mpreV hK hP) rfl rfl hl.1 rfl (lv_room (Nat.le_of_ble_eq_true rfl)) d_M_clocks_18 ⟨Nat.le_of_ble_eq_true rfl, Nat.le_of_ble_eq_true rfl⟩) hS (fun H locs hP hS => ?_)
  refine lv_if_ne (tgt := 26) hx hb d_M_clocks_21 (by decide) (fun h9 => absurd (kgo0 ..) h9) (fun _ => ?_)
  refine lv_iconst (v := (0 : Int32)) hx hb d_M_clocks_24 (by decide) ?_
  have e9 : ((0 : Int32), (f_M_goes σ (0 : Int32) (1 : Int32)).2) = f_M_clocksN σ n := by rw [f_M_clocksN]
  exact W.iret (v := (0 : Int32)) hx hb hr (fun t ht hW => ⟨by rw [← e9], by rw [ht, ← e9]; exact hP, hS.F ht⟩) hS.2.2 d_M_clocks_25

def f_M_sync_lp16 (σ : Nat → Nat → Int32) (N : Nat) : Nat → Int32 → (Nat → Nat → Int32) → (Int32 × (Nat → Nat → Int32))
  | 0, i, σ1 => ((nI N), σ1)
  | n + 1, i, σ1 => (f_M_sync_lp16 σ N n (i + 1) (f_M_oneClock σ1))
theorem f_M_sync_lp16_z (σ : Nat → Nat → Int32) (N : Nat) (i : Int32) (σ1 : Nat → Nat → Int32) : f_M_sync_lp16 σ N 0 i σ1 = ((nI N), σ1) := rfl
theorem f_M_sync_lp16_s (σ : Nat → Nat → Int32) (N : Nat) (n : Nat) (i : Int32) (σ1 : Nat → Nat → Int32) : f_M_sync_lp16 σ N (n + 1) i σ1 = (f_M_sync_lp16 σ N n (i + 1) (f_M_oneClock σ1)) := rfl

def f_M_sync (σ : Nat → Nat → Int32) (N : Nat) : (Int32 × (Nat → Nat → Int32)) := (f_M_sync_lp16 σ N N (0 : Int32) (kup σ 7 0 (0 : Int32)))

set_option maxRecDepth 100000 in
set_option maxHeartbeats 4000000 in
theorem c_M_sync (l : Launch) (D : va_G) (cA ad : Nat → Nat) (hap : kap 8 ad) (σ : Nat → Nat → Int32) (N : Nat) (hN : N < 2 ^ 31) (h0 : mClk σ) (hc : ((228 : Int32) - (σ 7 3)) = (nI N)) : Met l y_M_sync w_M_sync ({ frames := 6, cells := 0, slots := 0, locals := 135 } : Room) (va_Pc [.ref (ad 0)] (mPre D cA ad σ)) (kQi D (mw cA ad (f_M_sync σ N).2) (kA 8 ad) (f_M_sync σ N).1) 0 0 (kA 8 ad) := by
  refine Met.ofW (cc := b_M_sync) (maxL := 3) (ret := (some .int)) (by decide) rfl ?_
  intro p e s m args below meth c s₁ B hml hv
  obtain ⟨rfl, hv⟩ := hv
  obtain ⟨hP, hK⟩ := hv
  have hx := B.exec
  have hb := B.bytes
  have hr := B.returns
  have hlocks := B.notSynchronized
  have hT : ∀ w ∈ TB, w.before ([.ref (ad 0)] : List Value).toArray s = true := fun w h => atoms_spec (ws := w_M_sync) B.pre w (List.mem_cons_of_mem _ h)
  have hown : s.vm.findClass R_M = some m.cls := findClass_of_methodNamed B.named
  have hS : va_S (kA 8 ad) s.heap s.heap [] := va_S.rf
  have hD : ∀ σ, va_D (kA 8 ad) (mw cA ad σ) := fun σ => kD hap rfl
  have hl := lv_entry ([.ref (ad 0)]) (n := 3) (Nat.le_of_ble_eq_true rfl)
  rw [lg_entry_eq]
  generalize (lg_sl ([.ref (ad 0)]) ++ List.replicate (3 - (lg_sl ([.ref (ad 0)])).length) Slot.unset).toArray = ls at hl ⊢
  have hl : lv_has ls 3 [(0, .ref (ad 0))] := hl
  have loop16 : ∀ (n i : Nat) (σ1 : Nat → Nat → Int32) (H : Heap) (locs : List Loc) (ls : Array Slot), i + n = N → lv_has ls 3 [(2, .int (nI i)), (1, .int (nI N)), (0, .ref (ad 0))] → va_P D classes (mw cA ad σ1) H → va_S (kA 8 ad) s.heap H locs → mClk σ1 → f_M_sync_lp16 σ N n (nI i) σ1 = f_M_sync σ N → W p l e (headSpec w_M_sync ({ frames := 6, cells := 0, slots := 0, locals := 135 } : Room)).room s m ([.ref (ad 0)] : List Value).toArray below meth c H locs 0 0 (MQ below (kQi D (mw cA ad (f_M_sync σ N).2) (kA 8 ad) (f_M_sync σ N).1) ([.ref (ad 0)] : List Value).toArray s 0 0 (kA 8 ad)) (F0 m 16 ls []) := by
    intro n
    induction n with
    | zero =>
      intro i σ1 H locs ls hi hl hP hS hk hg
      refine lv_iload_n hx hb d_M_sync_16 rfl (lv_at hl 0 rfl) ?_
      refine lv_iload_n hx hb d_M_sync_17 rfl (lv_at hl 1 rfl) ?_
      refine lv_icmp_ge (tgt := 31) hx hb d_M_sync_18 (by decide) (fun _ => ?_) (fun h9 => absurd (nI_le (a := N) (b := i) (by omega) (by omega)) h9)
      refine lv_iload_n hx hb d_M_sync_31 rfl (lv_at hl 1 rfl) ?_
      have e9 : ((nI N), σ1) = f_M_sync σ N := by rw [← hg, f_M_sync_lp16_z]
      exact W.iret (v := (nI N)) hx hb hr (fun t ht hW => ⟨by rw [← e9], by rw [ht, ← e9]; exact hP, hS.F ht⟩) hS.2.2 d_M_sync_32
    | succ n ih =>
      intro i σ1 H locs ls hi hl hP hS hk hg
      refine lv_iload_n hx hb d_M_sync_16 rfl (lv_at hl 0 rfl) ?_
      refine lv_iload_n hx hb d_M_sync_17 rfl (lv_at hl 1 rfl) ?_
      refine lv_icmp_ge (tgt := 31) hx hb d_M_sync_18 (by decide) (fun h9 => absurd h9 (nI_ge (a := i) (b := N) (by omega) hN)) (fun _ => ?_)
      refine lv_aload_n hx hb d_M_sync_21 rfl (lv_at hl 2 rfl) ?_
      refine kcv (va_runV (As := []) (rest := []) ⟨hx, hb, hml, hown, hT⟩ (c_M_oneClock l D cA ad hap σ1 (by first | assumption | exact kin (by decide))) (kCV 0 hT ml_M_125 mi_M_oneClock ⟨Nat.le_of_ble_eq_true rfl, Nat.le_of_ble_eq_true rfl⟩) (mpreV hK hP) rfl rfl hl.1 rfl (lv_room (Nat.le_of_ble_eq_true rfl)) d_M_sync_22 ⟨Nat.le_of_ble_eq_true rfl, Nat.le_of_ble_eq_true rfl⟩) hS (fun H locs hP hS => ?_)
      refine lv_iinc (v := (nI (i + 1))) (lv' := [(2, .int (nI (i + 1))), (1, .int (nI N)), (0, .ref (ad 0))]) hx hb d_M_sync_25 hl (k := 0) rfl (by rw [nI_succ]; rfl) (by decide) rfl (fun ls hl => ?_)
      refine lv_goto (tgt := 16) hx hb d_M_sync_28 (by decide) ?_
      exact ih (i + 1) (f_M_oneClock σ1) H locs ls (by omega) (lv_sub hl [0, 1, 2] rfl) hP hS (mClk_one hk) (by rw [← hg, f_M_sync_lp16_s, nI_succ])
  refine lv_aload_n hx hb d_M_sync_0 rfl (lv_at hl 0 rfl) ?_
  refine lv_iconst (v := (0 : Int32)) hx hb d_M_sync_1 (by decide) ?_
  refine va_put (A := (kA 8 ad)) (D := D) (ci := 2) (v := .int (0 : Int32)) (ty := .int) (C := R_M) (T := F_M) (N := 17) hx hb hT in_M ft_M ft_M_ok n_M hown hK hP (hD _) hS 0 rfl rfl 0 (by decide) (hT _ fl_M_36) (fun _ h9 => h9) rfl (by decide +kernel) rfl rfl (Nat.le_of_ble_eq_true rfl) d_M_sync_2 (fun H locs hP _ hS => ?_)
  have hP := kst (mw_p0_0 cA ad σ (0 : Int32)) hP
  refine lv_sipush (v := (228 : Int32)) hx hb d_M_sync_5 (by decide) ?_
  refine lv_aload_n hx hb d_M_sync_8 rfl (lv_at hl 0 rfl) ?_
  refine va_get (D := D) (ci := 2) (v := .int ((kup σ 7 0 (0 : Int32)) 7 3)) (C := R_M) (T := F_M) (N := 17) hx hb hT in_M hown hK hP 0 rfl rfl 10 (by decide) (hT _ fl_M_50) (fun _ h9 => h9) rfl d_M_sync_9 ?_
  refine lv_isub hx hb d_M_sync_12 ?_
  rw [show ((228 : Int32) - (kup σ 7 0 (0 : Int32)) 7 3) = (nI N) from hc]
  refine lv_istore_n (lv' := [(1, .int (nI N)), (0, .ref (ad 0))]) hx hb d_M_sync_13 rfl hl (by decide) rfl (fun ls hl => ?_)
  refine lv_iconst (v := (0 : Int32)) hx hb d_M_sync_14 (by decide) ?_
  refine lv_istore_n (lv' := [(2, .int (0 : Int32)), (1, .int (nI N)), (0, .ref (ad 0))]) hx hb d_M_sync_15 rfl hl (by decide) rfl (fun ls hl => ?_)
  exact loop16 N 0 (kup σ 7 0 (0 : Int32)) H locs ls (by omega) (lv_sub hl [0, 1, 2] rfl) hP hS (mClk_thr h0) (by rw [f_M_sync]; rfl)

def f_M_pixel (σ : Nat → Nat → Int32) (x : Int32) : (Int32 × (Nat → Nat → Int32)) := (if (f_M_goes σ (f_M_isPixel x) (1 : Int32)).1 = 0 then ((0 : Int32), (f_M_goes σ (f_M_isPixel x) (1 : Int32)).2) else (((f_M_goes σ (f_M_isPixel x) (1 : Int32)).2 5 (x).toNatClampNeg), (f_M_goes σ (f_M_isPixel x) (1 : Int32)).2))

set_option maxRecDepth 100000 in
set_option maxHeartbeats 4000000 in
theorem c_M_pixel (l : Launch) (D : va_G) (cA ad : Nat → Nat) (hap : kap 8 ad) (σ : Nat → Nat → Int32) (x : Int32) : Met l y_M_pixel w_M_pixel ({ frames := 1, cells := 0, slots := 0, locals := 22 } : Room) (va_Pc [.ref (ad 0), .int x] (mPre D cA ad σ)) (kQi D (mw cA ad (f_M_pixel σ x).2) (kA 8 ad) (f_M_pixel σ x).1) 0 0 (kA 8 ad) := by
  refine Met.ofW (cc := b_M_pixel) (maxL := 2) (ret := (some .int)) (by decide) rfl ?_
  intro p e s m args below meth c s₁ B hml hv
  obtain ⟨rfl, hv⟩ := hv
  obtain ⟨hP, hK⟩ := hv
  have hx := B.exec
  have hb := B.bytes
  have hr := B.returns
  have hlocks := B.notSynchronized
  have hT : ∀ w ∈ TB, w.before ([.ref (ad 0), .int x] : List Value).toArray s = true := fun w h => atoms_spec (ws := w_M_pixel) B.pre w (List.mem_cons_of_mem _ h)
  have hown : s.vm.findClass R_M = some m.cls := findClass_of_methodNamed B.named
  have hS : va_S (kA 8 ad) s.heap s.heap [] := va_S.rf
  have hD : ∀ σ, va_D (kA 8 ad) (mw cA ad σ) := fun σ => kD hap rfl
  have hl := lv_entry ([.ref (ad 0), .int x]) (n := 2) (Nat.le_of_ble_eq_true rfl)
  rw [lg_entry_eq]
  generalize (lg_sl ([.ref (ad 0), .int x]) ++ List.replicate (2 - (lg_sl ([.ref (ad 0), .int x])).length) Slot.unset).toArray = ls at hl ⊢
  have hl : lv_has ls 2 [(0, .ref (ad 0)), (1, .int x)] := hl
  refine lv_aload_n hx hb d_M_pixel_0 rfl (lv_at hl 0 rfl) ?_
  refine lv_iload_n hx hb d_M_pixel_1 rfl (lv_at hl 1 rfl) ?_
  refine vp_callSi (va_Run.run (va_runS (As := [.int x]) (rest := [.ref (ad 0)]) ⟨hx, hb, hml, hown, hT⟩ (c_M_isPixel l D cA ad hap σ x) (kCS 1 hT ml_M_128 ms_M_isPixel ⟨Nat.le_of_ble_eq_true rfl, Nat.le_of_ble_eq_true rfl⟩) (mpreS hK hP) rfl rfl hl.1 rfl (lv_room (Nat.le_of_ble_eq_true rfl)) d_M_pixel_2 ⟨Nat.le_of_ble_eq_true rfl, Nat.le_of_ble_eq_true rfl⟩)) (fun r9 e9 => ?_)
  subst e9
  refine lv_iconst (v := (1 : Int32)) hx hb d_M_pixel_5 (by decide) ?_
  refine kci (va_runV (As := [.int (f_M_isPixel x), .int (1 : Int32)]) (rest := []) ⟨hx, hb, hml, hown, hT⟩ (c_M_goes l D cA ad hap σ (f_M_isPixel x) (1 : Int32)) (kCV 2 hT ml_M_60 mi_M_goes ⟨Nat.le_of_ble_eq_true rfl, Nat.le_of_ble_eq_true rfl⟩) (mpreV hK hP) rfl rfl hl.1 rfl (lv_room (Nat.le_of_ble_eq_true rfl)) d_M_pixel_6 ⟨Nat.le_of_ble_eq_true rfl, Nat.le_of_ble_eq_true rfl⟩) hS (fun H locs hP hS => ?_)
  refine lv_if_eq (tgt := 21) hx hb d_M_pixel_9 (by decide) (fun q1 => ?_) (fun q1 => ?_)
  · refine lv_iconst (v := (0 : Int32)) hx hb d_M_pixel_21 (by decide) ?_
    have e9 : ((0 : Int32), (f_M_goes σ (f_M_isPixel x) (1 : Int32)).2) = f_M_pixel σ x := by rw [f_M_pixel, if_pos q1]
    exact W.iret (v := (0 : Int32)) hx hb hr (fun t ht hW => ⟨by rw [← e9], by rw [ht, ← e9]; exact hP, hS.F ht⟩) hS.2.2 d_M_pixel_22
  · refine lv_aload_n hx hb d_M_pixel_12 rfl (lv_at hl 0 rfl) ?_
    refine va_get (D := D) (ci := 2) (v := .ref (ad 6)) (C := R_M) (T := F_M) (N := 17) hx hb hT in_M hown hK hP 0 rfl rfl 8 (by decide) (hT _ fl_M_26) (fun _ h9 => h9) rfl d_M_pixel_13 ?_
    refine lv_iload_n hx hb d_M_pixel_16 rfl (lv_at hl 1 rfl) ?_
    refine va_iald hx hb hK hP 6 0 rfl rfl (by first | assumption | exact kin (by decide) | exact kgo_pixel (by assumption)) d_M_pixel_17 ?_
    refine lv_goto (tgt := 22) hx hb d_M_pixel_18 (by decide) ?_
    have e9 : (((f_M_goes σ (f_M_isPixel x) (1 : Int32)).2 5 (x).toNatClampNeg), (f_M_goes σ (f_M_isPixel x) (1 : Int32)).2) = f_M_pixel σ x := by rw [f_M_pixel, if_neg q1]
    exact W.iret (v := ((f_M_goes σ (f_M_isPixel x) (1 : Int32)).2 5 (x).toNatClampNeg)) hx hb hr (fun t ht hW => ⟨by rw [← e9], by rw [ht, ← e9]; exact hP, hS.F ht⟩) hS.2.2 d_M_pixel_22

def f_M_met (σ : Nat → Nat → Int32) (a : Int32) (o : Int32) : (Int32 × (Nat → Nat → Int32)) := (if a < 0 then ((0 : Int32), (f_M_goes σ (0 : Int32) (1 : Int32)).2) else (if (6 : Int32) ≤ a then ((0 : Int32), (f_M_goes σ (0 : Int32) (1 : Int32)).2) else (if o < 0 then ((0 : Int32), (f_M_goes σ (0 : Int32) (1 : Int32)).2) else (if (6 : Int32) ≤ o then ((0 : Int32), (f_M_goes σ (0 : Int32) (1 : Int32)).2) else (if a = o then ((0 : Int32), (f_M_goes σ (0 : Int32) (1 : Int32)).2) else (if ((f_M_goes σ (1 : Int32) (1 : Int32)).2 4 ((((6 : Int32) * a) + o)).toNatClampNeg) = 0 then ((0 : Int32), (f_M_goes σ (1 : Int32) (1 : Int32)).2) else ((1 : Int32), (f_M_goes σ (1 : Int32) (1 : Int32)).2)))))))

set_option maxRecDepth 100000 in
set_option maxHeartbeats 4000000 in
theorem c_M_met (l : Launch) (D : va_G) (cA ad : Nat → Nat) (hap : kap 8 ad) (σ : Nat → Nat → Int32) (a : Int32) (o : Int32) : Met l y_M_met w_M_met ({ frames := 1, cells := 0, slots := 0, locals := 22 } : Room) (va_Pc [.ref (ad 0), .int a, .int o] (mPre D cA ad σ)) (kQi D (mw cA ad (f_M_met σ a o).2) (kA 8 ad) (f_M_met σ a o).1) 0 0 (kA 8 ad) := by
  refine Met.ofW (cc := b_M_met) (maxL := 3) (ret := (some .boolean)) (by decide) rfl ?_
  intro p e s m args below meth c s₁ B hml hv
  obtain ⟨rfl, hv⟩ := hv
  obtain ⟨hP, hK⟩ := hv
  have hx := B.exec
  have hb := B.bytes
  have hr := B.returns
  have hlocks := B.notSynchronized
  have hT : ∀ w ∈ TB, w.before ([.ref (ad 0), .int a, .int o] : List Value).toArray s = true := fun w h => atoms_spec (ws := w_M_met) B.pre w (List.mem_cons_of_mem _ h)
  have hown : s.vm.findClass R_M = some m.cls := findClass_of_methodNamed B.named
  have hS : va_S (kA 8 ad) s.heap s.heap [] := va_S.rf
  have hD : ∀ σ, va_D (kA 8 ad) (mw cA ad σ) := fun σ => kD hap rfl
  have hl := lv_entry ([.ref (ad 0), .int a, .int o]) (n := 3) (Nat.le_of_ble_eq_true rfl)
  rw [lg_entry_eq]
  generalize (lg_sl ([.ref (ad 0), .int a, .int o]) ++ List.replicate (3 - (lg_sl ([.ref (ad 0), .int a, .int o])).length) Slot.unset).toArray = ls at hl ⊢
  have hl : lv_has ls 3 [(0, .ref (ad 0)), (1, .int a), (2, .int o)] := hl
  refine lv_aload_n hx hb d_M_met_0 rfl (lv_at hl 0 rfl) ?_
  refine lv_iload_n hx hb d_M_met_1 rfl (lv_at hl 1 rfl) ?_
  refine lv_if_lt (tgt := 30) hx hb d_M_met_2 (by decide) (fun q1 => ?_) (fun q1 => ?_)
  · refine lv_iconst (v := (0 : Int32)) hx hb d_M_met_30 (by decide) ?_
    refine lv_iconst (v := (1 : Int32)) hx hb d_M_met_31 (by decide) ?_
    refine kci (va_runV (As := [.int (0 : Int32), .int (1 : Int32)]) (rest := []) ⟨hx, hb, hml, hown, hT⟩ (c_M_goes l D cA ad hap σ (0 : Int32) (1 : Int32)) (kCV 2 hT ml_M_60 mi_M_goes ⟨Nat.le_of_ble_eq_true rfl, Nat.le_of_ble_eq_true rfl⟩) (mpreV hK hP) rfl rfl hl.1 rfl (lv_room (Nat.le_of_ble_eq_true rfl)) d_M_met_32 ⟨Nat.le_of_ble_eq_true rfl, Nat.le_of_ble_eq_true rfl⟩) hS (fun H locs hP hS => ?_)
    refine lv_if_eq (tgt := 56) hx hb d_M_met_35 (by decide) (fun _ => ?_) (fun h9 => absurd (kgo0 ..) h9)
    refine lv_iconst (v := (0 : Int32)) hx hb d_M_met_56 (by decide) ?_
    have e9 : ((0 : Int32), (f_M_goes σ (0 : Int32) (1 : Int32)).2) = f_M_met σ a o := by rw [f_M_met, if_pos q1]
    exact W.zret (v := (0 : Int32)) hx hb hr (by decide) (fun t ht hW => ⟨by rw [← e9], by rw [ht, ← e9]; exact hP, hS.F ht⟩) hS.2.2 d_M_met_57
  · refine lv_iload_n hx hb d_M_met_5 rfl (lv_at hl 1 rfl) ?_
    refine lv_bipush (v := (6 : Int32)) hx hb d_M_met_6 (by decide) ?_
    refine lv_icmp_ge (tgt := 30) hx hb d_M_met_8 (by decide) (fun q2 => ?_) (fun q2 => ?_)
    · refine lv_iconst (v := (0 : Int32)) hx hb d_M_met_30 (by decide) ?_
      refine lv_iconst (v := (1 : Int32)) hx hb d_M_met_31 (by decide) ?_
      refine kci (va_runV (As := [.int (0 : Int32), .int (1 : Int32)]) (rest := []) ⟨hx, hb, hml, hown, hT⟩ (c_M_goes l D cA ad hap σ (0 : Int32) (1 : Int32)) (kCV 2 hT ml_M_60 mi_M_goes ⟨Nat.le_of_ble_eq_true rfl, Nat.le_of_ble_eq_true rfl⟩) (mpreV hK hP) rfl rfl hl.1 rfl (lv_room (Nat.le_of_ble_eq_true rfl)) d_M_met_32 ⟨Nat.le_of_ble_eq_true rfl, Nat.le_of_ble_eq_true rfl⟩) hS (fun H locs hP hS => ?_)
      refine lv_if_eq (tgt := 56) hx hb d_M_met_35 (by decide) (fun _ => ?_) (fun h9 => absurd (kgo0 ..) h9)
      refine lv_iconst (v := (0 : Int32)) hx hb d_M_met_56 (by decide) ?_
      have e9 : ((0 : Int32), (f_M_goes σ (0 : Int32) (1 : Int32)).2) = f_M_met σ a o := by rw [f_M_met, if_neg q1, if_pos q2]
      exact W.zret (v := (0 : Int32)) hx hb hr (by decide) (fun t ht hW => ⟨by rw [← e9], by rw [ht, ← e9]; exact hP, hS.F ht⟩) hS.2.2 d_M_met_57
    · refine lv_iload_n hx hb d_M_met_11 rfl (lv_at hl 2 rfl) ?_
      refine lv_if_lt (tgt := 30) hx hb d_M_met_12 (by decide) (fun q3 => ?_) (fun q3 => ?_)
      · refine lv_iconst (v := (0 : Int32)) hx hb d_M_met_30 (by decide) ?_
        refine lv_iconst (v := (1 : Int32)) hx hb d_M_met_31 (by decide) ?_
        refine kci (va_runV (As := [.int (0 : Int32), .int (1 : Int32)]) (rest := []) ⟨hx, hb, hml, hown, hT⟩ (c_M_goes l D cA ad hap σ (0 : Int32) (1 : Int32)) (kCV 2 hT ml_M_60 mi_M_goes ⟨Nat.le_of_ble_eq_true rfl, Nat.le_of_ble_eq_true rfl⟩) (mpreV hK hP) rfl rfl hl.1 rfl (lv_room (Nat.le_of_ble_eq_true rfl)) d_M_met_32 ⟨Nat.le_of_ble_eq_true rfl, Nat.le_of_ble_eq_true rfl⟩) hS (fun H locs hP hS => ?_)
        refine lv_if_eq (tgt := 56) hx hb d_M_met_35 (by decide) (fun _ => ?_) (fun h9 => absurd (kgo0 ..) h9)
        refine lv_iconst (v := (0 : Int32)) hx hb d_M_met_56 (by decide) ?_
        have e9 : ((0 : Int32), (f_M_goes σ (0 : Int32) (1 : Int32)).2) = f_M_met σ a o := by rw [f_M_met, if_neg q1, if_neg q2, if_pos q3]
        exact W.zret (v := (0 : Int32)) hx hb hr (by decide) (fun t ht hW => ⟨by rw [← e9], by rw [ht, ← e9]; exact hP, hS.F ht⟩) hS.2.2 d_M_met_57
      · refine lv_iload_n hx hb d_M_met_15 rfl (lv_at hl 2 rfl) ?_
        refine lv_bipush (v := (6 : Int32)) hx hb d_M_met_16 (by decide) ?_
        refine lv_icmp_ge (tgt := 30) hx hb d_M_met_18 (by decide) (fun q4 => ?_) (fun q4 => ?_)
        · refine lv_iconst (v := (0 : Int32)) hx hb d_M_met_30 (by decide) ?_
          refine lv_iconst (v := (1 : Int32)) hx hb d_M_met_31 (by decide) ?_
          refine kci (va_runV (As := [.int (0 : Int32), .int (1 : Int32)]) (rest := []) ⟨hx, hb, hml, hown, hT⟩ (c_M_goes l D cA ad hap σ (0 : Int32) (1 : Int32)) (kCV 2 hT ml_M_60 mi_M_goes ⟨Nat.le_of_ble_eq_true rfl, Nat.le_of_ble_eq_true rfl⟩) (mpreV hK hP) rfl rfl hl.1 rfl (lv_room (Nat.le_of_ble_eq_true rfl)) d_M_met_32 ⟨Nat.le_of_ble_eq_true rfl, Nat.le_of_ble_eq_true rfl⟩) hS (fun H locs hP hS => ?_)
          refine lv_if_eq (tgt := 56) hx hb d_M_met_35 (by decide) (fun _ => ?_) (fun h9 => absurd (kgo0 ..) h9)
          refine lv_iconst (v := (0 : Int32)) hx hb d_M_met_56 (by decide) ?_
          have e9 : ((0 : Int32), (f_M_goes σ (0 : Int32) (1 : Int32)).2) = f_M_met σ a o := by rw [f_M_met, if_neg q1, if_neg q2, if_neg q3, if_pos q4]
          exact W.zret (v := (0 : Int32)) hx hb hr (by decide) (fun t ht hW => ⟨by rw [← e9], by rw [ht, ← e9]; exact hP, hS.F ht⟩) hS.2.2 d_M_met_57
        · refine lv_iload_n hx hb d_M_met_21 rfl (lv_at hl 1 rfl) ?_
          refine lv_iload_n hx hb d_M_met_22 rfl (lv_at hl 2 rfl) ?_
          refine lv_icmp_eq (tgt := 30) hx hb d_M_met_23 (by decide) (fun q5 => ?_) (fun q5 => ?_)
          · refine lv_iconst (v := (0 : Int32)) hx hb d_M_met_30 (by decide) ?_
            refine lv_iconst (v := (1 : Int32)) hx hb d_M_met_31 (by decide) ?_
            refine kci (va_runV (As := [.int (0 : Int32), .int (1 : Int32)]) (rest := []) ⟨hx, hb, hml, hown, hT⟩ (c_M_goes l D cA ad hap σ (0 : Int32) (1 : Int32)) (kCV 2 hT ml_M_60 mi_M_goes ⟨Nat.le_of_ble_eq_true rfl, Nat.le_of_ble_eq_true rfl⟩) (mpreV hK hP) rfl rfl hl.1 rfl (lv_room (Nat.le_of_ble_eq_true rfl)) d_M_met_32 ⟨Nat.le_of_ble_eq_true rfl, Nat.le_of_ble_eq_true rfl⟩) hS (fun H locs hP hS => ?_)
            refine lv_if_eq (tgt := 56) hx hb d_M_met_35 (by decide) (fun _ => ?_) (fun h9 => absurd (kgo0 ..) h9)
            refine lv_iconst (v := (0 : Int32)) hx hb d_M_met_56 (by decide) ?_
            have e9 : ((0 : Int32), (f_M_goes σ (0 : Int32) (1 : Int32)).2) = f_M_met σ a o := by rw [f_M_met, if_neg q1, if_neg q2, if_neg q3, if_neg q4, if_pos q5]
            exact W.zret (v := (0 : Int32)) hx hb hr (by decide) (fun t ht hW => ⟨by rw [← e9], by rw [ht, ← e9]; exact hP, hS.F ht⟩) hS.2.2 d_M_met_57
          · refine lv_iconst (v := (1 : Int32)) hx hb d_M_met_26 (by decide) ?_
            refine lv_goto (tgt := 31) hx hb d_M_met_27 (by decide) ?_
            refine lv_iconst (v := (1 : Int32)) hx hb d_M_met_31 (by decide) ?_
            refine kci (va_runV (As := [.int (1 : Int32), .int (1 : Int32)]) (rest := []) ⟨hx, hb, hml, hown, hT⟩ (c_M_goes l D cA ad hap σ (1 : Int32) (1 : Int32)) (kCV 2 hT ml_M_60 mi_M_goes ⟨Nat.le_of_ble_eq_true rfl, Nat.le_of_ble_eq_true rfl⟩) (mpreV hK hP) rfl rfl hl.1 rfl (lv_room (Nat.le_of_ble_eq_true rfl)) d_M_met_32 ⟨Nat.le_of_ble_eq_true rfl, Nat.le_of_ble_eq_true rfl⟩) hS (fun H locs hP hS => ?_)
            refine lv_if_eq (tgt := 56) hx hb d_M_met_35 (by decide) (fun h9 => absurd h9 (kgo1 _)) (fun _ => ?_)
            refine lv_aload_n hx hb d_M_met_38 rfl (lv_at hl 0 rfl) ?_
            refine va_get (D := D) (ci := 2) (v := .ref (ad 5)) (C := R_M) (T := F_M) (N := 17) hx hb hT in_M hown hK hP 0 rfl rfl 7 (by decide) (hT _ fl_M_22) (fun _ h9 => h9) rfl d_M_met_39 ?_
            refine lv_bipush (v := (6 : Int32)) hx hb d_M_met_42 (by decide) ?_
            refine lv_iload_n hx hb d_M_met_44 rfl (lv_at hl 1 rfl) ?_
            refine lv_imul hx hb d_M_met_45 ?_
            refine lv_iload_n hx hb d_M_met_46 rfl (lv_at hl 2 rfl) ?_
            refine lv_iadd hx hb d_M_met_47 ?_
            refine va_zald hx hb hK hP 5 1 rfl rfl (by first | assumption | exact kin (by decide) | exact kgo_met (by assumption) (by assumption) (by assumption) (by assumption)) d_M_met_48 ?_
            refine lv_if_eq (tgt := 56) hx hb d_M_met_49 (by decide) (fun q6 => ?_) (fun q6 => ?_)
            · refine lv_iconst (v := (0 : Int32)) hx hb d_M_met_56 (by decide) ?_
              have e9 : ((0 : Int32), (f_M_goes σ (1 : Int32) (1 : Int32)).2) = f_M_met σ a o := by rw [f_M_met, if_neg q1, if_neg q2, if_neg q3, if_neg q4, if_neg q5, if_pos q6]
              exact W.zret (v := (0 : Int32)) hx hb hr (by decide) (fun t ht hW => ⟨by rw [← e9], by rw [ht, ← e9]; exact hP, hS.F ht⟩) hS.2.2 d_M_met_57
            · refine lv_iconst (v := (1 : Int32)) hx hb d_M_met_52 (by decide) ?_
              refine lv_goto (tgt := 57) hx hb d_M_met_53 (by decide) ?_
              have e9 : ((1 : Int32), (f_M_goes σ (1 : Int32) (1 : Int32)).2) = f_M_met σ a o := by rw [f_M_met, if_neg q1, if_neg q2, if_neg q3, if_neg q4, if_neg q5, if_neg q6]
              exact W.zret (v := (1 : Int32)) hx hb hr (by decide) (fun t ht hW => ⟨by rw [← e9], by rw [ht, ← e9]; exact hP, hS.F ht⟩) hS.2.2 d_M_met_57

def f_M_place (σ : Nat → Nat → Int32) (o : Int32) : (Int32 × (Nat → Nat → Int32)) := (if o < 0 then ((0 : Int32), (f_M_goes σ (0 : Int32) (1 : Int32)).2) else (if (5 : Int32) ≤ o then ((0 : Int32), (f_M_goes σ (0 : Int32) (1 : Int32)).2) else (((f_M_goes σ (1 : Int32) (1 : Int32)).2 1 (o).toNatClampNeg), (f_M_goes σ (1 : Int32) (1 : Int32)).2)))

set_option maxRecDepth 100000 in
set_option maxHeartbeats 4000000 in
theorem c_M_place (l : Launch) (D : va_G) (cA ad : Nat → Nat) (hap : kap 8 ad) (σ : Nat → Nat → Int32) (o : Int32) : Met l y_M_place w_M_place ({ frames := 1, cells := 0, slots := 0, locals := 22 } : Room) (va_Pc [.ref (ad 0), .int o] (mPre D cA ad σ)) (kQi D (mw cA ad (f_M_place σ o).2) (kA 8 ad) (f_M_place σ o).1) 0 0 (kA 8 ad) := by
  refine Met.ofW (cc := b_M_place) (maxL := 2) (ret := (some .int)) (by decide) rfl ?_
  intro p e s m args below meth c s₁ B hml hv
  obtain ⟨rfl, hv⟩ := hv
  obtain ⟨hP, hK⟩ := hv
  have hx := B.exec
  have hb := B.bytes
  have hr := B.returns
  have hlocks := B.notSynchronized
  have hT : ∀ w ∈ TB, w.before ([.ref (ad 0), .int o] : List Value).toArray s = true := fun w h => atoms_spec (ws := w_M_place) B.pre w (List.mem_cons_of_mem _ h)
  have hown : s.vm.findClass R_M = some m.cls := findClass_of_methodNamed B.named
  have hS : va_S (kA 8 ad) s.heap s.heap [] := va_S.rf
  have hD : ∀ σ, va_D (kA 8 ad) (mw cA ad σ) := fun σ => kD hap rfl
  have hl := lv_entry ([.ref (ad 0), .int o]) (n := 2) (Nat.le_of_ble_eq_true rfl)
  rw [lg_entry_eq]
  generalize (lg_sl ([.ref (ad 0), .int o]) ++ List.replicate (2 - (lg_sl ([.ref (ad 0), .int o])).length) Slot.unset).toArray = ls at hl ⊢
  have hl : lv_has ls 2 [(0, .ref (ad 0)), (1, .int o)] := hl
  refine lv_aload_n hx hb d_M_place_0 rfl (lv_at hl 0 rfl) ?_
  refine lv_iload_n hx hb d_M_place_1 rfl (lv_at hl 1 rfl) ?_
  refine lv_if_lt (tgt := 14) hx hb d_M_place_2 (by decide) (fun q1 => ?_) (fun q1 => ?_)
  · refine lv_iconst (v := (0 : Int32)) hx hb d_M_place_14 (by decide) ?_
    refine lv_iconst (v := (1 : Int32)) hx hb d_M_place_15 (by decide) ?_
    refine kci (va_runV (As := [.int (0 : Int32), .int (1 : Int32)]) (rest := []) ⟨hx, hb, hml, hown, hT⟩ (c_M_goes l D cA ad hap σ (0 : Int32) (1 : Int32)) (kCV 2 hT ml_M_60 mi_M_goes ⟨Nat.le_of_ble_eq_true rfl, Nat.le_of_ble_eq_true rfl⟩) (mpreV hK hP) rfl rfl hl.1 rfl (lv_room (Nat.le_of_ble_eq_true rfl)) d_M_place_16 ⟨Nat.le_of_ble_eq_true rfl, Nat.le_of_ble_eq_true rfl⟩) hS (fun H locs hP hS => ?_)
    refine lv_if_eq (tgt := 31) hx hb d_M_place_19 (by decide) (fun _ => ?_) (fun h9 => absurd (kgo0 ..) h9)
    refine lv_iconst (v := (0 : Int32)) hx hb d_M_place_31 (by decide) ?_
    have e9 : ((0 : Int32), (f_M_goes σ (0 : Int32) (1 : Int32)).2) = f_M_place σ o := by rw [f_M_place, if_pos q1]
    exact W.iret (v := (0 : Int32)) hx hb hr (fun t ht hW => ⟨by rw [← e9], by rw [ht, ← e9]; exact hP, hS.F ht⟩) hS.2.2 d_M_place_32
  · refine lv_iload_n hx hb d_M_place_5 rfl (lv_at hl 1 rfl) ?_
    refine lv_iconst (v := (5 : Int32)) hx hb d_M_place_6 (by decide) ?_
    refine lv_icmp_ge (tgt := 14) hx hb d_M_place_7 (by decide) (fun q2 => ?_) (fun q2 => ?_)
    · refine lv_iconst (v := (0 : Int32)) hx hb d_M_place_14 (by decide) ?_
      refine lv_iconst (v := (1 : Int32)) hx hb d_M_place_15 (by decide) ?_
      refine kci (va_runV (As := [.int (0 : Int32), .int (1 : Int32)]) (rest := []) ⟨hx, hb, hml, hown, hT⟩ (c_M_goes l D cA ad hap σ (0 : Int32) (1 : Int32)) (kCV 2 hT ml_M_60 mi_M_goes ⟨Nat.le_of_ble_eq_true rfl, Nat.le_of_ble_eq_true rfl⟩) (mpreV hK hP) rfl rfl hl.1 rfl (lv_room (Nat.le_of_ble_eq_true rfl)) d_M_place_16 ⟨Nat.le_of_ble_eq_true rfl, Nat.le_of_ble_eq_true rfl⟩) hS (fun H locs hP hS => ?_)
      refine lv_if_eq (tgt := 31) hx hb d_M_place_19 (by decide) (fun _ => ?_) (fun h9 => absurd (kgo0 ..) h9)
      refine lv_iconst (v := (0 : Int32)) hx hb d_M_place_31 (by decide) ?_
      have e9 : ((0 : Int32), (f_M_goes σ (0 : Int32) (1 : Int32)).2) = f_M_place σ o := by rw [f_M_place, if_neg q1, if_pos q2]
      exact W.iret (v := (0 : Int32)) hx hb hr (fun t ht hW => ⟨by rw [← e9], by rw [ht, ← e9]; exact hP, hS.F ht⟩) hS.2.2 d_M_place_32
    · refine lv_iconst (v := (1 : Int32)) hx hb d_M_place_10 (by decide) ?_
      refine lv_goto (tgt := 15) hx hb d_M_place_11 (by decide) ?_
      refine lv_iconst (v := (1 : Int32)) hx hb d_M_place_15 (by decide) ?_
      refine kci (va_runV (As := [.int (1 : Int32), .int (1 : Int32)]) (rest := []) ⟨hx, hb, hml, hown, hT⟩ (c_M_goes l D cA ad hap σ (1 : Int32) (1 : Int32)) (kCV 2 hT ml_M_60 mi_M_goes ⟨Nat.le_of_ble_eq_true rfl, Nat.le_of_ble_eq_true rfl⟩) (mpreV hK hP) rfl rfl hl.1 rfl (lv_room (Nat.le_of_ble_eq_true rfl)) d_M_place_16 ⟨Nat.le_of_ble_eq_true rfl, Nat.le_of_ble_eq_true rfl⟩) hS (fun H locs hP hS => ?_)
      refine lv_if_eq (tgt := 31) hx hb d_M_place_19 (by decide) (fun h9 => absurd h9 (kgo1 _)) (fun _ => ?_)
      refine lv_aload_n hx hb d_M_place_22 rfl (lv_at hl 0 rfl) ?_
      refine va_get (D := D) (ci := 2) (v := .ref (ad 2)) (C := R_M) (T := F_M) (N := 17) hx hb hT in_M hown hK hP 0 rfl rfl 2 (by decide) (hT _ fl_M_13) (fun _ h9 => h9) rfl d_M_place_23 ?_
      refine lv_iload_n hx hb d_M_place_26 rfl (lv_at hl 1 rfl) ?_
      refine va_iald hx hb hK hP 2 0 rfl rfl (by first | assumption | exact kin (by decide) | exact kgo_place (by assumption) (by assumption)) d_M_place_27 ?_
      refine lv_goto (tgt := 32) hx hb d_M_place_28 (by decide) ?_
      have e9 : (((f_M_goes σ (1 : Int32) (1 : Int32)).2 1 (o).toNatClampNeg), (f_M_goes σ (1 : Int32) (1 : Int32)).2) = f_M_place σ o := by rw [f_M_place, if_neg q1, if_neg q2]
      exact W.iret (v := ((f_M_goes σ (1 : Int32) (1 : Int32)).2 1 (o).toNatClampNeg)) hx hb hr (fun t ht hW => ⟨by rw [← e9], by rw [ht, ← e9]; exact hP, hS.F ht⟩) hS.2.2 d_M_place_32

def f_M_there (σ : Nat → Nat → Int32) (o : Int32) (x : Int32) : (Int32 × (Nat → Nat → Int32)) := (if o < 0 then ((0 : Int32), (f_M_goes σ (0 : Int32) (1 : Int32)).2) else (if (6 : Int32) ≤ o then ((0 : Int32), (f_M_goes σ (0 : Int32) (1 : Int32)).2) else (if (f_M_isPixel x) = 0 then ((0 : Int32), (f_M_goes σ (0 : Int32) (1 : Int32)).2) else (if (f_M_isThere (f_M_goes σ (1 : Int32) (1 : Int32)).2 o x) = 0 then ((0 : Int32), (f_M_goes σ (1 : Int32) (1 : Int32)).2) else ((1 : Int32), (f_M_goes σ (1 : Int32) (1 : Int32)).2)))))

set_option maxRecDepth 100000 in
set_option maxHeartbeats 4000000 in
theorem c_M_there (l : Launch) (D : va_G) (cA ad : Nat → Nat) (hap : kap 8 ad) (σ : Nat → Nat → Int32) (o : Int32) (x : Int32) : Met l y_M_there w_M_there ({ frames := 4, cells := 0, slots := 0, locals := 93 } : Room) (va_Pc [.ref (ad 0), .int o, .int x] (mPre D cA ad σ)) (kQi D (mw cA ad (f_M_there σ o x).2) (kA 8 ad) (f_M_there σ o x).1) 0 0 (kA 8 ad) := by
  refine Met.ofW (cc := b_M_there) (maxL := 3) (ret := (some .boolean)) (by decide) rfl ?_
  intro p e s m args below meth c s₁ B hml hv
  obtain ⟨rfl, hv⟩ := hv
  obtain ⟨hP, hK⟩ := hv
  have hx := B.exec
  have hb := B.bytes
  have hr := B.returns
  have hlocks := B.notSynchronized
  have hT : ∀ w ∈ TB, w.before ([.ref (ad 0), .int o, .int x] : List Value).toArray s = true := fun w h => atoms_spec (ws := w_M_there) B.pre w (List.mem_cons_of_mem _ h)
  have hown : s.vm.findClass R_M = some m.cls := findClass_of_methodNamed B.named
  have hS : va_S (kA 8 ad) s.heap s.heap [] := va_S.rf
  have hD : ∀ σ, va_D (kA 8 ad) (mw cA ad σ) := fun σ => kD hap rfl
  have hl := lv_entry ([.ref (ad 0), .int o, .int x]) (n := 3) (Nat.le_of_ble_eq_true rfl)
  rw [lg_entry_eq]
  generalize (lg_sl ([.ref (ad 0), .int o, .int x]) ++ List.replicate (3 - (lg_sl ([.ref (ad 0), .int o, .int x])).length) Slot.unset).toArray = ls at hl ⊢
  have hl : lv_has ls 3 [(0, .ref (ad 0)), (1, .int o), (2, .int x)] := hl
  refine lv_aload_n hx hb d_M_there_0 rfl (lv_at hl 0 rfl) ?_
  refine lv_iload_n hx hb d_M_there_1 rfl (lv_at hl 1 rfl) ?_
  refine lv_if_lt (tgt := 22) hx hb d_M_there_2 (by decide) (fun q1 => ?_) (fun q1 => ?_)
  · refine lv_iconst (v := (0 : Int32)) hx hb d_M_there_22 (by decide) ?_
    refine lv_iconst (v := (1 : Int32)) hx hb d_M_there_23 (by decide) ?_
    refine kci (va_runV (As := [.int (0 : Int32), .int (1 : Int32)]) (rest := []) ⟨hx, hb, hml, hown, hT⟩ (c_M_goes l D cA ad hap σ (0 : Int32) (1 : Int32)) (kCV 2 hT ml_M_60 mi_M_goes ⟨Nat.le_of_ble_eq_true rfl, Nat.le_of_ble_eq_true rfl⟩) (mpreV hK hP) rfl rfl hl.1 rfl (lv_room (Nat.le_of_ble_eq_true rfl)) d_M_there_24 ⟨Nat.le_of_ble_eq_true rfl, Nat.le_of_ble_eq_true rfl⟩) hS (fun H locs hP hS => ?_)
    refine lv_if_eq (tgt := 43) hx hb d_M_there_27 (by decide) (fun _ => ?_) (fun h9 => absurd (kgo0 ..) h9)
    refine lv_iconst (v := (0 : Int32)) hx hb d_M_there_43 (by decide) ?_
    have e9 : ((0 : Int32), (f_M_goes σ (0 : Int32) (1 : Int32)).2) = f_M_there σ o x := by rw [f_M_there, if_pos q1]
    exact W.zret (v := (0 : Int32)) hx hb hr (by decide) (fun t ht hW => ⟨by rw [← e9], by rw [ht, ← e9]; exact hP, hS.F ht⟩) hS.2.2 d_M_there_44
  · refine lv_iload_n hx hb d_M_there_5 rfl (lv_at hl 1 rfl) ?_
    refine lv_bipush (v := (6 : Int32)) hx hb d_M_there_6 (by decide) ?_
    refine lv_icmp_ge (tgt := 22) hx hb d_M_there_8 (by decide) (fun q2 => ?_) (fun q2 => ?_)
    · refine lv_iconst (v := (0 : Int32)) hx hb d_M_there_22 (by decide) ?_
      refine lv_iconst (v := (1 : Int32)) hx hb d_M_there_23 (by decide) ?_
      refine kci (va_runV (As := [.int (0 : Int32), .int (1 : Int32)]) (rest := []) ⟨hx, hb, hml, hown, hT⟩ (c_M_goes l D cA ad hap σ (0 : Int32) (1 : Int32)) (kCV 2 hT ml_M_60 mi_M_goes ⟨Nat.le_of_ble_eq_true rfl, Nat.le_of_ble_eq_true rfl⟩) (mpreV hK hP) rfl rfl hl.1 rfl (lv_room (Nat.le_of_ble_eq_true rfl)) d_M_there_24 ⟨Nat.le_of_ble_eq_true rfl, Nat.le_of_ble_eq_true rfl⟩) hS (fun H locs hP hS => ?_)
      refine lv_if_eq (tgt := 43) hx hb d_M_there_27 (by decide) (fun _ => ?_) (fun h9 => absurd (kgo0 ..) h9)
      refine lv_iconst (v := (0 : Int32)) hx hb d_M_there_43 (by decide) ?_
      have e9 : ((0 : Int32), (f_M_goes σ (0 : Int32) (1 : Int32)).2) = f_M_there σ o x := by rw [f_M_there, if_neg q1, if_pos q2]
      exact W.zret (v := (0 : Int32)) hx hb hr (by decide) (fun t ht hW => ⟨by rw [← e9], by rw [ht, ← e9]; exact hP, hS.F ht⟩) hS.2.2 d_M_there_44
    · refine lv_iload_n hx hb d_M_there_11 rfl (lv_at hl 2 rfl) ?_
      refine vp_callSi (va_Run.run (va_runS (As := [.int x]) (rest := [.ref (ad 0)]) ⟨hx, hb, hml, hown, hT⟩ (c_M_isPixel l D cA ad hap σ x) (kCS 1 hT ml_M_128 ms_M_isPixel ⟨Nat.le_of_ble_eq_true rfl, Nat.le_of_ble_eq_true rfl⟩) (mpreS hK hP) rfl rfl hl.1 rfl (lv_room (Nat.le_of_ble_eq_true rfl)) d_M_there_12 ⟨Nat.le_of_ble_eq_true rfl, Nat.le_of_ble_eq_true rfl⟩)) (fun r9 e9 => ?_)
      subst e9
      refine lv_if_eq (tgt := 22) hx hb d_M_there_15 (by decide) (fun q3 => ?_) (fun q3 => ?_)
      · refine lv_iconst (v := (0 : Int32)) hx hb d_M_there_22 (by decide) ?_
        refine lv_iconst (v := (1 : Int32)) hx hb d_M_there_23 (by decide) ?_
        refine kci (va_runV (As := [.int (0 : Int32), .int (1 : Int32)]) (rest := []) ⟨hx, hb, hml, hown, hT⟩ (c_M_goes l D cA ad hap σ (0 : Int32) (1 : Int32)) (kCV 2 hT ml_M_60 mi_M_goes ⟨Nat.le_of_ble_eq_true rfl, Nat.le_of_ble_eq_true rfl⟩) (mpreV hK hP) rfl rfl hl.1 rfl (lv_room (Nat.le_of_ble_eq_true rfl)) d_M_there_24 ⟨Nat.le_of_ble_eq_true rfl, Nat.le_of_ble_eq_true rfl⟩) hS (fun H locs hP hS => ?_)
        refine lv_if_eq (tgt := 43) hx hb d_M_there_27 (by decide) (fun _ => ?_) (fun h9 => absurd (kgo0 ..) h9)
        refine lv_iconst (v := (0 : Int32)) hx hb d_M_there_43 (by decide) ?_
        have e9 : ((0 : Int32), (f_M_goes σ (0 : Int32) (1 : Int32)).2) = f_M_there σ o x := by rw [f_M_there, if_neg q1, if_neg q2, if_pos q3]
        exact W.zret (v := (0 : Int32)) hx hb hr (by decide) (fun t ht hW => ⟨by rw [← e9], by rw [ht, ← e9]; exact hP, hS.F ht⟩) hS.2.2 d_M_there_44
      · refine lv_iconst (v := (1 : Int32)) hx hb d_M_there_18 (by decide) ?_
        refine lv_goto (tgt := 23) hx hb d_M_there_19 (by decide) ?_
        refine lv_iconst (v := (1 : Int32)) hx hb d_M_there_23 (by decide) ?_
        refine kci (va_runV (As := [.int (1 : Int32), .int (1 : Int32)]) (rest := []) ⟨hx, hb, hml, hown, hT⟩ (c_M_goes l D cA ad hap σ (1 : Int32) (1 : Int32)) (kCV 2 hT ml_M_60 mi_M_goes ⟨Nat.le_of_ble_eq_true rfl, Nat.le_of_ble_eq_true rfl⟩) (mpreV hK hP) rfl rfl hl.1 rfl (lv_room (Nat.le_of_ble_eq_true rfl)) d_M_there_24 ⟨Nat.le_of_ble_eq_true rfl, Nat.le_of_ble_eq_true rfl⟩) hS (fun H locs hP hS => ?_)
        refine lv_if_eq (tgt := 43) hx hb d_M_there_27 (by decide) (fun h9 => absurd h9 (kgo1 _)) (fun _ => ?_)
        refine lv_aload_n hx hb d_M_there_30 rfl (lv_at hl 0 rfl) ?_
        refine lv_iload_n hx hb d_M_there_31 rfl (lv_at hl 1 rfl) ?_
        refine lv_iload_n hx hb d_M_there_32 rfl (lv_at hl 2 rfl) ?_
        refine vp_callSi (va_Run.run (va_runV (As := [.int o, .int x]) (rest := []) ⟨hx, hb, hml, hown, hT⟩ (c_M_isThere l D cA ad hap (f_M_goes σ (1 : Int32) (1 : Int32)).2 o x (by first | assumption | exact kin (by decide) | exact kgo_place6 (by assumption) (by assumption))) (kCV 2 hT ml_M_98 mi_M_isThere ⟨Nat.le_of_ble_eq_true rfl, Nat.le_of_ble_eq_true rfl⟩) (mpreV hK hP) rfl rfl hl.1 rfl (lv_room (Nat.le_of_ble_eq_true rfl)) d_M_there_33 ⟨Nat.le_of_ble_eq_true rfl, Nat.le_of_ble_eq_true rfl⟩)) (fun r9 e9 => ?_)
        subst e9
        refine lv_if_eq (tgt := 43) hx hb d_M_there_36 (by decide) (fun q4 => ?_) (fun q4 => ?_)
        · refine lv_iconst (v := (0 : Int32)) hx hb d_M_there_43 (by decide) ?_
          have e9 : ((0 : Int32), (f_M_goes σ (1 : Int32) (1 : Int32)).2) = f_M_there σ o x := by rw [f_M_there, if_neg q1, if_neg q2, if_neg q3, if_pos q4]
          exact W.zret (v := (0 : Int32)) hx hb hr (by decide) (fun t ht hW => ⟨by rw [← e9], by rw [ht, ← e9]; exact hP, hS.F ht⟩) hS.2.2 d_M_there_44
        · refine lv_iconst (v := (1 : Int32)) hx hb d_M_there_39 (by decide) ?_
          refine lv_goto (tgt := 44) hx hb d_M_there_40 (by decide) ?_
          have e9 : ((1 : Int32), (f_M_goes σ (1 : Int32) (1 : Int32)).2) = f_M_there σ o x := by rw [f_M_there, if_neg q1, if_neg q2, if_neg q3, if_neg q4]
          exact W.zret (v := (1 : Int32)) hx hb hr (by decide) (fun t ht hW => ⟨by rw [← e9], by rw [ht, ← e9]; exact hP, hS.F ht⟩) hS.2.2 d_M_there_44

def f_M_set_j31 (σ : Nat → Nat → Int32) (q : Int32) (v : Int32) (p2 : Int32) (p1 : Int32) : (Int32 × (Nat → Nat → Int32)) := (if (f_M_goes σ p1 p2).1 = 0 then ((0 : Int32), (f_M_goes σ p1 p2).2) else (if q = (3 : Int32) then (((f_M_goes σ p1 p2).2 7 6), (kup (kup (kup (kup (f_M_goes σ p1 p2).2 7 6 v) 7 7 (1024 : Int32)) 7 8 (0 : Int32)) 7 9 (0 : Int32))) else (if q = (2 : Int32) then (((f_M_goes σ p1 p2).2 7 6), (kup (kup (kup (kup (f_M_goes σ p1 p2).2 7 6 v) 7 7 (64 : Int32)) 7 8 (0 : Int32)) 7 9 (0 : Int32))) else (if q = (1 : Int32) then (((f_M_goes σ p1 p2).2 7 6), (kup (kup (kup (kup (f_M_goes σ p1 p2).2 7 6 v) 7 7 (8 : Int32)) 7 8 (0 : Int32)) 7 9 (0 : Int32))) else (((f_M_goes σ p1 p2).2 7 6), (kup (kup (kup (kup (f_M_goes σ p1 p2).2 7 6 v) 7 7 (1 : Int32)) 7 8 (0 : Int32)) 7 9 (0 : Int32)))))))

def f_M_set (σ : Nat → Nat → Int32) (q : Int32) (v : Int32) : (Int32 × (Nat → Nat → Int32)) := (if q < 0 then (if v < 0 then (f_M_set_j31 σ q v (0 : Int32) (0 : Int32)) else (if (255 : Int32) < v then (f_M_set_j31 σ q v (0 : Int32) (0 : Int32)) else (f_M_set_j31 σ q v (1 : Int32) (0 : Int32)))) else (if (3 : Int32) < q then (if v < 0 then (f_M_set_j31 σ q v (0 : Int32) (0 : Int32)) else (if (255 : Int32) < v then (f_M_set_j31 σ q v (0 : Int32) (0 : Int32)) else (f_M_set_j31 σ q v (1 : Int32) (0 : Int32)))) else (if v < 0 then (f_M_set_j31 σ q v (0 : Int32) (1 : Int32)) else (if (255 : Int32) < v then (f_M_set_j31 σ q v (0 : Int32) (1 : Int32)) else (f_M_set_j31 σ q v (1 : Int32) (1 : Int32))))))

set_option maxRecDepth 100000 in
set_option maxHeartbeats 4000000 in
theorem c_M_set (l : Launch) (D : va_G) (cA ad : Nat → Nat) (hap : kap 8 ad) (σ : Nat → Nat → Int32) (q : Int32) (v : Int32) : Met l y_M_set w_M_set ({ frames := 1, cells := 0, slots := 0, locals := 22 } : Room) (va_Pc [.ref (ad 0), .int q, .int v] (mPre D cA ad σ)) (kQi D (mw cA ad (f_M_set σ q v).2) (kA 8 ad) (f_M_set σ q v).1) 0 0 (kA 8 ad) := by
  refine Met.ofW (cc := b_M_set) (maxL := 4) (ret := (some .int)) (by decide) rfl ?_
  intro p e s m args below meth c s₁ B hml hv
  obtain ⟨rfl, hv⟩ := hv
  obtain ⟨hP, hK⟩ := hv
  have hx := B.exec
  have hb := B.bytes
  have hr := B.returns
  have hlocks := B.notSynchronized
  have hT : ∀ w ∈ TB, w.before ([.ref (ad 0), .int q, .int v] : List Value).toArray s = true := fun w h => atoms_spec (ws := w_M_set) B.pre w (List.mem_cons_of_mem _ h)
  have hown : s.vm.findClass R_M = some m.cls := findClass_of_methodNamed B.named
  have hS : va_S (kA 8 ad) s.heap s.heap [] := va_S.rf
  have hD : ∀ σ, va_D (kA 8 ad) (mw cA ad σ) := fun σ => kD hap rfl
  have hl := lv_entry ([.ref (ad 0), .int q, .int v]) (n := 4) (Nat.le_of_ble_eq_true rfl)
  rw [lg_entry_eq]
  generalize (lg_sl ([.ref (ad 0), .int q, .int v]) ++ List.replicate (4 - (lg_sl ([.ref (ad 0), .int q, .int v])).length) Slot.unset).toArray = ls at hl ⊢
  have hl : lv_has ls 4 [(0, .ref (ad 0)), (1, .int q), (2, .int v)] := hl
  have j31 : ∀ (p2 : Int32) (p1 : Int32), f_M_set_j31 σ q v p2 p1 = f_M_set σ q v → W p l e (headSpec w_M_set ({ frames := 1, cells := 0, slots := 0, locals := 22 } : Room)).room s m ([.ref (ad 0), .int q, .int v] : List Value).toArray below meth c s.heap [] 0 0 (MQ below (kQi D (mw cA ad (f_M_set σ q v).2) (kA 8 ad) (f_M_set σ q v).1) ([.ref (ad 0), .int q, .int v] : List Value).toArray s 0 0 (kA 8 ad)) (F0 m 31 ls [.int p2, .int p1, .ref (ad 0)]) := by
    intro p2 p1  hg
    refine kci (va_runV (As := [.int p1, .int p2]) (rest := []) ⟨hx, hb, hml, hown, hT⟩ (c_M_goes l D cA ad hap σ p1 p2) (kCV 2 hT ml_M_60 mi_M_goes ⟨Nat.le_of_ble_eq_true rfl, Nat.le_of_ble_eq_true rfl⟩) (mpreV hK hP) rfl rfl hl.1 rfl (lv_room (Nat.le_of_ble_eq_true rfl)) d_M_set_31 ⟨Nat.le_of_ble_eq_true rfl, Nat.le_of_ble_eq_true rfl⟩) hS (fun H locs hP hS => ?_)
    refine lv_if_ne (tgt := 39) hx hb d_M_set_34 (by decide) (fun q1 => ?_) (fun q1 => ?_)
    · refine lv_aload_n hx hb d_M_set_39 rfl (lv_at hl 0 rfl) ?_
      refine va_get (D := D) (ci := 2) (v := .int ((f_M_goes σ p1 p2).2 7 6)) (C := R_M) (T := F_M) (N := 17) hx hb hT in_M hown hK hP 0 rfl rfl 13 (by decide) (hT _ fl_M_110) (fun _ h9 => h9) rfl d_M_set_40 ?_
      refine lv_istore_n (lv' := [(3, .int ((f_M_goes σ p1 p2).2 7 6)), (0, .ref (ad 0)), (1, .int q), (2, .int v)]) hx hb d_M_set_43 rfl hl (by decide) rfl (fun ls hl => ?_)
      refine lv_aload_n hx hb d_M_set_44 rfl (lv_at hl 1 rfl) ?_
      refine lv_iload_n hx hb d_M_set_45 rfl (lv_at hl 3 rfl) ?_
      refine va_put (A := (kA 8 ad)) (D := D) (ci := 2) (v := .int v) (ty := .int) (C := R_M) (T := F_M) (N := 17) hx hb hT in_M ft_M ft_M_ok n_M hown hK hP (hD _) hS 0 rfl rfl 13 (by decide) (hT _ fl_M_110) (fun _ h9 => h9) rfl (by decide +kernel) rfl rfl (Nat.le_of_ble_eq_true rfl) d_M_set_46 (fun H locs hP _ hS => ?_)
      have hP := kst (mw_p0_13 cA ad (f_M_goes σ p1 p2).2 v) hP
      refine lv_aload_n hx hb d_M_set_49 rfl (lv_at hl 1 rfl) ?_
      refine lv_iload_n hx hb d_M_set_50 rfl (lv_at hl 2 rfl) ?_
      refine lv_iconst (v := (3 : Int32)) hx hb d_M_set_51 (by decide) ?_
      refine lv_icmp_ne (tgt := 61) hx hb d_M_set_52 (by decide) (fun q2 => ?_) (fun q2 => ?_)
      · refine lv_iload_n hx hb d_M_set_61 rfl (lv_at hl 2 rfl) ?_
        refine lv_iconst (v := (2 : Int32)) hx hb d_M_set_62 (by decide) ?_
        refine lv_icmp_ne (tgt := 71) hx hb d_M_set_63 (by decide) (fun q3 => ?_) (fun q3 => ?_)
        · refine lv_iload_n hx hb d_M_set_71 rfl (lv_at hl 2 rfl) ?_
          refine lv_iconst (v := (1 : Int32)) hx hb d_M_set_72 (by decide) ?_
          refine lv_icmp_ne (tgt := 81) hx hb d_M_set_73 (by decide) (fun q4 => ?_) (fun q4 => ?_)
          · refine lv_iconst (v := (1 : Int32)) hx hb d_M_set_81 (by decide) ?_
            refine va_put (A := (kA 8 ad)) (D := D) (ci := 2) (v := .int (1 : Int32)) (ty := .int) (C := R_M) (T := F_M) (N := 17) hx hb hT in_M ft_M ft_M_ok n_M hown hK hP (hD _) hS 0 rfl rfl 14 (by decide) (hT _ fl_M_32) (fun _ h9 => h9) rfl (by decide +kernel) rfl rfl (Nat.le_of_ble_eq_true rfl) d_M_set_82 (fun H locs hP _ hS => ?_)
            have hP := kst (mw_p0_14 cA ad (kup (f_M_goes σ p1 p2).2 7 6 v) (1 : Int32)) hP
            refine lv_aload_n hx hb d_M_set_85 rfl (lv_at hl 1 rfl) ?_
            refine lv_iconst (v := (0 : Int32)) hx hb d_M_set_86 (by decide) ?_
            refine va_put (A := (kA 8 ad)) (D := D) (ci := 2) (v := .int (0 : Int32)) (ty := .int) (C := R_M) (T := F_M) (N := 17) hx hb hT in_M ft_M ft_M_ok n_M hown hK hP (hD _) hS 0 rfl rfl 15 (by decide) (hT _ fl_M_107) (fun _ h9 => h9) rfl (by decide +kernel) rfl rfl (Nat.le_of_ble_eq_true rfl) d_M_set_87 (fun H locs hP _ hS => ?_)
            have hP := kst (mw_p0_15 cA ad (kup (kup (f_M_goes σ p1 p2).2 7 6 v) 7 7 (1 : Int32)) (0 : Int32)) hP
            refine lv_aload_n hx hb d_M_set_90 rfl (lv_at hl 1 rfl) ?_
            refine lv_iconst (v := (0 : Int32)) hx hb d_M_set_91 (by decide) ?_
            refine va_put (A := (kA 8 ad)) (D := D) (ci := 2) (v := .int (0 : Int32)) (ty := .boolean) (C := R_M) (T := F_M) (N := 17) hx hb hT in_M ft_M ft_M_ok n_M hown hK hP (hD _) hS 0 rfl rfl 16 (by decide) (hT _ fl_M_113) (fun _ h9 => h9) rfl (by decide +kernel) (by decide) (by decide) (Nat.le_of_ble_eq_true rfl) d_M_set_92 (fun H locs hP _ hS => ?_)
            have hP := kst (mw_p0_16 cA ad (kup (kup (kup (f_M_goes σ p1 p2).2 7 6 v) 7 7 (1 : Int32)) 7 8 (0 : Int32)) (0 : Int32)) hP
            refine lv_iload_n hx hb d_M_set_95 rfl (lv_at hl 0 rfl) ?_
            have e9 : (((f_M_goes σ p1 p2).2 7 6), (kup (kup (kup (kup (f_M_goes σ p1 p2).2 7 6 v) 7 7 (1 : Int32)) 7 8 (0 : Int32)) 7 9 (0 : Int32))) = f_M_set σ q v := by rw [← hg, f_M_set_j31, if_neg q1, if_neg q2, if_neg q3, if_neg q4]
            exact W.iret (v := ((f_M_goes σ p1 p2).2 7 6)) hx hb hr (fun t ht hW => ⟨by rw [← e9], by rw [ht, ← e9]; exact hP, hS.F ht⟩) hS.2.2 d_M_set_96
          · refine lv_bipush (v := (8 : Int32)) hx hb d_M_set_76 (by decide) ?_
            refine lv_goto (tgt := 82) hx hb d_M_set_78 (by decide) ?_
            refine va_put (A := (kA 8 ad)) (D := D) (ci := 2) (v := .int (8 : Int32)) (ty := .int) (C := R_M) (T := F_M) (N := 17) hx hb hT in_M ft_M ft_M_ok n_M hown hK hP (hD _) hS 0 rfl rfl 14 (by decide) (hT _ fl_M_32) (fun _ h9 => h9) rfl (by decide +kernel) rfl rfl (Nat.le_of_ble_eq_true rfl) d_M_set_82 (fun H locs hP _ hS => ?_)
            have hP := kst (mw_p0_14 cA ad (kup (f_M_goes σ p1 p2).2 7 6 v) (8 : Int32)) hP
            refine lv_aload_n hx hb d_M_set_85 rfl (lv_at hl 1 rfl) ?_
            refine lv_iconst (v := (0 : Int32)) hx hb d_M_set_86 (by decide) ?_
            refine va_put (A := (kA 8 ad)) (D := D) (ci := 2) (v := .int (0 : Int32)) (ty := .int) (C := R_M) (T := F_M) (N := 17) hx hb hT in_M ft_M ft_M_ok n_M hown hK hP (hD _) hS 0 rfl rfl 15 (by decide) (hT _ fl_M_107) (fun _ h9 => h9) rfl (by decide +kernel) rfl rfl (Nat.le_of_ble_eq_true rfl) d_M_set_87 (fun H locs hP _ hS => ?_)
            have hP := kst (mw_p0_15 cA ad (kup (kup (f_M_goes σ p1 p2).2 7 6 v) 7 7 (8 : Int32)) (0 : Int32)) hP
            refine lv_aload_n hx hb d_M_set_90 rfl (lv_at hl 1 rfl) ?_
            refine lv_iconst (v := (0 : Int32)) hx hb d_M_set_91 (by decide) ?_
            refine va_put (A := (kA 8 ad)) (D := D) (ci := 2) (v := .int (0 : Int32)) (ty := .boolean) (C := R_M) (T := F_M) (N := 17) hx hb hT in_M ft_M ft_M_ok n_M hown hK hP (hD _) hS 0 rfl rfl 16 (by decide) (hT _ fl_M_113) (fun _ h9 => h9) rfl (by decide +kernel) (by decide) (by decide) (Nat.le_of_ble_eq_true rfl) d_M_set_92 (fun H locs hP _ hS => ?_)
            have hP := kst (mw_p0_16 cA ad (kup (kup (kup (f_M_goes σ p1 p2).2 7 6 v) 7 7 (8 : Int32)) 7 8 (0 : Int32)) (0 : Int32)) hP
            refine lv_iload_n hx hb d_M_set_95 rfl (lv_at hl 0 rfl) ?_
            have e9 : (((f_M_goes σ p1 p2).2 7 6), (kup (kup (kup (kup (f_M_goes σ p1 p2).2 7 6 v) 7 7 (8 : Int32)) 7 8 (0 : Int32)) 7 9 (0 : Int32))) = f_M_set σ q v := by rw [← hg, f_M_set_j31, if_neg q1, if_neg q2, if_neg q3, if_pos q4]
            exact W.iret (v := ((f_M_goes σ p1 p2).2 7 6)) hx hb hr (fun t ht hW => ⟨by rw [← e9], by rw [ht, ← e9]; exact hP, hS.F ht⟩) hS.2.2 d_M_set_96
        · refine lv_bipush (v := (64 : Int32)) hx hb d_M_set_66 (by decide) ?_
          refine lv_goto (tgt := 82) hx hb d_M_set_68 (by decide) ?_
          refine va_put (A := (kA 8 ad)) (D := D) (ci := 2) (v := .int (64 : Int32)) (ty := .int) (C := R_M) (T := F_M) (N := 17) hx hb hT in_M ft_M ft_M_ok n_M hown hK hP (hD _) hS 0 rfl rfl 14 (by decide) (hT _ fl_M_32) (fun _ h9 => h9) rfl (by decide +kernel) rfl rfl (Nat.le_of_ble_eq_true rfl) d_M_set_82 (fun H locs hP _ hS => ?_)
          have hP := kst (mw_p0_14 cA ad (kup (f_M_goes σ p1 p2).2 7 6 v) (64 : Int32)) hP
          refine lv_aload_n hx hb d_M_set_85 rfl (lv_at hl 1 rfl) ?_
          refine lv_iconst (v := (0 : Int32)) hx hb d_M_set_86 (by decide) ?_
          refine va_put (A := (kA 8 ad)) (D := D) (ci := 2) (v := .int (0 : Int32)) (ty := .int) (C := R_M) (T := F_M) (N := 17) hx hb hT in_M ft_M ft_M_ok n_M hown hK hP (hD _) hS 0 rfl rfl 15 (by decide) (hT _ fl_M_107) (fun _ h9 => h9) rfl (by decide +kernel) rfl rfl (Nat.le_of_ble_eq_true rfl) d_M_set_87 (fun H locs hP _ hS => ?_)
          have hP := kst (mw_p0_15 cA ad (kup (kup (f_M_goes σ p1 p2).2 7 6 v) 7 7 (64 : Int32)) (0 : Int32)) hP
          refine lv_aload_n hx hb d_M_set_90 rfl (lv_at hl 1 rfl) ?_
          refine lv_iconst (v := (0 : Int32)) hx hb d_M_set_91 (by decide) ?_
          refine va_put (A := (kA 8 ad)) (D := D) (ci := 2) (v := .int (0 : Int32)) (ty := .boolean) (C := R_M) (T := F_M) (N := 17) hx hb hT in_M ft_M ft_M_ok n_M hown hK hP (hD _) hS 0 rfl rfl 16 (by decide) (hT _ fl_M_113) (fun _ h9 => h9) rfl (by decide +kernel) (by decide) (by decide) (Nat.le_of_ble_eq_true rfl) d_M_set_92 (fun H locs hP _ hS => ?_)
          have hP := kst (mw_p0_16 cA ad (kup (kup (kup (f_M_goes σ p1 p2).2 7 6 v) 7 7 (64 : Int32)) 7 8 (0 : Int32)) (0 : Int32)) hP
          refine lv_iload_n hx hb d_M_set_95 rfl (lv_at hl 0 rfl) ?_
          have e9 : (((f_M_goes σ p1 p2).2 7 6), (kup (kup (kup (kup (f_M_goes σ p1 p2).2 7 6 v) 7 7 (64 : Int32)) 7 8 (0 : Int32)) 7 9 (0 : Int32))) = f_M_set σ q v := by rw [← hg, f_M_set_j31, if_neg q1, if_neg q2, if_pos q3]
          exact W.iret (v := ((f_M_goes σ p1 p2).2 7 6)) hx hb hr (fun t ht hW => ⟨by rw [← e9], by rw [ht, ← e9]; exact hP, hS.F ht⟩) hS.2.2 d_M_set_96
      · refine lv_sipush (v := (1024 : Int32)) hx hb d_M_set_55 (by decide) ?_
        refine lv_goto (tgt := 82) hx hb d_M_set_58 (by decide) ?_
        refine va_put (A := (kA 8 ad)) (D := D) (ci := 2) (v := .int (1024 : Int32)) (ty := .int) (C := R_M) (T := F_M) (N := 17) hx hb hT in_M ft_M ft_M_ok n_M hown hK hP (hD _) hS 0 rfl rfl 14 (by decide) (hT _ fl_M_32) (fun _ h9 => h9) rfl (by decide +kernel) rfl rfl (Nat.le_of_ble_eq_true rfl) d_M_set_82 (fun H locs hP _ hS => ?_)
        have hP := kst (mw_p0_14 cA ad (kup (f_M_goes σ p1 p2).2 7 6 v) (1024 : Int32)) hP
        refine lv_aload_n hx hb d_M_set_85 rfl (lv_at hl 1 rfl) ?_
        refine lv_iconst (v := (0 : Int32)) hx hb d_M_set_86 (by decide) ?_
        refine va_put (A := (kA 8 ad)) (D := D) (ci := 2) (v := .int (0 : Int32)) (ty := .int) (C := R_M) (T := F_M) (N := 17) hx hb hT in_M ft_M ft_M_ok n_M hown hK hP (hD _) hS 0 rfl rfl 15 (by decide) (hT _ fl_M_107) (fun _ h9 => h9) rfl (by decide +kernel) rfl rfl (Nat.le_of_ble_eq_true rfl) d_M_set_87 (fun H locs hP _ hS => ?_)
        have hP := kst (mw_p0_15 cA ad (kup (kup (f_M_goes σ p1 p2).2 7 6 v) 7 7 (1024 : Int32)) (0 : Int32)) hP
        refine lv_aload_n hx hb d_M_set_90 rfl (lv_at hl 1 rfl) ?_
        refine lv_iconst (v := (0 : Int32)) hx hb d_M_set_91 (by decide) ?_
        refine va_put (A := (kA 8 ad)) (D := D) (ci := 2) (v := .int (0 : Int32)) (ty := .boolean) (C := R_M) (T := F_M) (N := 17) hx hb hT in_M ft_M ft_M_ok n_M hown hK hP (hD _) hS 0 rfl rfl 16 (by decide) (hT _ fl_M_113) (fun _ h9 => h9) rfl (by decide +kernel) (by decide) (by decide) (Nat.le_of_ble_eq_true rfl) d_M_set_92 (fun H locs hP _ hS => ?_)
        have hP := kst (mw_p0_16 cA ad (kup (kup (kup (f_M_goes σ p1 p2).2 7 6 v) 7 7 (1024 : Int32)) 7 8 (0 : Int32)) (0 : Int32)) hP
        refine lv_iload_n hx hb d_M_set_95 rfl (lv_at hl 0 rfl) ?_
        have e9 : (((f_M_goes σ p1 p2).2 7 6), (kup (kup (kup (kup (f_M_goes σ p1 p2).2 7 6 v) 7 7 (1024 : Int32)) 7 8 (0 : Int32)) 7 9 (0 : Int32))) = f_M_set σ q v := by rw [← hg, f_M_set_j31, if_neg q1, if_pos q2]
        exact W.iret (v := ((f_M_goes σ p1 p2).2 7 6)) hx hb hr (fun t ht hW => ⟨by rw [← e9], by rw [ht, ← e9]; exact hP, hS.F ht⟩) hS.2.2 d_M_set_96
    · refine lv_iconst (v := (0 : Int32)) hx hb d_M_set_37 (by decide) ?_
      have e9 : ((0 : Int32), (f_M_goes σ p1 p2).2) = f_M_set σ q v := by rw [← hg, f_M_set_j31, if_pos q1]
      exact W.iret (v := (0 : Int32)) hx hb hr (fun t ht hW => ⟨by rw [← e9], by rw [ht, ← e9]; exact hP, hS.F ht⟩) hS.2.2 d_M_set_38
  refine lv_aload_n hx hb d_M_set_0 rfl (lv_at hl 0 rfl) ?_
  refine lv_iload_n hx hb d_M_set_1 rfl (lv_at hl 1 rfl) ?_
  refine lv_if_lt (tgt := 14) hx hb d_M_set_2 (by decide) (fun q1 => ?_) (fun q1 => ?_)
  · refine lv_iconst (v := (0 : Int32)) hx hb d_M_set_14 (by decide) ?_
    refine lv_iload_n hx hb d_M_set_15 rfl (lv_at hl 2 rfl) ?_
    refine lv_if_lt (tgt := 30) hx hb d_M_set_16 (by decide) (fun q2 => ?_) (fun q2 => ?_)
    · refine lv_iconst (v := (0 : Int32)) hx hb d_M_set_30 (by decide) ?_
      exact j31 (0 : Int32) (0 : Int32)  (by rw [f_M_set, if_pos q1, if_pos q2])
    · refine lv_iload_n hx hb d_M_set_19 rfl (lv_at hl 2 rfl) ?_
      refine lv_sipush (v := (255 : Int32)) hx hb d_M_set_20 (by decide) ?_
      refine lv_icmp_gt (tgt := 30) hx hb d_M_set_23 (by decide) (fun q3 => ?_) (fun q3 => ?_)
      · refine lv_iconst (v := (0 : Int32)) hx hb d_M_set_30 (by decide) ?_
        exact j31 (0 : Int32) (0 : Int32)  (by rw [f_M_set, if_pos q1, if_neg q2, if_pos q3])
      · refine lv_iconst (v := (1 : Int32)) hx hb d_M_set_26 (by decide) ?_
        refine lv_goto (tgt := 31) hx hb d_M_set_27 (by decide) ?_
        exact j31 (1 : Int32) (0 : Int32)  (by rw [f_M_set, if_pos q1, if_neg q2, if_neg q3])
  · refine lv_iload_n hx hb d_M_set_5 rfl (lv_at hl 1 rfl) ?_
    refine lv_iconst (v := (3 : Int32)) hx hb d_M_set_6 (by decide) ?_
    refine lv_icmp_gt (tgt := 14) hx hb d_M_set_7 (by decide) (fun q4 => ?_) (fun q4 => ?_)
    · refine lv_iconst (v := (0 : Int32)) hx hb d_M_set_14 (by decide) ?_
      refine lv_iload_n hx hb d_M_set_15 rfl (lv_at hl 2 rfl) ?_
      refine lv_if_lt (tgt := 30) hx hb d_M_set_16 (by decide) (fun q5 => ?_) (fun q5 => ?_)
      · refine lv_iconst (v := (0 : Int32)) hx hb d_M_set_30 (by decide) ?_
        exact j31 (0 : Int32) (0 : Int32)  (by rw [f_M_set, if_neg q1, if_pos q4, if_pos q5])
      · refine lv_iload_n hx hb d_M_set_19 rfl (lv_at hl 2 rfl) ?_
        refine lv_sipush (v := (255 : Int32)) hx hb d_M_set_20 (by decide) ?_
        refine lv_icmp_gt (tgt := 30) hx hb d_M_set_23 (by decide) (fun q6 => ?_) (fun q6 => ?_)
        · refine lv_iconst (v := (0 : Int32)) hx hb d_M_set_30 (by decide) ?_
          exact j31 (0 : Int32) (0 : Int32)  (by rw [f_M_set, if_neg q1, if_pos q4, if_neg q5, if_pos q6])
        · refine lv_iconst (v := (1 : Int32)) hx hb d_M_set_26 (by decide) ?_
          refine lv_goto (tgt := 31) hx hb d_M_set_27 (by decide) ?_
          exact j31 (1 : Int32) (0 : Int32)  (by rw [f_M_set, if_neg q1, if_pos q4, if_neg q5, if_neg q6])
    · refine lv_iconst (v := (1 : Int32)) hx hb d_M_set_10 (by decide) ?_
      refine lv_goto (tgt := 15) hx hb d_M_set_11 (by decide) ?_
      refine lv_iload_n hx hb d_M_set_15 rfl (lv_at hl 2 rfl) ?_
      refine lv_if_lt (tgt := 30) hx hb d_M_set_16 (by decide) (fun q7 => ?_) (fun q7 => ?_)
      · refine lv_iconst (v := (0 : Int32)) hx hb d_M_set_30 (by decide) ?_
        exact j31 (0 : Int32) (1 : Int32)  (by rw [f_M_set, if_neg q1, if_neg q4, if_pos q7])
      · refine lv_iload_n hx hb d_M_set_19 rfl (lv_at hl 2 rfl) ?_
        refine lv_sipush (v := (255 : Int32)) hx hb d_M_set_20 (by decide) ?_
        refine lv_icmp_gt (tgt := 30) hx hb d_M_set_23 (by decide) (fun q8 => ?_) (fun q8 => ?_)
        · refine lv_iconst (v := (0 : Int32)) hx hb d_M_set_30 (by decide) ?_
          exact j31 (0 : Int32) (1 : Int32)  (by rw [f_M_set, if_neg q1, if_neg q4, if_neg q7, if_pos q8])
        · refine lv_iconst (v := (1 : Int32)) hx hb d_M_set_26 (by decide) ?_
          refine lv_goto (tgt := 31) hx hb d_M_set_27 (by decide) ?_
          exact j31 (1 : Int32) (1 : Int32)  (by rw [f_M_set, if_neg q1, if_neg q4, if_neg q7, if_neg q8])

def f_M_count_lp28 (σ : Nat → Nat → Int32) (wh : Int32) : Nat → Int32 → Int32 → (Nat → Nat → Int32) → (Int32 × (Nat → Nat → Int32))
  | 0, i, acc, σ1 => (if wh = (0 : Int32) then ((σ1 7 3), σ1) else (if wh = (1 : Int32) then ((σ1 7 4), σ1) else (if wh = (2 : Int32) then ((σ1 7 6), σ1) else (if wh = (3 : Int32) then (if (σ1 7 9) = 0 then ((0 : Int32), σ1) else ((1 : Int32), σ1)) else (if wh = (4 : Int32) then ((acc / (2 : Int32)), σ1) else ((σ1 7 5), σ1))))))
  | n + 1, i, acc, σ1 => (if (σ1 4 (i).toNatClampNeg) = 0 then (f_M_count_lp28 σ wh n (i + 1) acc σ1) else (f_M_count_lp28 σ wh n (i + 1) (acc + (1 : Int32)) σ1))
theorem f_M_count_lp28_z (σ : Nat → Nat → Int32) (wh : Int32) (i : Int32) (acc : Int32) (σ1 : Nat → Nat → Int32) : f_M_count_lp28 σ wh 0 i acc σ1 = (if wh = (0 : Int32) then ((σ1 7 3), σ1) else (if wh = (1 : Int32) then ((σ1 7 4), σ1) else (if wh = (2 : Int32) then ((σ1 7 6), σ1) else (if wh = (3 : Int32) then (if (σ1 7 9) = 0 then ((0 : Int32), σ1) else ((1 : Int32), σ1)) else (if wh = (4 : Int32) then ((acc / (2 : Int32)), σ1) else ((σ1 7 5), σ1)))))) := rfl
theorem f_M_count_lp28_s (σ : Nat → Nat → Int32) (wh : Int32) (n : Nat) (i : Int32) (acc : Int32) (σ1 : Nat → Nat → Int32) : f_M_count_lp28 σ wh (n + 1) i acc σ1 = (if (σ1 4 (i).toNatClampNeg) = 0 then (f_M_count_lp28 σ wh n (i + 1) acc σ1) else (f_M_count_lp28 σ wh n (i + 1) (acc + (1 : Int32)) σ1)) := rfl

def f_M_count (σ : Nat → Nat → Int32) (wh : Int32) : (Int32 × (Nat → Nat → Int32)) := (if wh < 0 then ((0 : Int32), (f_M_goes σ (0 : Int32) (1 : Int32)).2) else (if (5 : Int32) < wh then ((0 : Int32), (f_M_goes σ (0 : Int32) (1 : Int32)).2) else (f_M_count_lp28 σ wh 36 (0 : Int32) (0 : Int32) (f_M_goes σ (1 : Int32) (1 : Int32)).2)))

set_option maxRecDepth 100000 in
set_option maxHeartbeats 4000000 in
theorem c_M_count (l : Launch) (D : va_G) (cA ad : Nat → Nat) (hap : kap 8 ad) (σ : Nat → Nat → Int32) (wh : Int32) : Met l y_M_count w_M_count ({ frames := 1, cells := 0, slots := 0, locals := 22 } : Room) (va_Pc [.ref (ad 0), .int wh] (mPre D cA ad σ)) (kQi D (mw cA ad (f_M_count σ wh).2) (kA 8 ad) (f_M_count σ wh).1) 0 0 (kA 8 ad) := by
  refine Met.ofW (cc := b_M_count) (maxL := 4) (ret := (some .int)) (by decide) rfl ?_
  intro p e s m args below meth c s₁ B hml hv
  obtain ⟨rfl, hv⟩ := hv
  obtain ⟨hP, hK⟩ := hv
  have hx := B.exec
  have hb := B.bytes
  have hr := B.returns
  have hlocks := B.notSynchronized
  have hT : ∀ w ∈ TB, w.before ([.ref (ad 0), .int wh] : List Value).toArray s = true := fun w h => atoms_spec (ws := w_M_count) B.pre w (List.mem_cons_of_mem _ h)
  have hown : s.vm.findClass R_M = some m.cls := findClass_of_methodNamed B.named
  have hS : va_S (kA 8 ad) s.heap s.heap [] := va_S.rf
  have hD : ∀ σ, va_D (kA 8 ad) (mw cA ad σ) := fun σ => kD hap rfl
  have hl := lv_entry ([.ref (ad 0), .int wh]) (n := 4) (Nat.le_of_ble_eq_true rfl)
  rw [lg_entry_eq]
  generalize (lg_sl ([.ref (ad 0), .int wh]) ++ List.replicate (4 - (lg_sl ([.ref (ad 0), .int wh])).length) Slot.unset).toArray = ls at hl ⊢
  have hl : lv_has ls 4 [(0, .ref (ad 0)), (1, .int wh)] := hl
  have loop28 : ∀ (n i : Nat) (acc : Int32) (σ1 : Nat → Nat → Int32) (H : Heap) (locs : List Loc) (ls : Array Slot), i + n = 36 → lv_has ls 4 [(3, .int (nI i)), (2, .int acc), (0, .ref (ad 0)), (1, .int wh)] → va_P D classes (mw cA ad σ1) H → va_S (kA 8 ad) s.heap H locs → f_M_count_lp28 σ wh n (nI i) acc σ1 = f_M_count σ wh → W p l e (headSpec w_M_count ({ frames := 1, cells := 0, slots := 0, locals := 22 } : Room)).room s m ([.ref (ad 0), .int wh] : List Value).toArray below meth c H locs 0 0 (MQ below (kQi D (mw cA ad (f_M_count σ wh).2) (kA 8 ad) (f_M_count σ wh).1) ([.ref (ad 0), .int wh] : List Value).toArray s 0 0 (kA 8 ad)) (F0 m 28 ls []) := by
    intro n
    induction n with
    | zero =>
      intro i acc σ1 H locs ls hi hl hP hS hg
      refine lv_iload_n hx hb d_M_count_28 rfl (lv_at hl 0 rfl) ?_
      refine lv_bipush (v := (36 : Int32)) hx hb d_M_count_29 (by decide) ?_
      refine lv_icmp_ge (tgt := 57) hx hb d_M_count_31 (by decide) (fun _ => ?_) (fun h9 => absurd (nI_le (a := 36) (b := i) (by omega) (by omega)) h9)
      refine lv_iload_n hx hb d_M_count_57 rfl (lv_at hl 3 rfl) ?_
      by_cases q1 : wh = (0 : Int32)
      · refine lv_tableIn (tgt := 92) (off := 34) hx hb d_M_count_58 (by rw [q1]; decide) (by rw [q1]; decide) (by rw [q1]; rfl) (by decide) ?_
        refine lv_aload_n hx hb d_M_count_92 rfl (lv_at hl 2 rfl) ?_
        refine va_get (D := D) (ci := 2) (v := .int (σ1 7 3)) (C := R_M) (T := F_M) (N := 17) hx hb hT in_M hown hK hP 0 rfl rfl 10 (by decide) (hT _ fl_M_50) (fun _ h9 => h9) rfl d_M_count_93 ?_
        have e9 : ((σ1 7 3), σ1) = f_M_count σ wh := by rw [← hg, f_M_count_lp28_z, if_pos q1]
        exact W.iret (v := (σ1 7 3)) hx hb hr (fun t ht hW => ⟨by rw [← e9], by rw [ht, ← e9]; exact hP, hS.F ht⟩) hS.2.2 d_M_count_96
      by_cases q2 : wh = (1 : Int32)
      · refine lv_tableIn (tgt := 97) (off := 39) hx hb d_M_count_58 (by rw [q2]; decide) (by rw [q2]; decide) (by rw [q2]; rfl) (by decide) ?_
        refine lv_aload_n hx hb d_M_count_97 rfl (lv_at hl 2 rfl) ?_
        refine va_get (D := D) (ci := 2) (v := .int (σ1 7 4)) (C := R_M) (T := F_M) (N := 17) hx hb hT in_M hown hK hP 0 rfl rfl 11 (by decide) (hT _ fl_M_122) (fun _ h9 => h9) rfl d_M_count_98 ?_
        have e9 : ((σ1 7 4), σ1) = f_M_count σ wh := by rw [← hg, f_M_count_lp28_z, if_neg q1, if_pos q2]
        exact W.iret (v := (σ1 7 4)) hx hb hr (fun t ht hW => ⟨by rw [← e9], by rw [ht, ← e9]; exact hP, hS.F ht⟩) hS.2.2 d_M_count_101
      by_cases q3 : wh = (2 : Int32)
      · refine lv_tableIn (tgt := 102) (off := 44) hx hb d_M_count_58 (by rw [q3]; decide) (by rw [q3]; decide) (by rw [q3]; rfl) (by decide) ?_
        refine lv_aload_n hx hb d_M_count_102 rfl (lv_at hl 2 rfl) ?_
        refine va_get (D := D) (ci := 2) (v := .int (σ1 7 6)) (C := R_M) (T := F_M) (N := 17) hx hb hT in_M hown hK hP 0 rfl rfl 13 (by decide) (hT _ fl_M_110) (fun _ h9 => h9) rfl d_M_count_103 ?_
        have e9 : ((σ1 7 6), σ1) = f_M_count σ wh := by rw [← hg, f_M_count_lp28_z, if_neg q1, if_neg q2, if_pos q3]
        exact W.iret (v := (σ1 7 6)) hx hb hr (fun t ht hW => ⟨by rw [← e9], by rw [ht, ← e9]; exact hP, hS.F ht⟩) hS.2.2 d_M_count_106
      by_cases q4 : wh = (3 : Int32)
      · refine lv_tableIn (tgt := 107) (off := 49) hx hb d_M_count_58 (by rw [q4]; decide) (by rw [q4]; decide) (by rw [q4]; rfl) (by decide) ?_
        refine lv_aload_n hx hb d_M_count_107 rfl (lv_at hl 2 rfl) ?_
        refine va_get (D := D) (ci := 2) (v := .int (σ1 7 9)) (C := R_M) (T := F_M) (N := 17) hx hb hT in_M hown hK hP 0 rfl rfl 16 (by decide) (hT _ fl_M_113) (fun _ h9 => h9) rfl d_M_count_108 ?_
        refine lv_if_eq (tgt := 118) hx hb d_M_count_111 (by decide) (fun q5 => ?_) (fun q5 => ?_)
        · refine lv_iconst (v := (0 : Int32)) hx hb d_M_count_118 (by decide) ?_
          have e9 : ((0 : Int32), σ1) = f_M_count σ wh := by rw [← hg, f_M_count_lp28_z, if_neg q1, if_neg q2, if_neg q3, if_pos q4, if_pos q5]
          exact W.iret (v := (0 : Int32)) hx hb hr (fun t ht hW => ⟨by rw [← e9], by rw [ht, ← e9]; exact hP, hS.F ht⟩) hS.2.2 d_M_count_119
        · refine lv_iconst (v := (1 : Int32)) hx hb d_M_count_114 (by decide) ?_
          refine lv_goto (tgt := 119) hx hb d_M_count_115 (by decide) ?_
          have e9 : ((1 : Int32), σ1) = f_M_count σ wh := by rw [← hg, f_M_count_lp28_z, if_neg q1, if_neg q2, if_neg q3, if_pos q4, if_neg q5]
          exact W.iret (v := (1 : Int32)) hx hb hr (fun t ht hW => ⟨by rw [← e9], by rw [ht, ← e9]; exact hP, hS.F ht⟩) hS.2.2 d_M_count_119
      by_cases q6 : wh = (4 : Int32)
      · refine lv_tableIn (tgt := 120) (off := 62) hx hb d_M_count_58 (by rw [q6]; decide) (by rw [q6]; decide) (by rw [q6]; rfl) (by decide) ?_
        refine lv_iload_n hx hb d_M_count_120 rfl (lv_at hl 1 rfl) ?_
        refine lv_iconst (v := (2 : Int32)) hx hb d_M_count_121 (by decide) ?_
        refine lv_idiv hx hb d_M_count_122 (by decide) ?_
        have e9 : ((acc / (2 : Int32)), σ1) = f_M_count σ wh := by rw [← hg, f_M_count_lp28_z, if_neg q1, if_neg q2, if_neg q3, if_neg q4, if_pos q6]
        exact W.iret (v := (acc / (2 : Int32))) hx hb hr (fun t ht hW => ⟨by rw [← e9], by rw [ht, ← e9]; exact hP, hS.F ht⟩) hS.2.2 d_M_count_123
      refine lv_tableOut (tgt := 124) hx hb d_M_count_58 (by have a0 := lv_neT q1 (a := 0) rfl; have a1 := lv_neT q2 (a := 1) rfl; have a2 := lv_neT q3 (a := 2) rfl; have a3 := lv_neT q4 (a := 3) rfl; have a4 := lv_neT q6 (a := 4) rfl; omega) (by decide) ?_
      refine lv_aload_n hx hb d_M_count_124 rfl (lv_at hl 2 rfl) ?_
      refine va_get (D := D) (ci := 2) (v := .int (σ1 7 5)) (C := R_M) (T := F_M) (N := 17) hx hb hT in_M hown hK hP 0 rfl rfl 12 (by decide) (hT _ fl_M_104) (fun _ h9 => h9) rfl d_M_count_125 ?_
      have e9 : ((σ1 7 5), σ1) = f_M_count σ wh := by rw [← hg, f_M_count_lp28_z, if_neg q1, if_neg q2, if_neg q3, if_neg q4, if_neg q6]
      exact W.iret (v := (σ1 7 5)) hx hb hr (fun t ht hW => ⟨by rw [← e9], by rw [ht, ← e9]; exact hP, hS.F ht⟩) hS.2.2 d_M_count_128
    | succ n ih =>
      intro i acc σ1 H locs ls hi hl hP hS hg
      refine lv_iload_n hx hb d_M_count_28 rfl (lv_at hl 0 rfl) ?_
      refine lv_bipush (v := (36 : Int32)) hx hb d_M_count_29 (by decide) ?_
      refine lv_icmp_ge (tgt := 57) hx hb d_M_count_31 (by decide) (fun h9 => absurd h9 (nI_ge (a := i) (b := 36) (by omega) (by decide))) (fun _ => ?_)
      refine lv_aload_n hx hb d_M_count_34 rfl (lv_at hl 2 rfl) ?_
      refine va_get (D := D) (ci := 2) (v := .ref (ad 5)) (C := R_M) (T := F_M) (N := 17) hx hb hT in_M hown hK hP 0 rfl rfl 7 (by decide) (hT _ fl_M_22) (fun _ h9 => h9) rfl d_M_count_35 ?_
      refine lv_iload_n hx hb d_M_count_38 rfl (lv_at hl 0 rfl) ?_
      refine va_zald hx hb hK hP 5 1 rfl rfl (by first | assumption | exact kin (by decide) | exact vp_in_nI (by omega) (by decide)) d_M_count_39 ?_
      refine lv_if_eq (tgt := 49) hx hb d_M_count_40 (by decide) (fun q7 => ?_) (fun q7 => ?_)
      · refine lv_iload_n hx hb d_M_count_49 rfl (lv_at hl 1 rfl) ?_
        refine lv_istore_n (lv' := [(2, .int acc), (3, .int (nI i)), (0, .ref (ad 0)), (1, .int wh)]) hx hb d_M_count_50 rfl hl (by decide) rfl (fun ls hl => ?_)
        refine lv_iinc (v := (nI (i + 1))) (lv' := [(3, .int (nI (i + 1))), (2, .int acc), (0, .ref (ad 0)), (1, .int wh)]) hx hb d_M_count_51 hl (k := 1) rfl (by rw [nI_succ]; rfl) (by decide) rfl (fun ls hl => ?_)
        refine lv_goto (tgt := 28) hx hb d_M_count_54 (by decide) ?_
        exact ih (i + 1) acc σ1 H locs ls (by omega) (lv_sub hl [0, 1, 2, 3] rfl) hP hS (by rw [← hg, f_M_count_lp28_s, if_pos q7, nI_succ])
      · refine lv_iload_n hx hb d_M_count_43 rfl (lv_at hl 1 rfl) ?_
        refine lv_iconst (v := (1 : Int32)) hx hb d_M_count_44 (by decide) ?_
        refine lv_iadd hx hb d_M_count_45 ?_
        refine lv_goto (tgt := 50) hx hb d_M_count_46 (by decide) ?_
        refine lv_istore_n (lv' := [(2, .int (acc + (1 : Int32))), (3, .int (nI i)), (0, .ref (ad 0)), (1, .int wh)]) hx hb d_M_count_50 rfl hl (by decide) rfl (fun ls hl => ?_)
        refine lv_iinc (v := (nI (i + 1))) (lv' := [(3, .int (nI (i + 1))), (2, .int (acc + (1 : Int32))), (0, .ref (ad 0)), (1, .int wh)]) hx hb d_M_count_51 hl (k := 1) rfl (by rw [nI_succ]; rfl) (by decide) rfl (fun ls hl => ?_)
        refine lv_goto (tgt := 28) hx hb d_M_count_54 (by decide) ?_
        exact ih (i + 1) (acc + (1 : Int32)) σ1 H locs ls (by omega) (lv_sub hl [0, 1, 2, 3] rfl) hP hS (by rw [← hg, f_M_count_lp28_s, if_neg q7, nI_succ])
  refine lv_aload_n hx hb d_M_count_0 rfl (lv_at hl 0 rfl) ?_
  refine lv_iload_n hx hb d_M_count_1 rfl (lv_at hl 1 rfl) ?_
  refine lv_if_lt (tgt := 14) hx hb d_M_count_2 (by decide) (fun q1 => ?_) (fun q1 => ?_)
  · refine lv_iconst (v := (0 : Int32)) hx hb d_M_count_14 (by decide) ?_
    refine lv_iconst (v := (1 : Int32)) hx hb d_M_count_15 (by decide) ?_
    refine kci (va_runV (As := [.int (0 : Int32), .int (1 : Int32)]) (rest := []) ⟨hx, hb, hml, hown, hT⟩ (c_M_goes l D cA ad hap σ (0 : Int32) (1 : Int32)) (kCV 2 hT ml_M_60 mi_M_goes ⟨Nat.le_of_ble_eq_true rfl, Nat.le_of_ble_eq_true rfl⟩) (mpreV hK hP) rfl rfl hl.1 rfl (lv_room (Nat.le_of_ble_eq_true rfl)) d_M_count_16 ⟨Nat.le_of_ble_eq_true rfl, Nat.le_of_ble_eq_true rfl⟩) hS (fun H locs hP hS => ?_)
    refine lv_if_ne (tgt := 24) hx hb d_M_count_19 (by decide) (fun h9 => absurd (kgo0 ..) h9) (fun _ => ?_)
    refine lv_iconst (v := (0 : Int32)) hx hb d_M_count_22 (by decide) ?_
    have e9 : ((0 : Int32), (f_M_goes σ (0 : Int32) (1 : Int32)).2) = f_M_count σ wh := by rw [f_M_count, if_pos q1]
    exact W.iret (v := (0 : Int32)) hx hb hr (fun t ht hW => ⟨by rw [← e9], by rw [ht, ← e9]; exact hP, hS.F ht⟩) hS.2.2 d_M_count_23
  · refine lv_iload_n hx hb d_M_count_5 rfl (lv_at hl 1 rfl) ?_
    refine lv_iconst (v := (5 : Int32)) hx hb d_M_count_6 (by decide) ?_
    refine lv_icmp_gt (tgt := 14) hx hb d_M_count_7 (by decide) (fun q2 => ?_) (fun q2 => ?_)
    · refine lv_iconst (v := (0 : Int32)) hx hb d_M_count_14 (by decide) ?_
      refine lv_iconst (v := (1 : Int32)) hx hb d_M_count_15 (by decide) ?_
      refine kci (va_runV (As := [.int (0 : Int32), .int (1 : Int32)]) (rest := []) ⟨hx, hb, hml, hown, hT⟩ (c_M_goes l D cA ad hap σ (0 : Int32) (1 : Int32)) (kCV 2 hT ml_M_60 mi_M_goes ⟨Nat.le_of_ble_eq_true rfl, Nat.le_of_ble_eq_true rfl⟩) (mpreV hK hP) rfl rfl hl.1 rfl (lv_room (Nat.le_of_ble_eq_true rfl)) d_M_count_16 ⟨Nat.le_of_ble_eq_true rfl, Nat.le_of_ble_eq_true rfl⟩) hS (fun H locs hP hS => ?_)
      refine lv_if_ne (tgt := 24) hx hb d_M_count_19 (by decide) (fun h9 => absurd (kgo0 ..) h9) (fun _ => ?_)
      refine lv_iconst (v := (0 : Int32)) hx hb d_M_count_22 (by decide) ?_
      have e9 : ((0 : Int32), (f_M_goes σ (0 : Int32) (1 : Int32)).2) = f_M_count σ wh := by rw [f_M_count, if_neg q1, if_pos q2]
      exact W.iret (v := (0 : Int32)) hx hb hr (fun t ht hW => ⟨by rw [← e9], by rw [ht, ← e9]; exact hP, hS.F ht⟩) hS.2.2 d_M_count_23
    · refine lv_iconst (v := (1 : Int32)) hx hb d_M_count_10 (by decide) ?_
      refine lv_goto (tgt := 15) hx hb d_M_count_11 (by decide) ?_
      refine lv_iconst (v := (1 : Int32)) hx hb d_M_count_15 (by decide) ?_
      refine kci (va_runV (As := [.int (1 : Int32), .int (1 : Int32)]) (rest := []) ⟨hx, hb, hml, hown, hT⟩ (c_M_goes l D cA ad hap σ (1 : Int32) (1 : Int32)) (kCV 2 hT ml_M_60 mi_M_goes ⟨Nat.le_of_ble_eq_true rfl, Nat.le_of_ble_eq_true rfl⟩) (mpreV hK hP) rfl rfl hl.1 rfl (lv_room (Nat.le_of_ble_eq_true rfl)) d_M_count_16 ⟨Nat.le_of_ble_eq_true rfl, Nat.le_of_ble_eq_true rfl⟩) hS (fun H locs hP hS => ?_)
      refine lv_if_ne (tgt := 24) hx hb d_M_count_19 (by decide) (fun _ => ?_) (fun h9 => absurd h9 (kgo1 _))
      refine lv_iconst (v := (0 : Int32)) hx hb d_M_count_24 (by decide) ?_
      refine lv_istore_n (lv' := [(2, .int (0 : Int32)), (0, .ref (ad 0)), (1, .int wh)]) hx hb d_M_count_25 rfl hl (by decide) rfl (fun ls hl => ?_)
      refine lv_iconst (v := (0 : Int32)) hx hb d_M_count_26 (by decide) ?_
      refine lv_istore_n (lv' := [(3, .int (0 : Int32)), (2, .int (0 : Int32)), (0, .ref (ad 0)), (1, .int wh)]) hx hb d_M_count_27 rfl hl (by decide) rfl (fun ls hl => ?_)
      exact loop28 36 0 (0 : Int32) (f_M_goes σ (1 : Int32) (1 : Int32)).2 H locs ls rfl (lv_sub hl [0, 1, 2, 3] rfl) hP hS (by rw [f_M_count, if_neg q1, if_neg q2]; rfl)
