def f_B_write (σ : Nat → Nat → Int32) (r : Int32) (v : Int32) : (Nat → Nat → Int32) := (if r < (28 : Int32) then (f_B_store σ r v) else (f_B_strobe σ r))

set_option maxRecDepth 100000 in
set_option maxHeartbeats 4000000 in
theorem c_B_write (l : Launch) (D : va_G) (cA ad t : Nat → Nat) (hap : kap 7 ad) (σ : Nat → Nat → Int32) (r : Int32) (v : Int32) (h1 : ¬ r < 0) (h2 : r < (36 : Int32)) (h3 : ¬ v < 0) (h4 : v ≤ (255 : Int32)) : Met l y_B_write w_B_write ({ frames := 3, cells := 0, slots := 0, locals := 67 } : Room) (va_Pc [.ref (ad 0), .int r, .int v] (bPre D cA ad t σ)) (kQv D (bw cA ad (f_B_write σ r v)) (kA 7 ad)) 0 0 (kA 7 ad) := by
  refine Met.ofW (cc := b_B_write) (maxL := 3) (ret := none) (by decide) rfl ?_
  intro p e s m args below meth c s₁ B hml hv
  obtain ⟨rfl, hv⟩ := hv
  obtain ⟨hP, hK, hZ⟩ := hv
  have hx := B.exec
  have hb := B.bytes
  have hr := B.returns
  have hlocks := B.notSynchronized
  have hT : ∀ w ∈ TB, w.before ([.ref (ad 0), .int r, .int v] : List Value).toArray s = true := fun w h => atoms_spec (ws := w_B_write) B.pre w (List.mem_cons_of_mem _ h)
  have hown : s.vm.findClass R_B = some m.cls := findClass_of_methodNamed B.named
  have hS : va_S (kA 7 ad) s.heap s.heap [] := va_S.rf
  have hD : ∀ σ, va_D (kA 7 ad) (bw cA ad σ) := fun σ => kD hap rfl
  have hl := lv_entry ([.ref (ad 0), .int r, .int v]) (n := 3) (Nat.le_of_ble_eq_true rfl)
  rw [lg_entry_eq]
  generalize (lg_sl ([.ref (ad 0), .int r, .int v]) ++ List.replicate (3 - (lg_sl ([.ref (ad 0), .int r, .int v])).length) Slot.unset).toArray = ls at hl ⊢
  have hl : lv_has ls 3 [(0, .ref (ad 0)), (1, .int r), (2, .int v)] := hl
  refine lv_iload_n hx hb d_B_write_0 rfl (lv_at hl 1 rfl) ?_
  refine lv_if_lt (tgt := 10) hx hb d_B_write_1 (by decide) (fun h9 => absurd h9 h1) (fun _ => ?_)
  refine lv_iload_n hx hb d_B_write_4 rfl (lv_at hl 1 rfl) ?_
  refine lv_bipush (v := (36 : Int32)) hx hb d_B_write_5 (by decide) ?_
  refine lv_icmp_lt (tgt := 18) hx hb d_B_write_7 (by decide) (fun _ => ?_) (fun h9 => absurd h2 h9)
  refine lv_iload_n hx hb d_B_write_18 rfl (lv_at hl 2 rfl) ?_
  refine lv_if_lt (tgt := 29) hx hb d_B_write_19 (by decide) (fun h9 => absurd h9 h3) (fun _ => ?_)
  refine lv_iload_n hx hb d_B_write_22 rfl (lv_at hl 2 rfl) ?_
  refine lv_sipush (v := (255 : Int32)) hx hb d_B_write_23 (by decide) ?_
  refine lv_icmp_le (tgt := 37) hx hb d_B_write_26 (by decide) (fun _ => ?_) (fun h9 => absurd h4 h9)
  refine lv_iload_n hx hb d_B_write_37 rfl (lv_at hl 1 rfl) ?_
  refine lv_bipush (v := (28 : Int32)) hx hb d_B_write_38 (by decide) ?_
  refine lv_icmp_lt (tgt := 51) hx hb d_B_write_40 (by decide) (fun q1 => ?_) (fun q1 => ?_)
  · refine lv_aload_n hx hb d_B_write_51 rfl (lv_at hl 0 rfl) ?_
    refine lv_iload_n hx hb d_B_write_52 rfl (lv_at hl 1 rfl) ?_
    refine lv_iload_n hx hb d_B_write_53 rfl (lv_at hl 2 rfl) ?_
    refine kcv (va_runV (As := [.int r, .int v]) (rest := []) ⟨hx, hb, hml, hown, hT⟩ (c_B_store l D cA ad t hap σ r v (by first | assumption | exact kin (by decide) | exact kinR h1 h2 | exact kge h1 h2 (by assumption))) (kCV 2 hT ml_B_42 mi_B_store ⟨Nat.le_of_ble_eq_true rfl, Nat.le_of_ble_eq_true rfl⟩) (bpreV hK hP hZ hS) rfl rfl hl.1 rfl (lv_room (Nat.le_of_ble_eq_true rfl)) d_B_write_54 ⟨Nat.le_of_ble_eq_true rfl, Nat.le_of_ble_eq_true rfl⟩) hS (fun H locs hP hS => ?_)
    have e9 : (f_B_store σ r v) = f_B_write σ r v := by rw [f_B_write, if_pos q1]
    exact W.vret hx hb hr (fun t ht hW => ⟨rfl, by rw [ht, ← e9]; exact hP, hS.F ht⟩) hS.2.2 d_B_write_57
  · refine lv_aload_n hx hb d_B_write_43 rfl (lv_at hl 0 rfl) ?_
    refine lv_iload_n hx hb d_B_write_44 rfl (lv_at hl 1 rfl) ?_
    refine kcv (va_runV (As := [.int r]) (rest := []) ⟨hx, hb, hml, hown, hT⟩ (c_B_strobe l D cA ad t hap σ r (by first | assumption | exact kin (by decide) | exact kinR h1 h2 | exact kge h1 h2 (by assumption)) (by first | assumption | exact kin (by decide) | exact kinR h1 h2 | exact kge h1 h2 (by assumption))) (kCV 1 hT ml_B_38 mi_B_strobe ⟨Nat.le_of_ble_eq_true rfl, Nat.le_of_ble_eq_true rfl⟩) (bpreV hK hP hZ hS) rfl rfl hl.1 rfl (lv_room (Nat.le_of_ble_eq_true rfl)) d_B_write_45 ⟨Nat.le_of_ble_eq_true rfl, Nat.le_of_ble_eq_true rfl⟩) hS (fun H locs hP hS => ?_)
    refine lv_goto (tgt := 57) hx hb d_B_write_48 (by decide) ?_
    have e9 : (f_B_strobe σ r) = f_B_write σ r v := by rw [f_B_write, if_neg q1]
    exact W.vret hx hb hr (fun t ht hW => ⟨rfl, by rw [ht, ← e9]; exact hP, hS.F ht⟩) hS.2.2 d_B_write_57

def f_B_clocks (σ : Nat → Nat → Int32) (N : Nat) : (Int32 × (Nat → Nat → Int32)) := (((f_B_run σ N) 5 1), (f_B_run σ N))

set_option maxRecDepth 100000 in
set_option maxHeartbeats 4000000 in
theorem c_B_clocks (l : Launch) (D : va_G) (cA ad t : Nat → Nat) (hap : kap 7 ad) (σ : Nat → Nat → Int32) (N : Nat) (hN : N < 2 ^ 31) (h0 : kClk σ) (h1 : ¬ (nI N) < 0) (h2 : (nI N) ≤ (2000 : Int32)) : Met l y_B_clocks w_B_clocks ({ frames := 6, cells := 0, slots := 0, locals := 137 } : Room) (va_Pc [.ref (ad 0), .int (nI N)] (bPre D cA ad t σ)) (kQi D (bw cA ad (f_B_clocks σ N).2) (kA 7 ad) (f_B_clocks σ N).1) 0 0 (kA 7 ad) := by
  refine Met.ofW (cc := b_B_clocks) (maxL := 2) (ret := (some .int)) (by decide) rfl ?_
  intro p e s m args below meth c s₁ B hml hv
  obtain ⟨rfl, hv⟩ := hv
  obtain ⟨hP, hK, hZ⟩ := hv
  have hx := B.exec
  have hb := B.bytes
  have hr := B.returns
  have hlocks := B.notSynchronized
  have hT : ∀ w ∈ TB, w.before ([.ref (ad 0), .int (nI N)] : List Value).toArray s = true := fun w h => atoms_spec (ws := w_B_clocks) B.pre w (List.mem_cons_of_mem _ h)
  have hown : s.vm.findClass R_B = some m.cls := findClass_of_methodNamed B.named
  have hS : va_S (kA 7 ad) s.heap s.heap [] := va_S.rf
  have hD : ∀ σ, va_D (kA 7 ad) (bw cA ad σ) := fun σ => kD hap rfl
  have hl := lv_entry ([.ref (ad 0), .int (nI N)]) (n := 2) (Nat.le_of_ble_eq_true rfl)
  rw [lg_entry_eq]
  generalize (lg_sl ([.ref (ad 0), .int (nI N)]) ++ List.replicate (2 - (lg_sl ([.ref (ad 0), .int (nI N)])).length) Slot.unset).toArray = ls at hl ⊢
  have hl : lv_has ls 2 [(0, .ref (ad 0)), (1, .int (nI N))] := hl
  refine lv_iload_n hx hb d_B_clocks_0 rfl (lv_at hl 1 rfl) ?_
  refine lv_if_lt (tgt := 11) hx hb d_B_clocks_1 (by decide) (fun h9 => absurd h9 h1) (fun _ => ?_)
  refine lv_iload_n hx hb d_B_clocks_4 rfl (lv_at hl 1 rfl) ?_
  refine lv_sipush (v := (2000 : Int32)) hx hb d_B_clocks_5 (by decide) ?_
  refine lv_icmp_le (tgt := 19) hx hb d_B_clocks_8 (by decide) (fun _ => ?_) (fun h9 => absurd h2 h9)
  refine lv_aload_n hx hb d_B_clocks_19 rfl (lv_at hl 0 rfl) ?_
  refine lv_iload_n hx hb d_B_clocks_20 rfl (lv_at hl 1 rfl) ?_
  refine kcv (va_runV (As := [.int (nI N)]) (rest := []) ⟨hx, hb, hml, hown, hT⟩ (c_B_run l D cA ad t hap σ N (by first | assumption | exact kin (by decide)) (by first | assumption | exact kin (by decide))) (kCV 1 hT ml_B_46 mi_B_run ⟨Nat.le_of_ble_eq_true rfl, Nat.le_of_ble_eq_true rfl⟩) (bpreV hK hP hZ hS) rfl rfl hl.1 rfl (lv_room (Nat.le_of_ble_eq_true rfl)) d_B_clocks_21 ⟨Nat.le_of_ble_eq_true rfl, Nat.le_of_ble_eq_true rfl⟩) hS (fun H locs hP hS => ?_)
  refine lv_aload_n hx hb d_B_clocks_24 rfl (lv_at hl 0 rfl) ?_
  refine va_get (D := D) (ci := 0) (v := .int ((f_B_run σ N) 5 1)) (C := R_B) (T := F_B) (N := 10) hx hb hT in_B hown hK hP 0 rfl rfl 7 (by decide) (hT _ fl_B_49) (fun _ h9 => h9) rfl d_B_clocks_25 ?_
  have e9 : (((f_B_run σ N) 5 1), (f_B_run σ N)) = f_B_clocks σ N := by rw [f_B_clocks]
  exact W.iret (v := ((f_B_run σ N) 5 1)) hx hb hr (fun t ht hW => ⟨by rw [← e9], by rw [ht, ← e9]; exact hP, hS.F ht⟩) hS.2.2 d_B_clocks_28

def f_B_sync (σ : Nat → Nat → Int32) (N : Nat) : (Int32 × (Nat → Nat → Int32)) := ((nI N), (f_B_run σ N))

set_option maxRecDepth 100000 in
set_option maxHeartbeats 4000000 in
theorem c_B_sync (l : Launch) (D : va_G) (cA ad t : Nat → Nat) (hap : kap 7 ad) (σ : Nat → Nat → Int32) (N : Nat) (hN : N < 2 ^ 31) (h0 : kClk σ) (hc : ((228 : Int32) - (σ 5 1)) = (nI N)) : Met l y_B_sync w_B_sync ({ frames := 6, cells := 0, slots := 0, locals := 137 } : Room) (va_Pc [.ref (ad 0)] (bPre D cA ad t σ)) (kQi D (bw cA ad (f_B_sync σ N).2) (kA 7 ad) (f_B_sync σ N).1) 0 0 (kA 7 ad) := by
  refine Met.ofW (cc := b_B_sync) (maxL := 2) (ret := (some .int)) (by decide) rfl ?_
  intro p e s m args below meth c s₁ B hml hv
  obtain ⟨rfl, hv⟩ := hv
  obtain ⟨hP, hK, hZ⟩ := hv
  have hx := B.exec
  have hb := B.bytes
  have hr := B.returns
  have hlocks := B.notSynchronized
  have hT : ∀ w ∈ TB, w.before ([.ref (ad 0)] : List Value).toArray s = true := fun w h => atoms_spec (ws := w_B_sync) B.pre w (List.mem_cons_of_mem _ h)
  have hown : s.vm.findClass R_B = some m.cls := findClass_of_methodNamed B.named
  have hS : va_S (kA 7 ad) s.heap s.heap [] := va_S.rf
  have hD : ∀ σ, va_D (kA 7 ad) (bw cA ad σ) := fun σ => kD hap rfl
  have hl := lv_entry ([.ref (ad 0)]) (n := 2) (Nat.le_of_ble_eq_true rfl)
  rw [lg_entry_eq]
  generalize (lg_sl ([.ref (ad 0)]) ++ List.replicate (2 - (lg_sl ([.ref (ad 0)])).length) Slot.unset).toArray = ls at hl ⊢
  have hl : lv_has ls 2 [(0, .ref (ad 0))] := hl
  refine lv_sipush (v := (228 : Int32)) hx hb d_B_sync_0 (by decide) ?_
  refine lv_aload_n hx hb d_B_sync_3 rfl (lv_at hl 0 rfl) ?_
  refine va_get (D := D) (ci := 0) (v := .int (σ 5 1)) (C := R_B) (T := F_B) (N := 10) hx hb hT in_B hown hK hP 0 rfl rfl 7 (by decide) (hT _ fl_B_49) (fun _ h9 => h9) rfl d_B_sync_4 ?_
  refine lv_isub hx hb d_B_sync_7 ?_
  rw [hc]
  refine lv_istore_n (lv' := [(1, .int (nI N)), (0, .ref (ad 0))]) hx hb d_B_sync_8 rfl hl (by decide) rfl (fun ls hl => ?_)
  refine lv_aload_n hx hb d_B_sync_9 rfl (lv_at hl 1 rfl) ?_
  refine lv_iload_n hx hb d_B_sync_10 rfl (lv_at hl 0 rfl) ?_
  refine kcv (va_runV (As := [.int (nI N)]) (rest := []) ⟨hx, hb, hml, hown, hT⟩ (c_B_run l D cA ad t hap σ N (by first | assumption | exact kin (by decide)) (by first | assumption | exact kin (by decide))) (kCV 1 hT ml_B_46 mi_B_run ⟨Nat.le_of_ble_eq_true rfl, Nat.le_of_ble_eq_true rfl⟩) (bpreV hK hP hZ hS) rfl rfl hl.1 rfl (lv_room (Nat.le_of_ble_eq_true rfl)) d_B_sync_11 ⟨Nat.le_of_ble_eq_true rfl, Nat.le_of_ble_eq_true rfl⟩) hS (fun H locs hP hS => ?_)
  refine lv_iload_n hx hb d_B_sync_14 rfl (lv_at hl 0 rfl) ?_
  have e9 : ((nI N), (f_B_run σ N)) = f_B_sync σ N := by rw [f_B_sync]
  exact W.iret (v := (nI N)) hx hb hr (fun t ht hW => ⟨by rw [← e9], by rw [ht, ← e9]; exact hP, hS.F ht⟩) hS.2.2 d_B_sync_15

def f_B_pixel (σ : Nat → Nat → Int32) (x : Int32) : Int32 := (σ 3 (x).toNatClampNeg)

set_option maxRecDepth 100000 in
set_option maxHeartbeats 4000000 in
theorem c_B_pixel (l : Launch) (D : va_G) (cA ad t : Nat → Nat) (hap : kap 7 ad) (σ : Nat → Nat → Int32) (x : Int32) (h1 : vp_in x 160) (h2 : ¬ (f_B_isPixel x) = 0) : Met l y_B_pixel w_B_pixel ({ frames := 1, cells := 0, slots := 0, locals := 20 } : Room) (va_Pc [.ref (ad 0), .int x] (bPre D cA ad t σ)) (vp_Si (fun v => v = f_B_pixel σ x)) 0 0 (fun _ => False) := by
  refine Met.ofW (cc := b_B_pixel) (maxL := 2) (ret := (some .int)) (by decide) rfl ?_
  intro p e s m args below meth c s₁ B hml hv
  obtain ⟨rfl, hv⟩ := hv
  obtain ⟨hP, hK, hZ⟩ := hv
  have hx := B.exec
  have hb := B.bytes
  have hr := B.returns
  have hlocks := B.notSynchronized
  have hT : ∀ w ∈ TB, w.before ([.ref (ad 0), .int x] : List Value).toArray s = true := fun w h => atoms_spec (ws := w_B_pixel) B.pre w (List.mem_cons_of_mem _ h)
  have hown : s.vm.findClass R_B = some m.cls := findClass_of_methodNamed B.named
  have hS : va_S (kA 7 ad) s.heap s.heap [] := va_S.rf
  have hl := lv_entry ([.ref (ad 0), .int x]) (n := 2) (Nat.le_of_ble_eq_true rfl)
  rw [lg_entry_eq]
  generalize (lg_sl ([.ref (ad 0), .int x]) ++ List.replicate (2 - (lg_sl ([.ref (ad 0), .int x])).length) Slot.unset).toArray = ls at hl ⊢
  have hl : lv_has ls 2 [(0, .ref (ad 0)), (1, .int x)] := hl
  refine lv_iload_n hx hb d_B_pixel_0 rfl (lv_at hl 1 rfl) ?_
  refine vp_callSi (va_Run.run (va_runS (As := [.int x]) (rest := []) ⟨hx, hb, hml, hown, hT⟩ (c_B_isPixel l D cA ad t hap σ x) (kCS 1 hT ml_B_53 ms_B_isPixel ⟨Nat.le_of_ble_eq_true rfl, Nat.le_of_ble_eq_true rfl⟩) (bpreS hK hP hZ hS) rfl rfl hl.1 rfl (lv_room (Nat.le_of_ble_eq_true rfl)) d_B_pixel_1 ⟨Nat.le_of_ble_eq_true rfl, Nat.le_of_ble_eq_true rfl⟩)) (fun r9 e9 => ?_)
  subst e9
  refine lv_if_ne (tgt := 15) hx hb d_B_pixel_4 (by decide) (fun _ => ?_) (fun h9 => absurd h9 h2)
  refine lv_aload_n hx hb d_B_pixel_15 rfl (lv_at hl 0 rfl) ?_
  refine va_get (D := D) (ci := 0) (v := .ref (ad 4)) (C := R_B) (T := F_B) (N := 10) hx hb hT in_B hown hK hP 0 rfl rfl 3 (by decide) (hT _ fl_B_19) (fun _ h9 => h9) rfl d_B_pixel_16 ?_
  refine lv_iload_n hx hb d_B_pixel_19 rfl (lv_at hl 1 rfl) ?_
  refine va_iald hx hb hK hP 4 0 rfl rfl (by first | assumption | exact kin (by decide)) d_B_pixel_20 ?_
  have e9 : (σ 3 (x).toNatClampNeg) = f_B_pixel σ x := by rw [f_B_pixel]
  exact W.iret (v := (σ 3 (x).toNatClampNeg)) hx hb hr (fun t ht hW => ⟨_, rfl, e9, ht⟩) (fun _ h => absurd h List.not_mem_nil) d_B_pixel_21

def f_B_met (σ : Nat → Nat → Int32) (a : Int32) (o : Int32) : Int32 := (if (((σ 4 (a).toNatClampNeg) >>> (o &&& 31)) &&& (1 : Int32)) = 0 then (0 : Int32) else (1 : Int32))

theorem z_B_met (σ : Nat → Nat → Int32) (a : Int32) (o : Int32) : f_B_met σ a o = 0 ∨ f_B_met σ a o = 1 := by
  rw [f_B_met]
  repeat' split
  all_goals first | with_reducible exact Or.inl rfl | with_reducible exact Or.inr rfl

set_option maxRecDepth 100000 in
set_option maxHeartbeats 4000000 in
theorem c_B_met (l : Launch) (D : va_G) (cA ad t : Nat → Nat) (hap : kap 7 ad) (σ : Nat → Nat → Int32) (a : Int32) (o : Int32) (h1 : vp_in a 6) (h2 : ¬ (f_B_isObject a) = 0) (h3 : ¬ (f_B_isObject o) = 0) (h4 : ¬ a = o) : Met l y_B_met w_B_met ({ frames := 1, cells := 0, slots := 0, locals := 20 } : Room) (va_Pc [.ref (ad 0), .int a, .int o] (bPre D cA ad t σ)) (vp_Si (fun v => v = f_B_met σ a o)) 0 0 (fun _ => False) := by
  refine Met.ofW (cc := b_B_met) (maxL := 3) (ret := (some .boolean)) (by decide) rfl ?_
  intro p e s m args below meth c s₁ B hml hv
  obtain ⟨rfl, hv⟩ := hv
  obtain ⟨hP, hK, hZ⟩ := hv
  have hx := B.exec
  have hb := B.bytes
  have hr := B.returns
  have hlocks := B.notSynchronized
  have hT : ∀ w ∈ TB, w.before ([.ref (ad 0), .int a, .int o] : List Value).toArray s = true := fun w h => atoms_spec (ws := w_B_met) B.pre w (List.mem_cons_of_mem _ h)
  have hown : s.vm.findClass R_B = some m.cls := findClass_of_methodNamed B.named
  have hS : va_S (kA 7 ad) s.heap s.heap [] := va_S.rf
  have hl := lv_entry ([.ref (ad 0), .int a, .int o]) (n := 3) (Nat.le_of_ble_eq_true rfl)
  rw [lg_entry_eq]
  generalize (lg_sl ([.ref (ad 0), .int a, .int o]) ++ List.replicate (3 - (lg_sl ([.ref (ad 0), .int a, .int o])).length) Slot.unset).toArray = ls at hl ⊢
  have hl : lv_has ls 3 [(0, .ref (ad 0)), (1, .int a), (2, .int o)] := hl
  refine lv_iload_n hx hb d_B_met_0 rfl (lv_at hl 1 rfl) ?_
  refine vp_callSi (va_Run.run (va_runS (As := [.int a]) (rest := []) ⟨hx, hb, hml, hown, hT⟩ (c_B_isObject l D cA ad t hap σ a) (kCS 1 hT ml_B_57 ms_B_isObject ⟨Nat.le_of_ble_eq_true rfl, Nat.le_of_ble_eq_true rfl⟩) (bpreS hK hP hZ hS) rfl rfl hl.1 rfl (lv_room (Nat.le_of_ble_eq_true rfl)) d_B_met_1 ⟨Nat.le_of_ble_eq_true rfl, Nat.le_of_ble_eq_true rfl⟩)) (fun r9 e9 => ?_)
  subst e9
  refine lv_if_eq (tgt := 19) hx hb d_B_met_4 (by decide) (fun h9 => absurd h9 h2) (fun _ => ?_)
  refine lv_iload_n hx hb d_B_met_7 rfl (lv_at hl 2 rfl) ?_
  refine vp_callSi (va_Run.run (va_runS (As := [.int o]) (rest := []) ⟨hx, hb, hml, hown, hT⟩ (c_B_isObject l D cA ad t hap σ o) (kCS 1 hT ml_B_57 ms_B_isObject ⟨Nat.le_of_ble_eq_true rfl, Nat.le_of_ble_eq_true rfl⟩) (bpreS hK hP hZ hS) rfl rfl hl.1 rfl (lv_room (Nat.le_of_ble_eq_true rfl)) d_B_met_8 ⟨Nat.le_of_ble_eq_true rfl, Nat.le_of_ble_eq_true rfl⟩)) (fun r9 e9 => ?_)
  subst e9
  refine lv_if_eq (tgt := 19) hx hb d_B_met_11 (by decide) (fun h9 => absurd h9 h3) (fun _ => ?_)
  refine lv_iload_n hx hb d_B_met_14 rfl (lv_at hl 1 rfl) ?_
  refine lv_iload_n hx hb d_B_met_15 rfl (lv_at hl 2 rfl) ?_
  refine lv_icmp_ne (tgt := 27) hx hb d_B_met_16 (by decide) (fun _ => ?_) (fun h9 => absurd h9 h4)
  refine lv_aload_n hx hb d_B_met_27 rfl (lv_at hl 0 rfl) ?_
  refine va_get (D := D) (ci := 0) (v := .ref (ad 5)) (C := R_B) (T := F_B) (N := 10) hx hb hT in_B hown hK hP 0 rfl rfl 4 (by decide) (hT _ fl_B_22) (fun _ h9 => h9) rfl d_B_met_28 ?_
  refine lv_iload_n hx hb d_B_met_31 rfl (lv_at hl 1 rfl) ?_
  refine va_iald hx hb hK hP 5 0 rfl rfl (by first | assumption | exact kin (by decide)) d_B_met_32 ?_
  refine lv_iload_n hx hb d_B_met_33 rfl (lv_at hl 2 rfl) ?_
  refine lv_ishr hx hb d_B_met_34 ?_
  refine lv_iconst (v := (1 : Int32)) hx hb d_B_met_35 (by decide) ?_
  refine lv_iand hx hb d_B_met_36 ?_
  refine lv_if_eq (tgt := 44) hx hb d_B_met_37 (by decide) (fun q1 => ?_) (fun q1 => ?_)
  · refine lv_iconst (v := (0 : Int32)) hx hb d_B_met_44 (by decide) ?_
    have e9 : (0 : Int32) = f_B_met σ a o := by rw [f_B_met, if_pos q1]
    exact W.zret (v := (0 : Int32)) hx hb hr (by decide) (fun t ht hW => ⟨_, rfl, e9, ht⟩) (fun _ h => absurd h List.not_mem_nil) d_B_met_45
  · refine lv_iconst (v := (1 : Int32)) hx hb d_B_met_40 (by decide) ?_
    refine lv_goto (tgt := 45) hx hb d_B_met_41 (by decide) ?_
    have e9 : (1 : Int32) = f_B_met σ a o := by rw [f_B_met, if_neg q1]
    exact W.zret (v := (1 : Int32)) hx hb hr (by decide) (fun t ht hW => ⟨_, rfl, e9, ht⟩) (fun _ h => absurd h List.not_mem_nil) d_B_met_45

def f_B_place (σ : Nat → Nat → Int32) (o : Int32) : Int32 := (σ 2 (o).toNatClampNeg)

set_option maxRecDepth 100000 in
set_option maxHeartbeats 4000000 in
theorem c_B_place (l : Launch) (D : va_G) (cA ad t : Nat → Nat) (hap : kap 7 ad) (σ : Nat → Nat → Int32) (o : Int32) (h0 : vp_in o 5) (h1 : ¬ o < 0) (h2 : o < (5 : Int32)) : Met l y_B_place w_B_place ({ frames := 0, cells := 0, slots := 0, locals := 0 } : Room) (va_Pc [.ref (ad 0), .int o] (bPre D cA ad t σ)) (vp_Si (fun v => v = f_B_place σ o)) 0 0 (fun _ => False) := by
  refine Met.ofW (cc := b_B_place) (maxL := 2) (ret := (some .int)) (by decide) rfl ?_
  intro p e s m args below meth c s₁ B hml hv
  obtain ⟨rfl, hv⟩ := hv
  obtain ⟨hP, hK, hZ⟩ := hv
  have hx := B.exec
  have hb := B.bytes
  have hr := B.returns
  have hlocks := B.notSynchronized
  have hT : ∀ w ∈ TB, w.before ([.ref (ad 0), .int o] : List Value).toArray s = true := fun w h => atoms_spec (ws := w_B_place) B.pre w (List.mem_cons_of_mem _ h)
  have hown : s.vm.findClass R_B = some m.cls := findClass_of_methodNamed B.named
  have hS : va_S (kA 7 ad) s.heap s.heap [] := va_S.rf
  have hl := lv_entry ([.ref (ad 0), .int o]) (n := 2) (Nat.le_of_ble_eq_true rfl)
  rw [lg_entry_eq]
  generalize (lg_sl ([.ref (ad 0), .int o]) ++ List.replicate (2 - (lg_sl ([.ref (ad 0), .int o])).length) Slot.unset).toArray = ls at hl ⊢
  have hl : lv_has ls 2 [(0, .ref (ad 0)), (1, .int o)] := hl
  refine lv_iload_n hx hb d_B_place_0 rfl (lv_at hl 1 rfl) ?_
  refine lv_if_lt (tgt := 9) hx hb d_B_place_1 (by decide) (fun h9 => absurd h9 h1) (fun _ => ?_)
  refine lv_iload_n hx hb d_B_place_4 rfl (lv_at hl 1 rfl) ?_
  refine lv_iconst (v := (5 : Int32)) hx hb d_B_place_5 (by decide) ?_
  refine lv_icmp_lt (tgt := 17) hx hb d_B_place_6 (by decide) (fun _ => ?_) (fun h9 => absurd h2 h9)
  refine lv_aload_n hx hb d_B_place_17 rfl (lv_at hl 0 rfl) ?_
  refine va_get (D := D) (ci := 0) (v := .ref (ad 3)) (C := R_B) (T := F_B) (N := 10) hx hb hT in_B hown hK hP 0 rfl rfl 2 (by decide) (hT _ fl_B_16) (fun _ h9 => h9) rfl d_B_place_18 ?_
  refine lv_iload_n hx hb d_B_place_21 rfl (lv_at hl 1 rfl) ?_
  refine va_iald hx hb hK hP 3 0 rfl rfl (by first | assumption | exact kin (by decide)) d_B_place_22 ?_
  have e9 : (σ 2 (o).toNatClampNeg) = f_B_place σ o := by rw [f_B_place]
  exact W.iret (v := (σ 2 (o).toNatClampNeg)) hx hb hr (fun t ht hW => ⟨_, rfl, e9, ht⟩) (fun _ h => absurd h List.not_mem_nil) d_B_place_23

def f_B_there (σ : Nat → Nat → Int32) (o : Int32) (x : Int32) : Int32 := (f_B_isAt σ o x)

theorem z_B_there (σ : Nat → Nat → Int32) (o : Int32) (x : Int32) : f_B_there σ o x = 0 ∨ f_B_there σ o x = 1 := by
  rw [f_B_there]
  repeat' split
  all_goals first | with_reducible exact Or.inl rfl | with_reducible exact Or.inr rfl | with_reducible exact z_B_isAt ..

set_option maxRecDepth 100000 in
set_option maxHeartbeats 4000000 in
theorem c_B_there (l : Launch) (D : va_G) (cA ad t : Nat → Nat) (hap : kap 7 ad) (σ : Nat → Nat → Int32) (o : Int32) (x : Int32) (h1 : vp_in o 6) (h2 : ¬ (f_B_isObject o) = 0) (h3 : ¬ (f_B_isPixel x) = 0) : Met l y_B_there w_B_there ({ frames := 4, cells := 0, slots := 0, locals := 92 } : Room) (va_Pc [.ref (ad 0), .int o, .int x] (bPre D cA ad t σ)) (vp_Si (fun v => v = f_B_there σ o x)) 0 0 (fun _ => False) := by
  refine Met.ofW (cc := b_B_there) (maxL := 3) (ret := (some .boolean)) (by decide) rfl ?_
  intro p e s m args below meth c s₁ B hml hv
  obtain ⟨rfl, hv⟩ := hv
  obtain ⟨hP, hK, hZ⟩ := hv
  have hx := B.exec
  have hb := B.bytes
  have hr := B.returns
  have hlocks := B.notSynchronized
  have hT : ∀ w ∈ TB, w.before ([.ref (ad 0), .int o, .int x] : List Value).toArray s = true := fun w h => atoms_spec (ws := w_B_there) B.pre w (List.mem_cons_of_mem _ h)
  have hown : s.vm.findClass R_B = some m.cls := findClass_of_methodNamed B.named
  have hS : va_S (kA 7 ad) s.heap s.heap [] := va_S.rf
  have hl := lv_entry ([.ref (ad 0), .int o, .int x]) (n := 3) (Nat.le_of_ble_eq_true rfl)
  rw [lg_entry_eq]
  generalize (lg_sl ([.ref (ad 0), .int o, .int x]) ++ List.replicate (3 - (lg_sl ([.ref (ad 0), .int o, .int x])).length) Slot.unset).toArray = ls at hl ⊢
  have hl : lv_has ls 3 [(0, .ref (ad 0)), (1, .int o), (2, .int x)] := hl
  refine lv_iload_n hx hb d_B_there_0 rfl (lv_at hl 1 rfl) ?_
  refine vp_callSi (va_Run.run (va_runS (As := [.int o]) (rest := []) ⟨hx, hb, hml, hown, hT⟩ (c_B_isObject l D cA ad t hap σ o) (kCS 1 hT ml_B_57 ms_B_isObject ⟨Nat.le_of_ble_eq_true rfl, Nat.le_of_ble_eq_true rfl⟩) (bpreS hK hP hZ hS) rfl rfl hl.1 rfl (lv_room (Nat.le_of_ble_eq_true rfl)) d_B_there_1 ⟨Nat.le_of_ble_eq_true rfl, Nat.le_of_ble_eq_true rfl⟩)) (fun r9 e9 => ?_)
  subst e9
  refine lv_if_eq (tgt := 14) hx hb d_B_there_4 (by decide) (fun h9 => absurd h9 h2) (fun _ => ?_)
  refine lv_iload_n hx hb d_B_there_7 rfl (lv_at hl 2 rfl) ?_
  refine vp_callSi (va_Run.run (va_runS (As := [.int x]) (rest := []) ⟨hx, hb, hml, hown, hT⟩ (c_B_isPixel l D cA ad t hap σ x) (kCS 1 hT ml_B_53 ms_B_isPixel ⟨Nat.le_of_ble_eq_true rfl, Nat.le_of_ble_eq_true rfl⟩) (bpreS hK hP hZ hS) rfl rfl hl.1 rfl (lv_room (Nat.le_of_ble_eq_true rfl)) d_B_there_8 ⟨Nat.le_of_ble_eq_true rfl, Nat.le_of_ble_eq_true rfl⟩)) (fun r9 e9 => ?_)
  subst e9
  refine lv_if_ne (tgt := 22) hx hb d_B_there_11 (by decide) (fun _ => ?_) (fun h9 => absurd h9 h3)
  refine lv_aload_n hx hb d_B_there_22 rfl (lv_at hl 0 rfl) ?_
  refine lv_iload_n hx hb d_B_there_23 rfl (lv_at hl 1 rfl) ?_
  refine lv_iload_n hx hb d_B_there_24 rfl (lv_at hl 2 rfl) ?_
  refine vp_callSi (va_Run.run (va_runV (As := [.int o, .int x]) (rest := []) ⟨hx, hb, hml, hown, hT⟩ (c_B_isAt l D cA ad t hap σ o x (by first | assumption | exact kin (by decide))) (kCV 2 hT ml_B_60 mi_B_isAt ⟨Nat.le_of_ble_eq_true rfl, Nat.le_of_ble_eq_true rfl⟩) (bpreV hK hP hZ hS) rfl rfl hl.1 rfl (lv_room (Nat.le_of_ble_eq_true rfl)) d_B_there_25 ⟨Nat.le_of_ble_eq_true rfl, Nat.le_of_ble_eq_true rfl⟩)) (fun r9 e9 => ?_)
  subst e9
  have e9 : (f_B_isAt σ o x) = f_B_there σ o x := by rw [f_B_there]
  exact W.zret (v := (f_B_isAt σ o x)) hx hb hr (kz_nar (z_B_isAt ..)) (fun t ht hW => ⟨_, rfl, e9, ht⟩) (fun _ h => absurd h List.not_mem_nil) d_B_there_28

def f_B_set (σ : Nat → Nat → Int32) (q : Int32) (v : Int32) : (Int32 × (Nat → Nat → Int32)) := ((σ 5 4), (f_T_start σ (tab2 (q).toNatClampNeg) v))

set_option maxRecDepth 100000 in
set_option maxHeartbeats 4000000 in
theorem c_B_set (l : Launch) (D : va_G) (cA ad t : Nat → Nat) (hap : kap 7 ad) (σ : Nat → Nat → Int32) (q : Int32) (v : Int32) (h0 : vp_in q 4) (h1 : ¬ q < 0) (h2 : q < (4 : Int32)) (h3 : ¬ v < 0) (h4 : v ≤ (255 : Int32)) : Met l y_B_set w_B_set ({ frames := 1, cells := 0, slots := 0, locals := 22 } : Room) (va_Pc [.ref (ad 0), .int q, .int v] (bPre D cA ad t σ)) (kQi D (bw cA ad (f_B_set σ q v).2) (kA 7 ad) (f_B_set σ q v).1) 0 0 (kA 7 ad) := by
  refine Met.ofW (cc := b_B_set) (maxL := 4) (ret := (some .int)) (by decide) rfl ?_
  intro p e s m args below meth c s₁ B hml hv
  obtain ⟨rfl, hv⟩ := hv
  obtain ⟨hP, hK, hZ⟩ := hv
  have hx := B.exec
  have hb := B.bytes
  have hr := B.returns
  have hlocks := B.notSynchronized
  have hT : ∀ w ∈ TB, w.before ([.ref (ad 0), .int q, .int v] : List Value).toArray s = true := fun w h => atoms_spec (ws := w_B_set) B.pre w (List.mem_cons_of_mem _ h)
  have hown : s.vm.findClass R_B = some m.cls := findClass_of_methodNamed B.named
  have hS : va_S (kA 7 ad) s.heap s.heap [] := va_S.rf
  have hD : ∀ σ, va_D (kA 7 ad) (bw cA ad σ) := fun σ => kD hap rfl
  have hl := lv_entry ([.ref (ad 0), .int q, .int v]) (n := 4) (Nat.le_of_ble_eq_true rfl)
  rw [lg_entry_eq]
  generalize (lg_sl ([.ref (ad 0), .int q, .int v]) ++ List.replicate (4 - (lg_sl ([.ref (ad 0), .int q, .int v])).length) Slot.unset).toArray = ls at hl ⊢
  have hl : lv_has ls 4 [(0, .ref (ad 0)), (1, .int q), (2, .int v)] := hl
  refine lv_iload_n hx hb d_B_set_0 rfl (lv_at hl 1 rfl) ?_
  refine lv_if_lt (tgt := 12) hx hb d_B_set_1 (by decide) (fun h9 => absurd h9 h1) (fun _ => ?_)
  refine lv_iload_n hx hb d_B_set_4 rfl (lv_at hl 1 rfl) ?_
  refine va_gets hx hb (kZ_z2 hZ) hS hown (hT _ fl_B_64) (fun _ h9 => h9) d_B_set_5 ?_
  refine va_tlen (v := (4 : Int32)) hx hb (kZ_t2 hZ) hS (by decide) d_B_set_8 ?_
  refine lv_icmp_lt (tgt := 20) hx hb d_B_set_9 (by decide) (fun _ => ?_) (fun h9 => absurd h2 h9)
  refine lv_iload_n hx hb d_B_set_20 rfl (lv_at hl 2 rfl) ?_
  refine lv_if_lt (tgt := 31) hx hb d_B_set_21 (by decide) (fun h9 => absurd h9 h3) (fun _ => ?_)
  refine lv_iload_n hx hb d_B_set_24 rfl (lv_at hl 2 rfl) ?_
  refine lv_sipush (v := (255 : Int32)) hx hb d_B_set_25 (by decide) ?_
  refine lv_icmp_le (tgt := 39) hx hb d_B_set_28 (by decide) (fun _ => ?_) (fun h9 => absurd h4 h9)
  refine lv_aload_n hx hb d_B_set_39 rfl (lv_at hl 0 rfl) ?_
  refine va_get (D := D) (ci := 0) (v := .ref (ad 6)) (C := R_B) (T := F_B) (N := 10) hx hb hT in_B hown hK hP 0 rfl rfl 5 (by decide) (hT _ fl_B_28) (fun _ h9 => h9) rfl d_B_set_40 ?_
  refine va_getN (D := D) (ci := 1) (v := .int (σ 5 4)) (C := R_T) (T := F_T) (N := 4) hx hb hT in_T hown hK hP 6 rfl rfl 0 (by decide) (hT _ fl_B_67) (fun _ h9 => h9) rfl d_B_set_43 ?_
  refine lv_istore_n (lv' := [(3, .int (σ 5 4)), (0, .ref (ad 0)), (1, .int q), (2, .int v)]) hx hb d_B_set_46 rfl hl (by decide) rfl (fun ls hl => ?_)
  refine lv_aload_n hx hb d_B_set_47 rfl (lv_at hl 1 rfl) ?_
  refine va_get (D := D) (ci := 0) (v := .ref (ad 6)) (C := R_B) (T := F_B) (N := 10) hx hb hT in_B hown hK hP 0 rfl rfl 5 (by decide) (hT _ fl_B_28) (fun _ h9 => h9) rfl d_B_set_48 ?_
  refine va_gets hx hb (kZ_z2 hZ) hS hown (hT _ fl_B_64) (fun _ h9 => h9) d_B_set_51 ?_
  refine lv_iload_n hx hb d_B_set_54 rfl (lv_at hl 2 rfl) ?_
  refine va_ti (v := .int (tab2 (q).toNatClampNeg)) hx hb (kZ_t2 hZ) hS (by first | assumption | exact kin (by decide)) rfl d_B_set_55 ?_
  refine lv_iload_n hx hb d_B_set_56 rfl (lv_at hl 3 rfl) ?_
  refine kcv (va_runVN (As := [.int (tab2 (q).toNatClampNeg), .int v]) (rest := []) ⟨hx, hb, hml, hown, hT⟩ (c_T_start l D cA ad t hap σ (tab2 (q).toNatClampNeg) v) (kCN 2 hT ml_B_70 mi_T_start ⟨Nat.le_of_ble_eq_true rfl, Nat.le_of_ble_eq_true rfl⟩) (bpreT hK hP hZ hS) rfl rfl hl.1 rfl (lv_room (Nat.le_of_ble_eq_true rfl)) d_B_set_57 ⟨Nat.le_of_ble_eq_true rfl, Nat.le_of_ble_eq_true rfl⟩) hS (fun H locs hP hS => ?_)
  refine lv_iload_n hx hb d_B_set_60 rfl (lv_at hl 0 rfl) ?_
  have e9 : ((σ 5 4), (f_T_start σ (tab2 (q).toNatClampNeg) v)) = f_B_set σ q v := by rw [f_B_set]
  exact W.iret (v := (σ 5 4)) hx hb hr (fun t ht hW => ⟨by rw [← e9], by rw [ht, ← e9]; exact hP, hS.F ht⟩) hS.2.2 d_B_set_61

def f_B_count (σ : Nat → Nat → Int32) (wh : Int32) : Int32 := (if wh = (0 : Int32) then (σ 5 1) else (if wh = (1 : Int32) then (σ 5 2) else (if wh = (2 : Int32) then (σ 5 4) else (if wh = (3 : Int32) then (if (σ 5 7) = 0 then (0 : Int32) else (1 : Int32)) else (if wh = (4 : Int32) then (f_B_countMeetings σ) else (if wh = (5 : Int32) then (σ 5 3) else (0 : Int32)))))))

set_option maxRecDepth 100000 in
set_option maxHeartbeats 4000000 in
theorem c_B_count (l : Launch) (D : va_G) (cA ad t : Nat → Nat) (hap : kap 7 ad) (σ : Nat → Nat → Int32) (wh : Int32) (h1 : vp_in wh 6) : Met l y_B_count w_B_count ({ frames := 2, cells := 0, slots := 0, locals := 45 } : Room) (va_Pc [.ref (ad 0), .int wh] (bPre D cA ad t σ)) (vp_Si (fun v => v = f_B_count σ wh)) 0 0 (fun _ => False) := by
  refine Met.ofW (cc := b_B_count) (maxL := 2) (ret := (some .int)) (by decide) rfl ?_
  intro p e s m args below meth c s₁ B hml hv
  obtain ⟨rfl, hv⟩ := hv
  obtain ⟨hP, hK, hZ⟩ := hv
  have hx := B.exec
  have hb := B.bytes
  have hr := B.returns
  have hlocks := B.notSynchronized
  have hT : ∀ w ∈ TB, w.before ([.ref (ad 0), .int wh] : List Value).toArray s = true := fun w h => atoms_spec (ws := w_B_count) B.pre w (List.mem_cons_of_mem _ h)
  have hown : s.vm.findClass R_B = some m.cls := findClass_of_methodNamed B.named
  have hS : va_S (kA 7 ad) s.heap s.heap [] := va_S.rf
  have hl := lv_entry ([.ref (ad 0), .int wh]) (n := 2) (Nat.le_of_ble_eq_true rfl)
  rw [lg_entry_eq]
  generalize (lg_sl ([.ref (ad 0), .int wh]) ++ List.replicate (2 - (lg_sl ([.ref (ad 0), .int wh])).length) Slot.unset).toArray = ls at hl ⊢
  have hl : lv_has ls 2 [(0, .ref (ad 0)), (1, .int wh)] := hl
  refine lv_iload_n hx hb d_B_count_0 rfl (lv_at hl 1 rfl) ?_
  by_cases q1 : wh = (0 : Int32)
  · refine lv_tableIn (tgt := 40) (off := 39) hx hb d_B_count_1 (by rw [q1]; decide) (by rw [q1]; decide) (by rw [q1]; rfl) (by decide) ?_
    refine lv_aload_n hx hb d_B_count_40 rfl (lv_at hl 0 rfl) ?_
    refine va_get (D := D) (ci := 0) (v := .int (σ 5 1)) (C := R_B) (T := F_B) (N := 10) hx hb hT in_B hown hK hP 0 rfl rfl 7 (by decide) (hT _ fl_B_49) (fun _ h9 => h9) rfl d_B_count_41 ?_
    have e9 : (σ 5 1) = f_B_count σ wh := by rw [f_B_count, if_pos q1]
    exact W.iret (v := (σ 5 1)) hx hb hr (fun t ht hW => ⟨_, rfl, e9, ht⟩) (fun _ h => absurd h List.not_mem_nil) d_B_count_44
  by_cases q2 : wh = (1 : Int32)
  · refine lv_tableIn (tgt := 45) (off := 44) hx hb d_B_count_1 (by rw [q2]; decide) (by rw [q2]; decide) (by rw [q2]; rfl) (by decide) ?_
    refine lv_aload_n hx hb d_B_count_45 rfl (lv_at hl 0 rfl) ?_
    refine va_get (D := D) (ci := 0) (v := .int (σ 5 2)) (C := R_B) (T := F_B) (N := 10) hx hb hT in_B hown hK hP 0 rfl rfl 8 (by decide) (hT _ fl_B_73) (fun _ h9 => h9) rfl d_B_count_46 ?_
    have e9 : (σ 5 2) = f_B_count σ wh := by rw [f_B_count, if_neg q1, if_pos q2]
    exact W.iret (v := (σ 5 2)) hx hb hr (fun t ht hW => ⟨_, rfl, e9, ht⟩) (fun _ h => absurd h List.not_mem_nil) d_B_count_49
  by_cases q3 : wh = (2 : Int32)
  · refine lv_tableIn (tgt := 50) (off := 49) hx hb d_B_count_1 (by rw [q3]; decide) (by rw [q3]; decide) (by rw [q3]; rfl) (by decide) ?_
    refine lv_aload_n hx hb d_B_count_50 rfl (lv_at hl 0 rfl) ?_
    refine va_get (D := D) (ci := 0) (v := .ref (ad 6)) (C := R_B) (T := F_B) (N := 10) hx hb hT in_B hown hK hP 0 rfl rfl 5 (by decide) (hT _ fl_B_28) (fun _ h9 => h9) rfl d_B_count_51 ?_
    refine va_getN (D := D) (ci := 1) (v := .int (σ 5 4)) (C := R_T) (T := F_T) (N := 4) hx hb hT in_T hown hK hP 6 rfl rfl 0 (by decide) (hT _ fl_B_67) (fun _ h9 => h9) rfl d_B_count_54 ?_
    have e9 : (σ 5 4) = f_B_count σ wh := by rw [f_B_count, if_neg q1, if_neg q2, if_pos q3]
    exact W.iret (v := (σ 5 4)) hx hb hr (fun t ht hW => ⟨_, rfl, e9, ht⟩) (fun _ h => absurd h List.not_mem_nil) d_B_count_57
  by_cases q4 : wh = (3 : Int32)
  · refine lv_tableIn (tgt := 58) (off := 57) hx hb d_B_count_1 (by rw [q4]; decide) (by rw [q4]; decide) (by rw [q4]; rfl) (by decide) ?_
    refine lv_aload_n hx hb d_B_count_58 rfl (lv_at hl 0 rfl) ?_
    refine va_get (D := D) (ci := 0) (v := .ref (ad 6)) (C := R_B) (T := F_B) (N := 10) hx hb hT in_B hown hK hP 0 rfl rfl 5 (by decide) (hT _ fl_B_28) (fun _ h9 => h9) rfl d_B_count_59 ?_
    refine va_getN (D := D) (ci := 1) (v := .int (σ 5 7)) (C := R_T) (T := F_T) (N := 4) hx hb hT in_T hown hK hP 6 rfl rfl 3 (by decide) (hT _ fl_B_76) (fun _ h9 => h9) rfl d_B_count_62 ?_
    refine lv_if_eq (tgt := 72) hx hb d_B_count_65 (by decide) (fun q5 => ?_) (fun q5 => ?_)
    · refine lv_iconst (v := (0 : Int32)) hx hb d_B_count_72 (by decide) ?_
      have e9 : (0 : Int32) = f_B_count σ wh := by rw [f_B_count, if_neg q1, if_neg q2, if_neg q3, if_pos q4, if_pos q5]
      exact W.iret (v := (0 : Int32)) hx hb hr (fun t ht hW => ⟨_, rfl, e9, ht⟩) (fun _ h => absurd h List.not_mem_nil) d_B_count_73
    · refine lv_iconst (v := (1 : Int32)) hx hb d_B_count_68 (by decide) ?_
      refine lv_goto (tgt := 73) hx hb d_B_count_69 (by decide) ?_
      have e9 : (1 : Int32) = f_B_count σ wh := by rw [f_B_count, if_neg q1, if_neg q2, if_neg q3, if_pos q4, if_neg q5]
      exact W.iret (v := (1 : Int32)) hx hb hr (fun t ht hW => ⟨_, rfl, e9, ht⟩) (fun _ h => absurd h List.not_mem_nil) d_B_count_73
  by_cases q6 : wh = (4 : Int32)
  · refine lv_tableIn (tgt := 74) (off := 73) hx hb d_B_count_1 (by rw [q6]; decide) (by rw [q6]; decide) (by rw [q6]; rfl) (by decide) ?_
    refine lv_aload_n hx hb d_B_count_74 rfl (lv_at hl 0 rfl) ?_
    refine vp_callSi (va_Run.run (va_runV (As := []) (rest := []) ⟨hx, hb, hml, hown, hT⟩ (c_B_countMeetings l D cA ad t hap σ) (kCV 0 hT ml_B_80 mi_B_countMeetings ⟨Nat.le_of_ble_eq_true rfl, Nat.le_of_ble_eq_true rfl⟩) (bpreV hK hP hZ hS) rfl rfl hl.1 rfl (lv_room (Nat.le_of_ble_eq_true rfl)) d_B_count_75 ⟨Nat.le_of_ble_eq_true rfl, Nat.le_of_ble_eq_true rfl⟩)) (fun r9 e9 => ?_)
    subst e9
    have e9 : (f_B_countMeetings σ) = f_B_count σ wh := by rw [f_B_count, if_neg q1, if_neg q2, if_neg q3, if_neg q4, if_pos q6]
    exact W.iret (v := (f_B_countMeetings σ)) hx hb hr (fun t ht hW => ⟨_, rfl, e9, ht⟩) (fun _ h => absurd h List.not_mem_nil) d_B_count_78
  by_cases q7 : wh = (5 : Int32)
  · refine lv_tableIn (tgt := 79) (off := 78) hx hb d_B_count_1 (by rw [q7]; decide) (by rw [q7]; decide) (by rw [q7]; rfl) (by decide) ?_
    refine lv_aload_n hx hb d_B_count_79 rfl (lv_at hl 0 rfl) ?_
    refine va_get (D := D) (ci := 0) (v := .int (σ 5 3)) (C := R_B) (T := F_B) (N := 10) hx hb hT in_B hown hK hP 0 rfl rfl 9 (by decide) (hT _ fl_B_84) (fun _ h9 => h9) rfl d_B_count_80 ?_
    have e9 : (σ 5 3) = f_B_count σ wh := by rw [f_B_count, if_neg q1, if_neg q2, if_neg q3, if_neg q4, if_neg q6, if_pos q7]
    exact W.iret (v := (σ 5 3)) hx hb hr (fun t ht hW => ⟨_, rfl, e9, ht⟩) (fun _ h => absurd h List.not_mem_nil) d_B_count_83
  exact (kdead6 h1 q1 q2 q3 q4 q6 q7).elim
