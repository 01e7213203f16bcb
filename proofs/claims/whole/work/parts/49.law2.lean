set_option maxRecDepth 100000 in
set_option maxHeartbeats 4000000 in
theorem h_met_a (l : Launch) (hl0 : l.stackTraces = false) (D : va_G) (cA ad t : Nat → Nat) (hap : kap 8 ad) (σ : Nat → Nat → Int32) (f : Nat → Int64) (a : Int32) (o : Int32) (h1 : (f_B_isObject a) = 0) : Met l y_L_met w_L_met ({ frames := 7, cells := 1, slots := 6, locals := 170 } : Room) (va_Pc [.ref (ad 0), .int a, .int o, .ref (ad 7)] (lPre D cA ad t σ f)) (kQi D (bo cA ad σ f) (kA 8 ad) (1 : Int32)) 1 6 (kA 8 ad) := by
  refine va_MetW (cc := b_L_met) (maxL := 5) (ret := some .int) (hh := [(0, 17, 20, 13)]) (by decide) rfl ?_
  intro p e s m args below meth c s₁ B hml hv
  obtain ⟨rfl, hP, hK, hZ, hX, hN9⟩ := hv
  have hx := B.exec
  have hb := B.bytes
  have hr := B.returns
  have hT : ∀ w ∈ TB, w.before ([.ref (ad 0), .int a, .int o, .ref (ad 7)] : List Value).toArray s = true := fun w h => atoms_spec (ws := w_L_met) B.pre w (List.mem_cons_of_mem _ h)
  have hown : s.vm.findClass R_L = some m.cls := findClass_of_methodNamed B.named
  have hS : va_S (kA 8 ad) s.heap s.heap [] := va_S.rf
  have hP7 := bo_7 hP
  have hZ7 : kZ (kA 7 ad) t s := hZ.narrow fun q h => kA78 h
  have hl := lv_entry ([.ref (ad 0), .int a, .int o, .ref (ad 7)]) (n := 5) (Nat.le_of_ble_eq_true rfl)
  rw [lg_entry_eq]
  generalize (lg_sl ([.ref (ad 0), .int a, .int o, .ref (ad 7)]) ++ List.replicate (5 - (lg_sl ([.ref (ad 0), .int a, .int o, .ref (ad 7)])).length) Slot.unset).toArray = ls at hl ⊢
  have hl : lv_has ls 5 [(0, .ref (ad 0)), (1, .int a), (2, .int o), (3, .ref (ad 7))] := hl
  refine lv_aload_n hx hb d_L_met_0 rfl (lv_at hl 3 rfl) ?_
  refine lv_iconst (v := (0 : Int32)) hx hb d_L_met_1 (by decide) ?_
  refine lv_aload_n hx hb d_L_met_2 rfl (lv_at hl 0 rfl) ?_
  refine lv_iload_n hx hb d_L_met_3 rfl (lv_at hl 1 rfl) ?_
  refine lv_iload_n hx hb d_L_met_4 rfl (lv_at hl 2 rfl) ?_
  refine kxc (C := kNSE) (fun _ _ _ h => h) (vx_runV (As := [.int a, .int o]) (rest := [.int 0, .ref (ad 7)]) ⟨hx, hb, hml, hown, hT⟩ (x_B_met_a l hl0 D cA ad t (kap7 hap) σ a o h1) (kCV 2 hT ml_L_24 mi_B_met ⟨Nat.le_of_ble_eq_true rfl, Nat.le_of_ble_eq_true rfl⟩) (xpreV hK hP7 hZ7 hX) rfl rfl hl.1 rfl (lv_room (Nat.le_of_ble_eq_true rfl)) d_L_met_5 ⟨Nat.le_of_ble_eq_true rfl, Nat.le_of_ble_eq_true rfl⟩) hS (fun ce q9 H1 locs1 hz hq hS hce hcv hcl => ?_)
  refine vx_catch (own := R_L) (name := kNSE) (E := kNSE) hown [] ⟨0, 17, 20, 13⟩ [] (vx_table (x := y_B_write) (hh := [(0, 17, 20, 13)]) B (hT _ wc_L_met)) (fun _ h => nomatch h) (by decide) (by decide) (hT _ cl_L_13) (hT _ ca_n) hce hcv hcl ?_
  refine W.eq (g2 := F0 m 20 ls [.ref q9]) rfl ?_
  refine lv_astore (lv' := [(4, .ref q9), (0, .ref (ad 0)), (1, .int a), (2, .int o), (3, .ref (ad 7))]) hx hb d_L_met_20 hl (by decide) rfl (fun ls hl => ?_)
  refine lv_iconst (v := (1 : Int32)) hx hb d_L_met_22 (by decide) ?_
  exact W.iret (v := (1 : Int32)) hx hb hr (fun t ht hW => ⟨rfl, by rw [ht]; exact kP_same hP hq, hS.F ht⟩) hS.2.2 d_L_met_23

set_option maxRecDepth 100000 in
set_option maxHeartbeats 4000000 in
theorem h_met_b (l : Launch) (hl0 : l.stackTraces = false) (D : va_G) (cA ad t : Nat → Nat) (hap : kap 8 ad) (σ : Nat → Nat → Int32) (f : Nat → Int64) (a : Int32) (o : Int32) (h1 : ¬ (f_B_isObject a) = 0) (h2 : (f_B_isObject o) = 0) : Met l y_L_met w_L_met ({ frames := 7, cells := 1, slots := 6, locals := 170 } : Room) (va_Pc [.ref (ad 0), .int a, .int o, .ref (ad 7)] (lPre D cA ad t σ f)) (kQi D (bo cA ad σ f) (kA 8 ad) (1 : Int32)) 1 6 (kA 8 ad) := by
  refine va_MetW (cc := b_L_met) (maxL := 5) (ret := some .int) (hh := [(0, 17, 20, 13)]) (by decide) rfl ?_
  intro p e s m args below meth c s₁ B hml hv
  obtain ⟨rfl, hP, hK, hZ, hX, hN9⟩ := hv
  have hx := B.exec
  have hb := B.bytes
  have hr := B.returns
  have hT : ∀ w ∈ TB, w.before ([.ref (ad 0), .int a, .int o, .ref (ad 7)] : List Value).toArray s = true := fun w h => atoms_spec (ws := w_L_met) B.pre w (List.mem_cons_of_mem _ h)
  have hown : s.vm.findClass R_L = some m.cls := findClass_of_methodNamed B.named
  have hS : va_S (kA 8 ad) s.heap s.heap [] := va_S.rf
  have hP7 := bo_7 hP
  have hZ7 : kZ (kA 7 ad) t s := hZ.narrow fun q h => kA78 h
  have hl := lv_entry ([.ref (ad 0), .int a, .int o, .ref (ad 7)]) (n := 5) (Nat.le_of_ble_eq_true rfl)
  rw [lg_entry_eq]
  generalize (lg_sl ([.ref (ad 0), .int a, .int o, .ref (ad 7)]) ++ List.replicate (5 - (lg_sl ([.ref (ad 0), .int a, .int o, .ref (ad 7)])).length) Slot.unset).toArray = ls at hl ⊢
  have hl : lv_has ls 5 [(0, .ref (ad 0)), (1, .int a), (2, .int o), (3, .ref (ad 7))] := hl
  refine lv_aload_n hx hb d_L_met_0 rfl (lv_at hl 3 rfl) ?_
  refine lv_iconst (v := (0 : Int32)) hx hb d_L_met_1 (by decide) ?_
  refine lv_aload_n hx hb d_L_met_2 rfl (lv_at hl 0 rfl) ?_
  refine lv_iload_n hx hb d_L_met_3 rfl (lv_at hl 1 rfl) ?_
  refine lv_iload_n hx hb d_L_met_4 rfl (lv_at hl 2 rfl) ?_
  refine kxc (C := kNSE) (fun _ _ _ h => h) (vx_runV (As := [.int a, .int o]) (rest := [.int 0, .ref (ad 7)]) ⟨hx, hb, hml, hown, hT⟩ (x_B_met_b l hl0 D cA ad t (kap7 hap) σ a o h1 h2) (kCV 2 hT ml_L_24 mi_B_met ⟨Nat.le_of_ble_eq_true rfl, Nat.le_of_ble_eq_true rfl⟩) (xpreV hK hP7 hZ7 hX) rfl rfl hl.1 rfl (lv_room (Nat.le_of_ble_eq_true rfl)) d_L_met_5 ⟨Nat.le_of_ble_eq_true rfl, Nat.le_of_ble_eq_true rfl⟩) hS (fun ce q9 H1 locs1 hz hq hS hce hcv hcl => ?_)
  refine vx_catch (own := R_L) (name := kNSE) (E := kNSE) hown [] ⟨0, 17, 20, 13⟩ [] (vx_table (x := y_B_write) (hh := [(0, 17, 20, 13)]) B (hT _ wc_L_met)) (fun _ h => nomatch h) (by decide) (by decide) (hT _ cl_L_13) (hT _ ca_n) hce hcv hcl ?_
  refine W.eq (g2 := F0 m 20 ls [.ref q9]) rfl ?_
  refine lv_astore (lv' := [(4, .ref q9), (0, .ref (ad 0)), (1, .int a), (2, .int o), (3, .ref (ad 7))]) hx hb d_L_met_20 hl (by decide) rfl (fun ls hl => ?_)
  refine lv_iconst (v := (1 : Int32)) hx hb d_L_met_22 (by decide) ?_
  exact W.iret (v := (1 : Int32)) hx hb hr (fun t ht hW => ⟨rfl, by rw [ht]; exact kP_same hP hq, hS.F ht⟩) hS.2.2 d_L_met_23

set_option maxRecDepth 100000 in
set_option maxHeartbeats 4000000 in
theorem h_met_c (l : Launch) (hl0 : l.stackTraces = false) (D : va_G) (cA ad t : Nat → Nat) (hap : kap 8 ad) (σ : Nat → Nat → Int32) (f : Nat → Int64) (a : Int32) (o : Int32) (h1 : ¬ (f_B_isObject a) = 0) (h2 : ¬ (f_B_isObject o) = 0) (h3 : a = o) : Met l y_L_met w_L_met ({ frames := 7, cells := 1, slots := 6, locals := 170 } : Room) (va_Pc [.ref (ad 0), .int a, .int o, .ref (ad 7)] (lPre D cA ad t σ f)) (kQi D (bo cA ad σ f) (kA 8 ad) (1 : Int32)) 1 6 (kA 8 ad) := by
  refine va_MetW (cc := b_L_met) (maxL := 5) (ret := some .int) (hh := [(0, 17, 20, 13)]) (by decide) rfl ?_
  intro p e s m args below meth c s₁ B hml hv
  obtain ⟨rfl, hP, hK, hZ, hX, hN9⟩ := hv
  have hx := B.exec
  have hb := B.bytes
  have hr := B.returns
  have hT : ∀ w ∈ TB, w.before ([.ref (ad 0), .int a, .int o, .ref (ad 7)] : List Value).toArray s = true := fun w h => atoms_spec (ws := w_L_met) B.pre w (List.mem_cons_of_mem _ h)
  have hown : s.vm.findClass R_L = some m.cls := findClass_of_methodNamed B.named
  have hS : va_S (kA 8 ad) s.heap s.heap [] := va_S.rf
  have hP7 := bo_7 hP
  have hZ7 : kZ (kA 7 ad) t s := hZ.narrow fun q h => kA78 h
  have hl := lv_entry ([.ref (ad 0), .int a, .int o, .ref (ad 7)]) (n := 5) (Nat.le_of_ble_eq_true rfl)
  rw [lg_entry_eq]
  generalize (lg_sl ([.ref (ad 0), .int a, .int o, .ref (ad 7)]) ++ List.replicate (5 - (lg_sl ([.ref (ad 0), .int a, .int o, .ref (ad 7)])).length) Slot.unset).toArray = ls at hl ⊢
  have hl : lv_has ls 5 [(0, .ref (ad 0)), (1, .int a), (2, .int o), (3, .ref (ad 7))] := hl
  refine lv_aload_n hx hb d_L_met_0 rfl (lv_at hl 3 rfl) ?_
  refine lv_iconst (v := (0 : Int32)) hx hb d_L_met_1 (by decide) ?_
  refine lv_aload_n hx hb d_L_met_2 rfl (lv_at hl 0 rfl) ?_
  refine lv_iload_n hx hb d_L_met_3 rfl (lv_at hl 1 rfl) ?_
  refine lv_iload_n hx hb d_L_met_4 rfl (lv_at hl 2 rfl) ?_
  refine kxc (C := kNSE) (fun _ _ _ h => h) (vx_runV (As := [.int a, .int o]) (rest := [.int 0, .ref (ad 7)]) ⟨hx, hb, hml, hown, hT⟩ (x_B_met_c l hl0 D cA ad t (kap7 hap) σ a o h1 h2 h3) (kCV 2 hT ml_L_24 mi_B_met ⟨Nat.le_of_ble_eq_true rfl, Nat.le_of_ble_eq_true rfl⟩) (xpreV hK hP7 hZ7 hX) rfl rfl hl.1 rfl (lv_room (Nat.le_of_ble_eq_true rfl)) d_L_met_5 ⟨Nat.le_of_ble_eq_true rfl, Nat.le_of_ble_eq_true rfl⟩) hS (fun ce q9 H1 locs1 hz hq hS hce hcv hcl => ?_)
  refine vx_catch (own := R_L) (name := kNSE) (E := kNSE) hown [] ⟨0, 17, 20, 13⟩ [] (vx_table (x := y_B_write) (hh := [(0, 17, 20, 13)]) B (hT _ wc_L_met)) (fun _ h => nomatch h) (by decide) (by decide) (hT _ cl_L_13) (hT _ ca_n) hce hcv hcl ?_
  refine W.eq (g2 := F0 m 20 ls [.ref q9]) rfl ?_
  refine lv_astore (lv' := [(4, .ref q9), (0, .ref (ad 0)), (1, .int a), (2, .int o), (3, .ref (ad 7))]) hx hb d_L_met_20 hl (by decide) rfl (fun ls hl => ?_)
  refine lv_iconst (v := (1 : Int32)) hx hb d_L_met_22 (by decide) ?_
  exact W.iret (v := (1 : Int32)) hx hb hr (fun t ht hW => ⟨rfl, by rw [ht]; exact kP_same hP hq, hS.F ht⟩) hS.2.2 d_L_met_23

set_option maxRecDepth 100000 in
set_option maxHeartbeats 4000000 in
theorem h_met_g (l : Launch) (hl0 : l.stackTraces = false) (D : va_G) (cA ad t : Nat → Nat) (hap : kap 8 ad) (σ : Nat → Nat → Int32) (f : Nat → Int64) (a : Int32) (o : Int32) (h1 : vp_in a 6) (h2 : ¬ (f_B_isObject a) = 0) (h3 : ¬ (f_B_isObject o) = 0) (h4 : ¬ a = o) : Met l y_L_met w_L_met ({ frames := 7, cells := 1, slots := 6, locals := 170 } : Room) (va_Pc [.ref (ad 0), .int a, .int o, .ref (ad 7)] (lPre D cA ad t σ f)) (kQi D (bo cA ad σ (vp_updL f 0 ((f_B_met σ a o)).toInt64)) (kA 8 ad) (0 : Int32)) 1 6 (kA 8 ad) := by
  refine va_MetW (cc := b_L_met) (maxL := 5) (ret := some .int) (hh := [(0, 17, 20, 13)]) (by decide) rfl ?_
  intro p e s m args below meth c s₁ B hml hv
  obtain ⟨rfl, hP, hK, hZ, hX, hN9⟩ := hv
  have hx := B.exec
  have hb := B.bytes
  have hr := B.returns
  have hT : ∀ w ∈ TB, w.before ([.ref (ad 0), .int a, .int o, .ref (ad 7)] : List Value).toArray s = true := fun w h => atoms_spec (ws := w_L_met) B.pre w (List.mem_cons_of_mem _ h)
  have hown : s.vm.findClass R_L = some m.cls := findClass_of_methodNamed B.named
  have hS : va_S (kA 8 ad) s.heap s.heap [] := va_S.rf
  have hP7 := bo_7 hP
  have hZ7 : kZ (kA 7 ad) t s := hZ.narrow fun q h => kA78 h
  have hl := lv_entry ([.ref (ad 0), .int a, .int o, .ref (ad 7)]) (n := 5) (Nat.le_of_ble_eq_true rfl)
  rw [lg_entry_eq]
  generalize (lg_sl ([.ref (ad 0), .int a, .int o, .ref (ad 7)]) ++ List.replicate (5 - (lg_sl ([.ref (ad 0), .int a, .int o, .ref (ad 7)])).length) Slot.unset).toArray = ls at hl ⊢
  have hl : lv_has ls 5 [(0, .ref (ad 0)), (1, .int a), (2, .int o), (3, .ref (ad 7))] := hl
  refine lv_aload_n hx hb d_L_met_0 rfl (lv_at hl 3 rfl) ?_
  refine lv_iconst (v := (0 : Int32)) hx hb d_L_met_1 (by decide) ?_
  refine lv_aload_n hx hb d_L_met_2 rfl (lv_at hl 0 rfl) ?_
  refine lv_iload_n hx hb d_L_met_3 rfl (lv_at hl 1 rfl) ?_
  refine lv_iload_n hx hb d_L_met_4 rfl (lv_at hl 2 rfl) ?_
  refine vp_callSi (va_Run.run (va_runV (As := [.int a, .int o]) (rest := [.int 0, .ref (ad 7)]) ⟨hx, hb, hml, hown, hT⟩ (c_B_met l D cA ad t (kap7 hap) σ a o h1 h2 h3 h4) (kCV 2 hT ml_L_24 mi_B_met ⟨Nat.le_of_ble_eq_true rfl, Nat.le_of_ble_eq_true rfl⟩) (bpreV hK hP7 hZ7 (va_S.rf (A := kA 7 ad))) rfl rfl hl.1 rfl (lv_room (Nat.le_of_ble_eq_true rfl)) d_L_met_5 ⟨Nat.le_of_ble_eq_true rfl, Nat.le_of_ble_eq_true rfl⟩)) (fun r9 e9 => ?_)
  subst e9
  have hP8 := hP
  refine lv_if_eq (tgt := 15) hx hb d_L_met_8 (by decide) (fun h9 => ?_) (fun h9 => ?_)
  · refine lv_lconst (v := ((f_B_met σ a o)).toInt64) hx hb d_L_met_15 (by rw [h9]; decide) ?_
    refine va_last (D := D) (x := ((f_B_met σ a o)).toInt64) hx hb hK hP8 (kD hap rfl) hS 7 2 rfl rfl (kin (by decide)) d_L_met_16 (fun H2 locs2 hP2 hD2 hS => ?_)
    have hP9 := kst (bo_s ..) hP2
    refine lv_goto (tgt := 24) hx hb d_L_met_17 (by decide) ?_
    refine lv_iconst (v := (0 : Int32)) hx hb d_L_met_24 (by decide) ?_
    refine W.widen (k := 1) (n := 6) (by decide) (by decide) ?_
    exact W.iret (v := (0 : Int32)) hx hb hr (fun t ht hW => ⟨rfl, by rw [ht]; exact hP9, hS.F ht⟩) hS.2.2 d_L_met_25
  · have h10 := (z_B_met σ a o).resolve_left h9
    refine lv_lconst (v := ((f_B_met σ a o)).toInt64) hx hb d_L_met_11 (by rw [h10]; decide) ?_
    refine lv_goto (tgt := 16) hx hb d_L_met_12 (by decide) ?_
    refine va_last (D := D) (x := ((f_B_met σ a o)).toInt64) hx hb hK hP8 (kD hap rfl) hS 7 2 rfl rfl (kin (by decide)) d_L_met_16 (fun H2 locs2 hP2 hD2 hS => ?_)
    have hP9 := kst (bo_s ..) hP2
    refine lv_goto (tgt := 24) hx hb d_L_met_17 (by decide) ?_
    refine lv_iconst (v := (0 : Int32)) hx hb d_L_met_24 (by decide) ?_
    refine W.widen (k := 1) (n := 6) (by decide) (by decide) ?_
    exact W.iret (v := (0 : Int32)) hx hb hr (fun t ht hW => ⟨rfl, by rw [ht]; exact hP9, hS.F ht⟩) hS.2.2 d_L_met_25

set_option maxRecDepth 100000 in
set_option maxHeartbeats 4000000 in
theorem h_place_a (l : Launch) (hl0 : l.stackTraces = false) (D : va_G) (cA ad t : Nat → Nat) (hap : kap 8 ad) (σ : Nat → Nat → Int32) (f : Nat → Int64) (o : Int32) (h1 : o < 0) : Met l y_L_place w_L_place ({ frames := 7, cells := 1, slots := 6, locals := 170 } : Room) (va_Pc [.ref (ad 0), .int o, .ref (ad 7)] (lPre D cA ad t σ f)) (kQi D (bo cA ad σ f) (kA 8 ad) (1 : Int32)) 1 6 (kA 8 ad) := by
  refine va_MetW (cc := b_L_place) (maxL := 4) (ret := some .int) (hh := [(0, 9, 12, 13)]) (by decide) rfl ?_
  intro p e s m args below meth c s₁ B hml hv
  obtain ⟨rfl, hP, hK, hZ, hX, hN9⟩ := hv
  have hx := B.exec
  have hb := B.bytes
  have hr := B.returns
  have hT : ∀ w ∈ TB, w.before ([.ref (ad 0), .int o, .ref (ad 7)] : List Value).toArray s = true := fun w h => atoms_spec (ws := w_L_place) B.pre w (List.mem_cons_of_mem _ h)
  have hown : s.vm.findClass R_L = some m.cls := findClass_of_methodNamed B.named
  have hS : va_S (kA 8 ad) s.heap s.heap [] := va_S.rf
  have hP7 := bo_7 hP
  have hZ7 : kZ (kA 7 ad) t s := hZ.narrow fun q h => kA78 h
  have hl := lv_entry ([.ref (ad 0), .int o, .ref (ad 7)]) (n := 4) (Nat.le_of_ble_eq_true rfl)
  rw [lg_entry_eq]
  generalize (lg_sl ([.ref (ad 0), .int o, .ref (ad 7)]) ++ List.replicate (4 - (lg_sl ([.ref (ad 0), .int o, .ref (ad 7)])).length) Slot.unset).toArray = ls at hl ⊢
  have hl : lv_has ls 4 [(0, .ref (ad 0)), (1, .int o), (2, .ref (ad 7))] := hl
  refine lv_aload_n hx hb d_L_place_0 rfl (lv_at hl 2 rfl) ?_
  refine lv_iconst (v := (0 : Int32)) hx hb d_L_place_1 (by decide) ?_
  refine lv_aload_n hx hb d_L_place_2 rfl (lv_at hl 0 rfl) ?_
  refine lv_iload_n hx hb d_L_place_3 rfl (lv_at hl 1 rfl) ?_
  refine kxc (C := kNSE) (fun _ _ _ h => h) (vx_runV (As := [.int o]) (rest := [.int 0, .ref (ad 7)]) ⟨hx, hb, hml, hown, hT⟩ (x_B_place_a l hl0 D cA ad t (kap7 hap) σ o h1) (kCV 1 hT ml_L_28 mi_B_place ⟨Nat.le_of_ble_eq_true rfl, Nat.le_of_ble_eq_true rfl⟩) (xpreV hK hP7 hZ7 hX) rfl rfl hl.1 rfl (lv_room (Nat.le_of_ble_eq_true rfl)) d_L_place_4 ⟨Nat.le_of_ble_eq_true rfl, Nat.le_of_ble_eq_true rfl⟩) hS (fun ce q9 H1 locs1 hz hq hS hce hcv hcl => ?_)
  refine vx_catch (own := R_L) (name := kNSE) (E := kNSE) hown [] ⟨0, 9, 12, 13⟩ [] (vx_table (x := y_B_write) (hh := [(0, 9, 12, 13)]) B (hT _ wc_L_place)) (fun _ h => nomatch h) (by decide) (by decide) (hT _ cl_L_13) (hT _ ca_n) hce hcv hcl ?_
  refine W.eq (g2 := F0 m 12 ls [.ref q9]) rfl ?_
  refine lv_astore_n (lv' := [(3, .ref q9), (0, .ref (ad 0)), (1, .int o), (2, .ref (ad 7))]) hx hb d_L_place_12 rfl hl (by decide) rfl (fun ls hl => ?_)
  refine lv_iconst (v := (1 : Int32)) hx hb d_L_place_13 (by decide) ?_
  exact W.iret (v := (1 : Int32)) hx hb hr (fun t ht hW => ⟨rfl, by rw [ht]; exact kP_same hP hq, hS.F ht⟩) hS.2.2 d_L_place_14

set_option maxRecDepth 100000 in
set_option maxHeartbeats 4000000 in
theorem h_place_b (l : Launch) (hl0 : l.stackTraces = false) (D : va_G) (cA ad t : Nat → Nat) (hap : kap 8 ad) (σ : Nat → Nat → Int32) (f : Nat → Int64) (o : Int32) (h1 : ¬ o < 0) (h2 : ¬ o < (5 : Int32)) : Met l y_L_place w_L_place ({ frames := 7, cells := 1, slots := 6, locals := 170 } : Room) (va_Pc [.ref (ad 0), .int o, .ref (ad 7)] (lPre D cA ad t σ f)) (kQi D (bo cA ad σ f) (kA 8 ad) (1 : Int32)) 1 6 (kA 8 ad) := by
  refine va_MetW (cc := b_L_place) (maxL := 4) (ret := some .int) (hh := [(0, 9, 12, 13)]) (by decide) rfl ?_
  intro p e s m args below meth c s₁ B hml hv
  obtain ⟨rfl, hP, hK, hZ, hX, hN9⟩ := hv
  have hx := B.exec
  have hb := B.bytes
  have hr := B.returns
  have hT : ∀ w ∈ TB, w.before ([.ref (ad 0), .int o, .ref (ad 7)] : List Value).toArray s = true := fun w h => atoms_spec (ws := w_L_place) B.pre w (List.mem_cons_of_mem _ h)
  have hown : s.vm.findClass R_L = some m.cls := findClass_of_methodNamed B.named
  have hS : va_S (kA 8 ad) s.heap s.heap [] := va_S.rf
  have hP7 := bo_7 hP
  have hZ7 : kZ (kA 7 ad) t s := hZ.narrow fun q h => kA78 h
  have hl := lv_entry ([.ref (ad 0), .int o, .ref (ad 7)]) (n := 4) (Nat.le_of_ble_eq_true rfl)
  rw [lg_entry_eq]
  generalize (lg_sl ([.ref (ad 0), .int o, .ref (ad 7)]) ++ List.replicate (4 - (lg_sl ([.ref (ad 0), .int o, .ref (ad 7)])).length) Slot.unset).toArray = ls at hl ⊢
  have hl : lv_has ls 4 [(0, .ref (ad 0)), (1, .int o), (2, .ref (ad 7))] := hl
  refine lv_aload_n hx hb d_L_place_0 rfl (lv_at hl 2 rfl) ?_
  refine lv_iconst (v := (0 : Int32)) hx hb d_L_place_1 (by decide) ?_
  refine lv_aload_n hx hb d_L_place_2 rfl (lv_at hl 0 rfl) ?_
  refine lv_iload_n hx hb d_L_place_3 rfl (lv_at hl 1 rfl) ?_
  refine kxc (C := kNSE) (fun _ _ _ h => h) (vx_runV (As := [.int o]) (rest := [.int 0, .ref (ad 7)]) ⟨hx, hb, hml, hown, hT⟩ (x_B_place_b l hl0 D cA ad t (kap7 hap) σ o h1 h2) (kCV 1 hT ml_L_28 mi_B_place ⟨Nat.le_of_ble_eq_true rfl, Nat.le_of_ble_eq_true rfl⟩) (xpreV hK hP7 hZ7 hX) rfl rfl hl.1 rfl (lv_room (Nat.le_of_ble_eq_true rfl)) d_L_place_4 ⟨Nat.le_of_ble_eq_true rfl, Nat.le_of_ble_eq_true rfl⟩) hS (fun ce q9 H1 locs1 hz hq hS hce hcv hcl => ?_)
  refine vx_catch (own := R_L) (name := kNSE) (E := kNSE) hown [] ⟨0, 9, 12, 13⟩ [] (vx_table (x := y_B_write) (hh := [(0, 9, 12, 13)]) B (hT _ wc_L_place)) (fun _ h => nomatch h) (by decide) (by decide) (hT _ cl_L_13) (hT _ ca_n) hce hcv hcl ?_
  refine W.eq (g2 := F0 m 12 ls [.ref q9]) rfl ?_
  refine lv_astore_n (lv' := [(3, .ref q9), (0, .ref (ad 0)), (1, .int o), (2, .ref (ad 7))]) hx hb d_L_place_12 rfl hl (by decide) rfl (fun ls hl => ?_)
  refine lv_iconst (v := (1 : Int32)) hx hb d_L_place_13 (by decide) ?_
  exact W.iret (v := (1 : Int32)) hx hb hr (fun t ht hW => ⟨rfl, by rw [ht]; exact kP_same hP hq, hS.F ht⟩) hS.2.2 d_L_place_14

set_option maxRecDepth 100000 in
set_option maxHeartbeats 4000000 in
theorem h_place_g (l : Launch) (hl0 : l.stackTraces = false) (D : va_G) (cA ad t : Nat → Nat) (hap : kap 8 ad) (σ : Nat → Nat → Int32) (f : Nat → Int64) (o : Int32) (h0 : vp_in o 5) (h1 : ¬ o < 0) (h2 : o < (5 : Int32)) : Met l y_L_place w_L_place ({ frames := 7, cells := 1, slots := 6, locals := 170 } : Room) (va_Pc [.ref (ad 0), .int o, .ref (ad 7)] (lPre D cA ad t σ f)) (kQi D (bo cA ad σ (vp_updL f 0 ((f_B_place σ o)).toInt64)) (kA 8 ad) (0 : Int32)) 1 6 (kA 8 ad) := by
  refine va_MetW (cc := b_L_place) (maxL := 4) (ret := some .int) (hh := [(0, 9, 12, 13)]) (by decide) rfl ?_
  intro p e s m args below meth c s₁ B hml hv
  obtain ⟨rfl, hP, hK, hZ, hX, hN9⟩ := hv
  have hx := B.exec
  have hb := B.bytes
  have hr := B.returns
  have hT : ∀ w ∈ TB, w.before ([.ref (ad 0), .int o, .ref (ad 7)] : List Value).toArray s = true := fun w h => atoms_spec (ws := w_L_place) B.pre w (List.mem_cons_of_mem _ h)
  have hown : s.vm.findClass R_L = some m.cls := findClass_of_methodNamed B.named
  have hS : va_S (kA 8 ad) s.heap s.heap [] := va_S.rf
  have hP7 := bo_7 hP
  have hZ7 : kZ (kA 7 ad) t s := hZ.narrow fun q h => kA78 h
  have hl := lv_entry ([.ref (ad 0), .int o, .ref (ad 7)]) (n := 4) (Nat.le_of_ble_eq_true rfl)
  rw [lg_entry_eq]
  generalize (lg_sl ([.ref (ad 0), .int o, .ref (ad 7)]) ++ List.replicate (4 - (lg_sl ([.ref (ad 0), .int o, .ref (ad 7)])).length) Slot.unset).toArray = ls at hl ⊢
  have hl : lv_has ls 4 [(0, .ref (ad 0)), (1, .int o), (2, .ref (ad 7))] := hl
  refine lv_aload_n hx hb d_L_place_0 rfl (lv_at hl 2 rfl) ?_
  refine lv_iconst (v := (0 : Int32)) hx hb d_L_place_1 (by decide) ?_
  refine lv_aload_n hx hb d_L_place_2 rfl (lv_at hl 0 rfl) ?_
  refine lv_iload_n hx hb d_L_place_3 rfl (lv_at hl 1 rfl) ?_
  refine vp_callSi (va_Run.run (va_runV (As := [.int o]) (rest := [.int 0, .ref (ad 7)]) ⟨hx, hb, hml, hown, hT⟩ (c_B_place l D cA ad t (kap7 hap) σ o h0 h1 h2) (kCV 1 hT ml_L_28 mi_B_place ⟨Nat.le_of_ble_eq_true rfl, Nat.le_of_ble_eq_true rfl⟩) (bpreV hK hP7 hZ7 (va_S.rf (A := kA 7 ad))) rfl rfl hl.1 rfl (lv_room (Nat.le_of_ble_eq_true rfl)) d_L_place_4 ⟨Nat.le_of_ble_eq_true rfl, Nat.le_of_ble_eq_true rfl⟩)) (fun r9 e9 => ?_)
  subst e9
  have hP8 := hP
  refine lv_i2l (v := ((f_B_place σ o)).toInt64) hx hb d_L_place_7 rfl ?_
  refine va_last (D := D) (x := ((f_B_place σ o)).toInt64) hx hb hK hP8 (kD hap rfl) hS 7 2 rfl rfl (kin (by decide)) d_L_place_8 (fun H2 locs2 hP2 hD2 hS => ?_)
  have hP9 := kst (bo_s ..) hP2
  refine lv_goto (tgt := 15) hx hb d_L_place_9 (by decide) ?_
  refine lv_iconst (v := (0 : Int32)) hx hb d_L_place_15 (by decide) ?_
  refine W.widen (k := 1) (n := 6) (by decide) (by decide) ?_
  exact W.iret (v := (0 : Int32)) hx hb hr (fun t ht hW => ⟨rfl, by rw [ht]; exact hP9, hS.F ht⟩) hS.2.2 d_L_place_16

set_option maxRecDepth 100000 in
set_option maxHeartbeats 4000000 in
theorem h_there_a (l : Launch) (hl0 : l.stackTraces = false) (D : va_G) (cA ad t : Nat → Nat) (hap : kap 8 ad) (σ : Nat → Nat → Int32) (f : Nat → Int64) (o : Int32) (x : Int32) (h1 : (f_B_isObject o) = 0) : Met l y_L_there w_L_there ({ frames := 7, cells := 1, slots := 6, locals := 170 } : Room) (va_Pc [.ref (ad 0), .int o, .int x, .ref (ad 7)] (lPre D cA ad t σ f)) (kQi D (bo cA ad σ f) (kA 8 ad) (1 : Int32)) 1 6 (kA 8 ad) := by
  refine va_MetW (cc := b_L_there) (maxL := 5) (ret := some .int) (hh := [(0, 17, 20, 13)]) (by decide) rfl ?_
  intro p e s m args below meth c s₁ B hml hv
  obtain ⟨rfl, hP, hK, hZ, hX, hN9⟩ := hv
  have hx := B.exec
  have hb := B.bytes
  have hr := B.returns
  have hT : ∀ w ∈ TB, w.before ([.ref (ad 0), .int o, .int x, .ref (ad 7)] : List Value).toArray s = true := fun w h => atoms_spec (ws := w_L_there) B.pre w (List.mem_cons_of_mem _ h)
  have hown : s.vm.findClass R_L = some m.cls := findClass_of_methodNamed B.named
  have hS : va_S (kA 8 ad) s.heap s.heap [] := va_S.rf
  have hP7 := bo_7 hP
  have hZ7 : kZ (kA 7 ad) t s := hZ.narrow fun q h => kA78 h
  have hl := lv_entry ([.ref (ad 0), .int o, .int x, .ref (ad 7)]) (n := 5) (Nat.le_of_ble_eq_true rfl)
  rw [lg_entry_eq]
  generalize (lg_sl ([.ref (ad 0), .int o, .int x, .ref (ad 7)]) ++ List.replicate (5 - (lg_sl ([.ref (ad 0), .int o, .int x, .ref (ad 7)])).length) Slot.unset).toArray = ls at hl ⊢
  have hl : lv_has ls 5 [(0, .ref (ad 0)), (1, .int o), (2, .int x), (3, .ref (ad 7))] := hl
  refine lv_aload_n hx hb d_L_there_0 rfl (lv_at hl 3 rfl) ?_
  refine lv_iconst (v := (0 : Int32)) hx hb d_L_there_1 (by decide) ?_
  refine lv_aload_n hx hb d_L_there_2 rfl (lv_at hl 0 rfl) ?_
  refine lv_iload_n hx hb d_L_there_3 rfl (lv_at hl 1 rfl) ?_
  refine lv_iload_n hx hb d_L_there_4 rfl (lv_at hl 2 rfl) ?_
  refine kxc (C := kNSE) (fun _ _ _ h => h) (vx_runV (As := [.int o, .int x]) (rest := [.int 0, .ref (ad 7)]) ⟨hx, hb, hml, hown, hT⟩ (x_B_there_a l hl0 D cA ad t (kap7 hap) σ o x h1) (kCV 2 hT ml_L_31 mi_B_there ⟨Nat.le_of_ble_eq_true rfl, Nat.le_of_ble_eq_true rfl⟩) (xpreV hK hP7 hZ7 hX) rfl rfl hl.1 rfl (lv_room (Nat.le_of_ble_eq_true rfl)) d_L_there_5 ⟨Nat.le_of_ble_eq_true rfl, Nat.le_of_ble_eq_true rfl⟩) hS (fun ce q9 H1 locs1 hz hq hS hce hcv hcl => ?_)
  refine vx_catch (own := R_L) (name := kNSE) (E := kNSE) hown [] ⟨0, 17, 20, 13⟩ [] (vx_table (x := y_B_write) (hh := [(0, 17, 20, 13)]) B (hT _ wc_L_there)) (fun _ h => nomatch h) (by decide) (by decide) (hT _ cl_L_13) (hT _ ca_n) hce hcv hcl ?_
  refine W.eq (g2 := F0 m 20 ls [.ref q9]) rfl ?_
  refine lv_astore (lv' := [(4, .ref q9), (0, .ref (ad 0)), (1, .int o), (2, .int x), (3, .ref (ad 7))]) hx hb d_L_there_20 hl (by decide) rfl (fun ls hl => ?_)
  refine lv_iconst (v := (1 : Int32)) hx hb d_L_there_22 (by decide) ?_
  exact W.iret (v := (1 : Int32)) hx hb hr (fun t ht hW => ⟨rfl, by rw [ht]; exact kP_same hP hq, hS.F ht⟩) hS.2.2 d_L_there_23

set_option maxRecDepth 100000 in
set_option maxHeartbeats 4000000 in
theorem h_there_b (l : Launch) (hl0 : l.stackTraces = false) (D : va_G) (cA ad t : Nat → Nat) (hap : kap 8 ad) (σ : Nat → Nat → Int32) (f : Nat → Int64) (o : Int32) (x : Int32) (h1 : ¬ (f_B_isObject o) = 0) (h2 : (f_B_isPixel x) = 0) : Met l y_L_there w_L_there ({ frames := 7, cells := 1, slots := 6, locals := 170 } : Room) (va_Pc [.ref (ad 0), .int o, .int x, .ref (ad 7)] (lPre D cA ad t σ f)) (kQi D (bo cA ad σ f) (kA 8 ad) (1 : Int32)) 1 6 (kA 8 ad) := by
  refine va_MetW (cc := b_L_there) (maxL := 5) (ret := some .int) (hh := [(0, 17, 20, 13)]) (by decide) rfl ?_
  intro p e s m args below meth c s₁ B hml hv
  obtain ⟨rfl, hP, hK, hZ, hX, hN9⟩ := hv
  have hx := B.exec
  have hb := B.bytes
  have hr := B.returns
  have hT : ∀ w ∈ TB, w.before ([.ref (ad 0), .int o, .int x, .ref (ad 7)] : List Value).toArray s = true := fun w h => atoms_spec (ws := w_L_there) B.pre w (List.mem_cons_of_mem _ h)
  have hown : s.vm.findClass R_L = some m.cls := findClass_of_methodNamed B.named
  have hS : va_S (kA 8 ad) s.heap s.heap [] := va_S.rf
  have hP7 := bo_7 hP
  have hZ7 : kZ (kA 7 ad) t s := hZ.narrow fun q h => kA78 h
  have hl := lv_entry ([.ref (ad 0), .int o, .int x, .ref (ad 7)]) (n := 5) (Nat.le_of_ble_eq_true rfl)
  rw [lg_entry_eq]
  generalize (lg_sl ([.ref (ad 0), .int o, .int x, .ref (ad 7)]) ++ List.replicate (5 - (lg_sl ([.ref (ad 0), .int o, .int x, .ref (ad 7)])).length) Slot.unset).toArray = ls at hl ⊢
  have hl : lv_has ls 5 [(0, .ref (ad 0)), (1, .int o), (2, .int x), (3, .ref (ad 7))] := hl
  refine lv_aload_n hx hb d_L_there_0 rfl (lv_at hl 3 rfl) ?_
  refine lv_iconst (v := (0 : Int32)) hx hb d_L_there_1 (by decide) ?_
  refine lv_aload_n hx hb d_L_there_2 rfl (lv_at hl 0 rfl) ?_
  refine lv_iload_n hx hb d_L_there_3 rfl (lv_at hl 1 rfl) ?_
  refine lv_iload_n hx hb d_L_there_4 rfl (lv_at hl 2 rfl) ?_
  refine kxc (C := kNSE) (fun _ _ _ h => h) (vx_runV (As := [.int o, .int x]) (rest := [.int 0, .ref (ad 7)]) ⟨hx, hb, hml, hown, hT⟩ (x_B_there_b l hl0 D cA ad t (kap7 hap) σ o x h1 h2) (kCV 2 hT ml_L_31 mi_B_there ⟨Nat.le_of_ble_eq_true rfl, Nat.le_of_ble_eq_true rfl⟩) (xpreV hK hP7 hZ7 hX) rfl rfl hl.1 rfl (lv_room (Nat.le_of_ble_eq_true rfl)) d_L_there_5 ⟨Nat.le_of_ble_eq_true rfl, Nat.le_of_ble_eq_true rfl⟩) hS (fun ce q9 H1 locs1 hz hq hS hce hcv hcl => ?_)
  refine vx_catch (own := R_L) (name := kNSE) (E := kNSE) hown [] ⟨0, 17, 20, 13⟩ [] (vx_table (x := y_B_write) (hh := [(0, 17, 20, 13)]) B (hT _ wc_L_there)) (fun _ h => nomatch h) (by decide) (by decide) (hT _ cl_L_13) (hT _ ca_n) hce hcv hcl ?_
  refine W.eq (g2 := F0 m 20 ls [.ref q9]) rfl ?_
  refine lv_astore (lv' := [(4, .ref q9), (0, .ref (ad 0)), (1, .int o), (2, .int x), (3, .ref (ad 7))]) hx hb d_L_there_20 hl (by decide) rfl (fun ls hl => ?_)
  refine lv_iconst (v := (1 : Int32)) hx hb d_L_there_22 (by decide) ?_
  exact W.iret (v := (1 : Int32)) hx hb hr (fun t ht hW => ⟨rfl, by rw [ht]; exact kP_same hP hq, hS.F ht⟩) hS.2.2 d_L_there_23

set_option maxRecDepth 100000 in
set_option maxHeartbeats 4000000 in
theorem h_there_g (l : Launch) (hl0 : l.stackTraces = false) (D : va_G) (cA ad t : Nat → Nat) (hap : kap 8 ad) (σ : Nat → Nat → Int32) (f : Nat → Int64) (o : Int32) (x : Int32) (h1 : vp_in o 6) (h2 : ¬ (f_B_isObject o) = 0) (h3 : ¬ (f_B_isPixel x) = 0) : Met l y_L_there w_L_there ({ frames := 7, cells := 1, slots := 6, locals := 170 } : Room) (va_Pc [.ref (ad 0), .int o, .int x, .ref (ad 7)] (lPre D cA ad t σ f)) (kQi D (bo cA ad σ (vp_updL f 0 ((f_B_there σ o x)).toInt64)) (kA 8 ad) (0 : Int32)) 1 6 (kA 8 ad) := by
  refine va_MetW (cc := b_L_there) (maxL := 5) (ret := some .int) (hh := [(0, 17, 20, 13)]) (by decide) rfl ?_
  intro p e s m args below meth c s₁ B hml hv
  obtain ⟨rfl, hP, hK, hZ, hX, hN9⟩ := hv
  have hx := B.exec
  have hb := B.bytes
  have hr := B.returns
  have hT : ∀ w ∈ TB, w.before ([.ref (ad 0), .int o, .int x, .ref (ad 7)] : List Value).toArray s = true := fun w h => atoms_spec (ws := w_L_there) B.pre w (List.mem_cons_of_mem _ h)
  have hown : s.vm.findClass R_L = some m.cls := findClass_of_methodNamed B.named
  have hS : va_S (kA 8 ad) s.heap s.heap [] := va_S.rf
  have hP7 := bo_7 hP
  have hZ7 : kZ (kA 7 ad) t s := hZ.narrow fun q h => kA78 h
  have hl := lv_entry ([.ref (ad 0), .int o, .int x, .ref (ad 7)]) (n := 5) (Nat.le_of_ble_eq_true rfl)
  rw [lg_entry_eq]
  generalize (lg_sl ([.ref (ad 0), .int o, .int x, .ref (ad 7)]) ++ List.replicate (5 - (lg_sl ([.ref (ad 0), .int o, .int x, .ref (ad 7)])).length) Slot.unset).toArray = ls at hl ⊢
  have hl : lv_has ls 5 [(0, .ref (ad 0)), (1, .int o), (2, .int x), (3, .ref (ad 7))] := hl
  refine lv_aload_n hx hb d_L_there_0 rfl (lv_at hl 3 rfl) ?_
  refine lv_iconst (v := (0 : Int32)) hx hb d_L_there_1 (by decide) ?_
  refine lv_aload_n hx hb d_L_there_2 rfl (lv_at hl 0 rfl) ?_
  refine lv_iload_n hx hb d_L_there_3 rfl (lv_at hl 1 rfl) ?_
  refine lv_iload_n hx hb d_L_there_4 rfl (lv_at hl 2 rfl) ?_
  refine vp_callSi (va_Run.run (va_runV (As := [.int o, .int x]) (rest := [.int 0, .ref (ad 7)]) ⟨hx, hb, hml, hown, hT⟩ (c_B_there l D cA ad t (kap7 hap) σ o x h1 h2 h3) (kCV 2 hT ml_L_31 mi_B_there ⟨Nat.le_of_ble_eq_true rfl, Nat.le_of_ble_eq_true rfl⟩) (bpreV hK hP7 hZ7 (va_S.rf (A := kA 7 ad))) rfl rfl hl.1 rfl (lv_room (Nat.le_of_ble_eq_true rfl)) d_L_there_5 ⟨Nat.le_of_ble_eq_true rfl, Nat.le_of_ble_eq_true rfl⟩)) (fun r9 e9 => ?_)
  subst e9
  have hP8 := hP
  refine lv_if_eq (tgt := 15) hx hb d_L_there_8 (by decide) (fun h9 => ?_) (fun h9 => ?_)
  · refine lv_lconst (v := ((f_B_there σ o x)).toInt64) hx hb d_L_there_15 (by rw [h9]; decide) ?_
    refine va_last (D := D) (x := ((f_B_there σ o x)).toInt64) hx hb hK hP8 (kD hap rfl) hS 7 2 rfl rfl (kin (by decide)) d_L_there_16 (fun H2 locs2 hP2 hD2 hS => ?_)
    have hP9 := kst (bo_s ..) hP2
    refine lv_goto (tgt := 24) hx hb d_L_there_17 (by decide) ?_
    refine lv_iconst (v := (0 : Int32)) hx hb d_L_there_24 (by decide) ?_
    refine W.widen (k := 1) (n := 6) (by decide) (by decide) ?_
    exact W.iret (v := (0 : Int32)) hx hb hr (fun t ht hW => ⟨rfl, by rw [ht]; exact hP9, hS.F ht⟩) hS.2.2 d_L_there_25
  · have h10 := (z_B_there σ o x).resolve_left h9
    refine lv_lconst (v := ((f_B_there σ o x)).toInt64) hx hb d_L_there_11 (by rw [h10]; decide) ?_
    refine lv_goto (tgt := 16) hx hb d_L_there_12 (by decide) ?_
    refine va_last (D := D) (x := ((f_B_there σ o x)).toInt64) hx hb hK hP8 (kD hap rfl) hS 7 2 rfl rfl (kin (by decide)) d_L_there_16 (fun H2 locs2 hP2 hD2 hS => ?_)
    have hP9 := kst (bo_s ..) hP2
    refine lv_goto (tgt := 24) hx hb d_L_there_17 (by decide) ?_
    refine lv_iconst (v := (0 : Int32)) hx hb d_L_there_24 (by decide) ?_
    refine W.widen (k := 1) (n := 6) (by decide) (by decide) ?_
    exact W.iret (v := (0 : Int32)) hx hb hr (fun t ht hW => ⟨rfl, by rw [ht]; exact hP9, hS.F ht⟩) hS.2.2 d_L_there_25
