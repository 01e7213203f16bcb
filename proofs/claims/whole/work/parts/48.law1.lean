set_option maxRecDepth 100000 in
set_option maxHeartbeats 4000000 in
theorem h_write_a (l : Launch) (hl0 : l.stackTraces = false) (D : va_G) (cA ad t : Nat → Nat) (hap : kap 8 ad) (σ : Nat → Nat → Int32) (f : Nat → Int64) (r : Int32) (v : Int32) (h1 : r < 0) : Met l y_L_write w_L_write ({ frames := 7, cells := 1, slots := 6, locals := 170 } : Room) (va_Pc [.ref (ad 0), .int r, .int v] (lPre D cA ad t σ f)) (kQi D (bo cA ad σ f) (kA 8 ad) (1 : Int32)) 1 6 (kA 8 ad) := by
  refine va_MetW (cc := b_L_write) (maxL := 4) (ret := some .int) (hh := [(0, 6, 9, 13), (0, 6, 12, 15)]) (by decide) rfl ?_
  intro p e s m args below meth c s₁ B hml hv
  obtain ⟨rfl, hP, hK, hZ, hX, hN9⟩ := hv
  have hx := B.exec
  have hb := B.bytes
  have hr := B.returns
  have hT : ∀ w ∈ TB, w.before ([.ref (ad 0), .int r, .int v] : List Value).toArray s = true := fun w h => atoms_spec (ws := w_L_write) B.pre w (List.mem_cons_of_mem _ h)
  have hown : s.vm.findClass R_L = some m.cls := findClass_of_methodNamed B.named
  have hS : va_S (kA 8 ad) s.heap s.heap [] := va_S.rf
  have hP7 := bo_7 hP
  have hZ7 : kZ (kA 7 ad) t s := hZ.narrow fun q h => kA78 h
  have hl := lv_entry ([.ref (ad 0), .int r, .int v]) (n := 4) (Nat.le_of_ble_eq_true rfl)
  rw [lg_entry_eq]
  generalize (lg_sl ([.ref (ad 0), .int r, .int v]) ++ List.replicate (4 - (lg_sl ([.ref (ad 0), .int r, .int v])).length) Slot.unset).toArray = ls at hl ⊢
  have hl : lv_has ls 4 [(0, .ref (ad 0)), (1, .int r), (2, .int v)] := hl
  refine lv_aload_n hx hb d_L_write_0 rfl (lv_at hl 0 rfl) ?_
  refine lv_iload_n hx hb d_L_write_1 rfl (lv_at hl 1 rfl) ?_
  refine lv_iload_n hx hb d_L_write_2 rfl (lv_at hl 2 rfl) ?_
  refine kxc (C := kNSE) (fun _ _ _ h => h) (vx_runV (As := [.int r, .int v]) (rest := []) ⟨hx, hb, hml, hown, hT⟩ (x_B_write_a l hl0 D cA ad t (kap7 hap) σ r v h1) (kCV 2 hT ml_L_7 mi_B_write ⟨Nat.le_of_ble_eq_true rfl, Nat.le_of_ble_eq_true rfl⟩) (xpreV hK hP7 hZ7 hX) rfl rfl hl.1 rfl (lv_room (Nat.le_of_ble_eq_true rfl)) d_L_write_3 ⟨Nat.le_of_ble_eq_true rfl, Nat.le_of_ble_eq_true rfl⟩) hS (fun ce q9 H1 locs1 hz hq hS hce hcv hcl => ?_)
  refine vx_catch (own := R_L) (name := kNSE) (E := kNSE) hown [] ⟨0, 6, 9, 13⟩ [⟨0, 6, 12, 15⟩] (vx_table (x := y_B_write) (hh := [(0, 6, 9, 13), (0, 6, 12, 15)]) B (hT _ wc_L_write)) (fun _ h => nomatch h) (by decide) (by decide) (hT _ cl_L_13) (hT _ ca_n) hce hcv hcl ?_
  refine W.eq (g2 := F0 m 9 ls [.ref q9]) rfl ?_
  refine lv_astore_n (lv' := [(3, .ref q9), (0, .ref (ad 0)), (1, .int r), (2, .int v)]) hx hb d_L_write_9 rfl hl (by decide) rfl (fun ls hl => ?_)
  refine lv_iconst (v := (1 : Int32)) hx hb d_L_write_10 (by decide) ?_
  exact W.iret (v := (1 : Int32)) hx hb hr (fun t ht hW => ⟨rfl, by rw [ht]; exact kP_same hP hq, hS.F ht⟩) hS.2.2 d_L_write_11

set_option maxRecDepth 100000 in
set_option maxHeartbeats 4000000 in
theorem h_write_b (l : Launch) (hl0 : l.stackTraces = false) (D : va_G) (cA ad t : Nat → Nat) (hap : kap 8 ad) (σ : Nat → Nat → Int32) (f : Nat → Int64) (r : Int32) (v : Int32) (h1 : ¬ r < 0) (h2 : ¬ r < (36 : Int32)) : Met l y_L_write w_L_write ({ frames := 7, cells := 1, slots := 6, locals := 170 } : Room) (va_Pc [.ref (ad 0), .int r, .int v] (lPre D cA ad t σ f)) (kQi D (bo cA ad σ f) (kA 8 ad) (1 : Int32)) 1 6 (kA 8 ad) := by
  refine va_MetW (cc := b_L_write) (maxL := 4) (ret := some .int) (hh := [(0, 6, 9, 13), (0, 6, 12, 15)]) (by decide) rfl ?_
  intro p e s m args below meth c s₁ B hml hv
  obtain ⟨rfl, hP, hK, hZ, hX, hN9⟩ := hv
  have hx := B.exec
  have hb := B.bytes
  have hr := B.returns
  have hT : ∀ w ∈ TB, w.before ([.ref (ad 0), .int r, .int v] : List Value).toArray s = true := fun w h => atoms_spec (ws := w_L_write) B.pre w (List.mem_cons_of_mem _ h)
  have hown : s.vm.findClass R_L = some m.cls := findClass_of_methodNamed B.named
  have hS : va_S (kA 8 ad) s.heap s.heap [] := va_S.rf
  have hP7 := bo_7 hP
  have hZ7 : kZ (kA 7 ad) t s := hZ.narrow fun q h => kA78 h
  have hl := lv_entry ([.ref (ad 0), .int r, .int v]) (n := 4) (Nat.le_of_ble_eq_true rfl)
  rw [lg_entry_eq]
  generalize (lg_sl ([.ref (ad 0), .int r, .int v]) ++ List.replicate (4 - (lg_sl ([.ref (ad 0), .int r, .int v])).length) Slot.unset).toArray = ls at hl ⊢
  have hl : lv_has ls 4 [(0, .ref (ad 0)), (1, .int r), (2, .int v)] := hl
  refine lv_aload_n hx hb d_L_write_0 rfl (lv_at hl 0 rfl) ?_
  refine lv_iload_n hx hb d_L_write_1 rfl (lv_at hl 1 rfl) ?_
  refine lv_iload_n hx hb d_L_write_2 rfl (lv_at hl 2 rfl) ?_
  refine kxc (C := kNSE) (fun _ _ _ h => h) (vx_runV (As := [.int r, .int v]) (rest := []) ⟨hx, hb, hml, hown, hT⟩ (x_B_write_b l hl0 D cA ad t (kap7 hap) σ r v h1 h2) (kCV 2 hT ml_L_7 mi_B_write ⟨Nat.le_of_ble_eq_true rfl, Nat.le_of_ble_eq_true rfl⟩) (xpreV hK hP7 hZ7 hX) rfl rfl hl.1 rfl (lv_room (Nat.le_of_ble_eq_true rfl)) d_L_write_3 ⟨Nat.le_of_ble_eq_true rfl, Nat.le_of_ble_eq_true rfl⟩) hS (fun ce q9 H1 locs1 hz hq hS hce hcv hcl => ?_)
  refine vx_catch (own := R_L) (name := kNSE) (E := kNSE) hown [] ⟨0, 6, 9, 13⟩ [⟨0, 6, 12, 15⟩] (vx_table (x := y_B_write) (hh := [(0, 6, 9, 13), (0, 6, 12, 15)]) B (hT _ wc_L_write)) (fun _ h => nomatch h) (by decide) (by decide) (hT _ cl_L_13) (hT _ ca_n) hce hcv hcl ?_
  refine W.eq (g2 := F0 m 9 ls [.ref q9]) rfl ?_
  refine lv_astore_n (lv' := [(3, .ref q9), (0, .ref (ad 0)), (1, .int r), (2, .int v)]) hx hb d_L_write_9 rfl hl (by decide) rfl (fun ls hl => ?_)
  refine lv_iconst (v := (1 : Int32)) hx hb d_L_write_10 (by decide) ?_
  exact W.iret (v := (1 : Int32)) hx hb hr (fun t ht hW => ⟨rfl, by rw [ht]; exact kP_same hP hq, hS.F ht⟩) hS.2.2 d_L_write_11

set_option maxRecDepth 100000 in
set_option maxHeartbeats 4000000 in
theorem h_write_c (l : Launch) (hl0 : l.stackTraces = false) (D : va_G) (cA ad t : Nat → Nat) (hap : kap 8 ad) (σ : Nat → Nat → Int32) (f : Nat → Int64) (r : Int32) (v : Int32) (h1 : ¬ r < 0) (h2 : r < (36 : Int32)) (h3 : v < 0) : Met l y_L_write w_L_write ({ frames := 7, cells := 1, slots := 6, locals := 170 } : Room) (va_Pc [.ref (ad 0), .int r, .int v] (lPre D cA ad t σ f)) (kQi D (bo cA ad σ f) (kA 8 ad) (2 : Int32)) 1 6 (kA 8 ad) := by
  refine va_MetW (cc := b_L_write) (maxL := 4) (ret := some .int) (hh := [(0, 6, 9, 13), (0, 6, 12, 15)]) (by decide) rfl ?_
  intro p e s m args below meth c s₁ B hml hv
  obtain ⟨rfl, hP, hK, hZ, hX, hN9⟩ := hv
  have hx := B.exec
  have hb := B.bytes
  have hr := B.returns
  have hT : ∀ w ∈ TB, w.before ([.ref (ad 0), .int r, .int v] : List Value).toArray s = true := fun w h => atoms_spec (ws := w_L_write) B.pre w (List.mem_cons_of_mem _ h)
  have hown : s.vm.findClass R_L = some m.cls := findClass_of_methodNamed B.named
  have hS : va_S (kA 8 ad) s.heap s.heap [] := va_S.rf
  have hP7 := bo_7 hP
  have hZ7 : kZ (kA 7 ad) t s := hZ.narrow fun q h => kA78 h
  have hl := lv_entry ([.ref (ad 0), .int r, .int v]) (n := 4) (Nat.le_of_ble_eq_true rfl)
  rw [lg_entry_eq]
  generalize (lg_sl ([.ref (ad 0), .int r, .int v]) ++ List.replicate (4 - (lg_sl ([.ref (ad 0), .int r, .int v])).length) Slot.unset).toArray = ls at hl ⊢
  have hl : lv_has ls 4 [(0, .ref (ad 0)), (1, .int r), (2, .int v)] := hl
  refine lv_aload_n hx hb d_L_write_0 rfl (lv_at hl 0 rfl) ?_
  refine lv_iload_n hx hb d_L_write_1 rfl (lv_at hl 1 rfl) ?_
  refine lv_iload_n hx hb d_L_write_2 rfl (lv_at hl 2 rfl) ?_
  refine kxc (C := kIAE) (fun _ _ _ h => h) (vx_runV (As := [.int r, .int v]) (rest := []) ⟨hx, hb, hml, hown, hT⟩ (x_B_write_c l hl0 D cA ad t (kap7 hap) σ r v h1 h2 h3) (kCV 2 hT ml_L_7 mi_B_write ⟨Nat.le_of_ble_eq_true rfl, Nat.le_of_ble_eq_true rfl⟩) (xpreV hK hP7 hZ7 hX) rfl rfl hl.1 rfl (lv_room (Nat.le_of_ble_eq_true rfl)) d_L_write_3 ⟨Nat.le_of_ble_eq_true rfl, Nat.le_of_ble_eq_true rfl⟩) hS (fun ce q9 H1 locs1 hz hq hS hce hcv hcl => ?_)
  refine vx_catch (own := R_L) (name := kIAE) (E := kIAE) hown [⟨0, 6, 9, 13⟩] ⟨0, 6, 12, 15⟩ [] (vx_table (x := y_B_write) (hh := [(0, 6, 9, 13), (0, 6, 12, 15)]) B (hT _ wc_L_write)) (fun z hz => Or.inr ⟨by rw [List.mem_singleton.mp hz]; decide, kNSE, by rw [List.mem_singleton.mp hz]; exact hT _ cl_L_13, hN9⟩) (by decide) (by decide) (hT _ cl_L_15) (hT _ ca_i) hce hcv hcl ?_
  refine W.eq (g2 := F0 m 12 ls [.ref q9]) rfl ?_
  refine lv_astore_n (lv' := [(3, .ref q9), (0, .ref (ad 0)), (1, .int r), (2, .int v)]) hx hb d_L_write_12 rfl hl (by decide) rfl (fun ls hl => ?_)
  refine lv_iconst (v := (2 : Int32)) hx hb d_L_write_13 (by decide) ?_
  exact W.iret (v := (2 : Int32)) hx hb hr (fun t ht hW => ⟨rfl, by rw [ht]; exact kP_same hP hq, hS.F ht⟩) hS.2.2 d_L_write_14

set_option maxRecDepth 100000 in
set_option maxHeartbeats 4000000 in
theorem h_write_d (l : Launch) (hl0 : l.stackTraces = false) (D : va_G) (cA ad t : Nat → Nat) (hap : kap 8 ad) (σ : Nat → Nat → Int32) (f : Nat → Int64) (r : Int32) (v : Int32) (h1 : ¬ r < 0) (h2 : r < (36 : Int32)) (h3 : ¬ v < 0) (h4 : ¬ v ≤ (255 : Int32)) : Met l y_L_write w_L_write ({ frames := 7, cells := 1, slots := 6, locals := 170 } : Room) (va_Pc [.ref (ad 0), .int r, .int v] (lPre D cA ad t σ f)) (kQi D (bo cA ad σ f) (kA 8 ad) (2 : Int32)) 1 6 (kA 8 ad) := by
  refine va_MetW (cc := b_L_write) (maxL := 4) (ret := some .int) (hh := [(0, 6, 9, 13), (0, 6, 12, 15)]) (by decide) rfl ?_
  intro p e s m args below meth c s₁ B hml hv
  obtain ⟨rfl, hP, hK, hZ, hX, hN9⟩ := hv
  have hx := B.exec
  have hb := B.bytes
  have hr := B.returns
  have hT : ∀ w ∈ TB, w.before ([.ref (ad 0), .int r, .int v] : List Value).toArray s = true := fun w h => atoms_spec (ws := w_L_write) B.pre w (List.mem_cons_of_mem _ h)
  have hown : s.vm.findClass R_L = some m.cls := findClass_of_methodNamed B.named
  have hS : va_S (kA 8 ad) s.heap s.heap [] := va_S.rf
  have hP7 := bo_7 hP
  have hZ7 : kZ (kA 7 ad) t s := hZ.narrow fun q h => kA78 h
  have hl := lv_entry ([.ref (ad 0), .int r, .int v]) (n := 4) (Nat.le_of_ble_eq_true rfl)
  rw [lg_entry_eq]
  generalize (lg_sl ([.ref (ad 0), .int r, .int v]) ++ List.replicate (4 - (lg_sl ([.ref (ad 0), .int r, .int v])).length) Slot.unset).toArray = ls at hl ⊢
  have hl : lv_has ls 4 [(0, .ref (ad 0)), (1, .int r), (2, .int v)] := hl
  refine lv_aload_n hx hb d_L_write_0 rfl (lv_at hl 0 rfl) ?_
  refine lv_iload_n hx hb d_L_write_1 rfl (lv_at hl 1 rfl) ?_
  refine lv_iload_n hx hb d_L_write_2 rfl (lv_at hl 2 rfl) ?_
  refine kxc (C := kIAE) (fun _ _ _ h => h) (vx_runV (As := [.int r, .int v]) (rest := []) ⟨hx, hb, hml, hown, hT⟩ (x_B_write_d l hl0 D cA ad t (kap7 hap) σ r v h1 h2 h3 h4) (kCV 2 hT ml_L_7 mi_B_write ⟨Nat.le_of_ble_eq_true rfl, Nat.le_of_ble_eq_true rfl⟩) (xpreV hK hP7 hZ7 hX) rfl rfl hl.1 rfl (lv_room (Nat.le_of_ble_eq_true rfl)) d_L_write_3 ⟨Nat.le_of_ble_eq_true rfl, Nat.le_of_ble_eq_true rfl⟩) hS (fun ce q9 H1 locs1 hz hq hS hce hcv hcl => ?_)
  refine vx_catch (own := R_L) (name := kIAE) (E := kIAE) hown [⟨0, 6, 9, 13⟩] ⟨0, 6, 12, 15⟩ [] (vx_table (x := y_B_write) (hh := [(0, 6, 9, 13), (0, 6, 12, 15)]) B (hT _ wc_L_write)) (fun z hz => Or.inr ⟨by rw [List.mem_singleton.mp hz]; decide, kNSE, by rw [List.mem_singleton.mp hz]; exact hT _ cl_L_13, hN9⟩) (by decide) (by decide) (hT _ cl_L_15) (hT _ ca_i) hce hcv hcl ?_
  refine W.eq (g2 := F0 m 12 ls [.ref q9]) rfl ?_
  refine lv_astore_n (lv' := [(3, .ref q9), (0, .ref (ad 0)), (1, .int r), (2, .int v)]) hx hb d_L_write_12 rfl hl (by decide) rfl (fun ls hl => ?_)
  refine lv_iconst (v := (2 : Int32)) hx hb d_L_write_13 (by decide) ?_
  exact W.iret (v := (2 : Int32)) hx hb hr (fun t ht hW => ⟨rfl, by rw [ht]; exact kP_same hP hq, hS.F ht⟩) hS.2.2 d_L_write_14

set_option maxRecDepth 100000 in
set_option maxHeartbeats 4000000 in
theorem h_write_g (l : Launch) (hl0 : l.stackTraces = false) (D : va_G) (cA ad t : Nat → Nat) (hap : kap 8 ad) (σ : Nat → Nat → Int32) (f : Nat → Int64) (r : Int32) (v : Int32) (h1 : ¬ r < 0) (h2 : r < (36 : Int32)) (h3 : ¬ v < 0) (h4 : v ≤ (255 : Int32)) : Met l y_L_write w_L_write ({ frames := 7, cells := 1, slots := 6, locals := 170 } : Room) (va_Pc [.ref (ad 0), .int r, .int v] (lPre D cA ad t σ f)) (kQi D (bo cA ad (f_B_write σ r v) f) (kA 8 ad) (0 : Int32)) 1 6 (kA 8 ad) := by
  refine va_MetW (cc := b_L_write) (maxL := 4) (ret := some .int) (hh := [(0, 6, 9, 13), (0, 6, 12, 15)]) (by decide) rfl ?_
  intro p e s m args below meth c s₁ B hml hv
  obtain ⟨rfl, hP, hK, hZ, hX, hN9⟩ := hv
  have hx := B.exec
  have hb := B.bytes
  have hr := B.returns
  have hT : ∀ w ∈ TB, w.before ([.ref (ad 0), .int r, .int v] : List Value).toArray s = true := fun w h => atoms_spec (ws := w_L_write) B.pre w (List.mem_cons_of_mem _ h)
  have hown : s.vm.findClass R_L = some m.cls := findClass_of_methodNamed B.named
  have hS : va_S (kA 8 ad) s.heap s.heap [] := va_S.rf
  have hP7 := bo_7 hP
  have hZ7 : kZ (kA 7 ad) t s := hZ.narrow fun q h => kA78 h
  have hl := lv_entry ([.ref (ad 0), .int r, .int v]) (n := 4) (Nat.le_of_ble_eq_true rfl)
  rw [lg_entry_eq]
  generalize (lg_sl ([.ref (ad 0), .int r, .int v]) ++ List.replicate (4 - (lg_sl ([.ref (ad 0), .int r, .int v])).length) Slot.unset).toArray = ls at hl ⊢
  have hl : lv_has ls 4 [(0, .ref (ad 0)), (1, .int r), (2, .int v)] := hl
  refine lv_aload_n hx hb d_L_write_0 rfl (lv_at hl 0 rfl) ?_
  refine lv_iload_n hx hb d_L_write_1 rfl (lv_at hl 1 rfl) ?_
  refine lv_iload_n hx hb d_L_write_2 rfl (lv_at hl 2 rfl) ?_
  refine kcvJ (va_runV (As := [.int r, .int v]) (rest := []) ⟨hx, hb, hml, hown, hT⟩ (c_B_write l D cA ad t (kap7 hap) σ r v h1 h2 h3 h4) (kCV 2 hT ml_L_7 mi_B_write ⟨Nat.le_of_ble_eq_true rfl, Nat.le_of_ble_eq_true rfl⟩) (bpreV hK hP7 hZ7 (va_S.rf (A := kA 7 ad))) rfl rfl hl.1 rfl (lv_room (Nat.le_of_ble_eq_true rfl)) d_L_write_3 ⟨Nat.le_of_ble_eq_true rfl, Nat.le_of_ble_eq_true rfl⟩) hS (fun q _ h => kA78 h) (fun q h => kA78 h) (fun H1 locs1 hP1 hz hq hS => ?_)
  have hP8 := bo_join hap hP hP1 hq
  refine lv_goto (tgt := 15) hx hb d_L_write_6 (by decide) ?_
  refine lv_iconst (v := (0 : Int32)) hx hb d_L_write_15 (by decide) ?_
  refine W.widen (k := 1) (n := 6) (by decide) (by decide) ?_
  exact W.iret (v := (0 : Int32)) hx hb hr (fun t ht hW => ⟨rfl, by rw [ht]; exact hP8, hS.F ht⟩) hS.2.2 d_L_write_16

set_option maxRecDepth 100000 in
set_option maxHeartbeats 4000000 in
theorem h_clocks_a (l : Launch) (hl0 : l.stackTraces = false) (D : va_G) (cA ad t : Nat → Nat) (hap : kap 8 ad) (σ : Nat → Nat → Int32) (f : Nat → Int64) (n : Int32) (h1 : n < 0) : Met l y_L_clocks w_L_clocks ({ frames := 7, cells := 1, slots := 6, locals := 170 } : Room) (va_Pc [.ref (ad 0), .int n, .ref (ad 7)] (lPre D cA ad t σ f)) (kQi D (bo cA ad σ f) (kA 8 ad) (1 : Int32)) 1 6 (kA 8 ad) := by
  refine va_MetW (cc := b_L_clocks) (maxL := 4) (ret := some .int) (hh := [(0, 9, 12, 15)]) (by decide) rfl ?_
  intro p e s m args below meth c s₁ B hml hv
  obtain ⟨rfl, hP, hK, hZ, hX, hN9⟩ := hv
  have hx := B.exec
  have hb := B.bytes
  have hr := B.returns
  have hT : ∀ w ∈ TB, w.before ([.ref (ad 0), .int n, .ref (ad 7)] : List Value).toArray s = true := fun w h => atoms_spec (ws := w_L_clocks) B.pre w (List.mem_cons_of_mem _ h)
  have hown : s.vm.findClass R_L = some m.cls := findClass_of_methodNamed B.named
  have hS : va_S (kA 8 ad) s.heap s.heap [] := va_S.rf
  have hP7 := bo_7 hP
  have hZ7 : kZ (kA 7 ad) t s := hZ.narrow fun q h => kA78 h
  have hl := lv_entry ([.ref (ad 0), .int n, .ref (ad 7)]) (n := 4) (Nat.le_of_ble_eq_true rfl)
  rw [lg_entry_eq]
  generalize (lg_sl ([.ref (ad 0), .int n, .ref (ad 7)]) ++ List.replicate (4 - (lg_sl ([.ref (ad 0), .int n, .ref (ad 7)])).length) Slot.unset).toArray = ls at hl ⊢
  have hl : lv_has ls 4 [(0, .ref (ad 0)), (1, .int n), (2, .ref (ad 7))] := hl
  refine lv_aload_n hx hb d_L_clocks_0 rfl (lv_at hl 2 rfl) ?_
  refine lv_iconst (v := (0 : Int32)) hx hb d_L_clocks_1 (by decide) ?_
  refine lv_aload_n hx hb d_L_clocks_2 rfl (lv_at hl 0 rfl) ?_
  refine lv_iload_n hx hb d_L_clocks_3 rfl (lv_at hl 1 rfl) ?_
  refine kxc (C := kIAE) (fun _ _ _ h => h) (vx_runV (As := [.int n]) (rest := [.int 0, .ref (ad 7)]) ⟨hx, hb, hml, hown, hT⟩ (x_B_clocks_a l hl0 D cA ad t (kap7 hap) σ n h1) (kCV 1 hT ml_L_17 mi_B_clocks ⟨Nat.le_of_ble_eq_true rfl, Nat.le_of_ble_eq_true rfl⟩) (xpreV hK hP7 hZ7 hX) rfl rfl hl.1 rfl (lv_room (Nat.le_of_ble_eq_true rfl)) d_L_clocks_4 ⟨Nat.le_of_ble_eq_true rfl, Nat.le_of_ble_eq_true rfl⟩) hS (fun ce q9 H1 locs1 hz hq hS hce hcv hcl => ?_)
  refine vx_catch (own := R_L) (name := kIAE) (E := kIAE) hown [] ⟨0, 9, 12, 15⟩ [] (vx_table (x := y_B_write) (hh := [(0, 9, 12, 15)]) B (hT _ wc_L_clocks)) (fun _ h => nomatch h) (by decide) (by decide) (hT _ cl_L_15) (hT _ ca_i) hce hcv hcl ?_
  refine W.eq (g2 := F0 m 12 ls [.ref q9]) rfl ?_
  refine lv_astore_n (lv' := [(3, .ref q9), (0, .ref (ad 0)), (1, .int n), (2, .ref (ad 7))]) hx hb d_L_clocks_12 rfl hl (by decide) rfl (fun ls hl => ?_)
  refine lv_iconst (v := (1 : Int32)) hx hb d_L_clocks_13 (by decide) ?_
  exact W.iret (v := (1 : Int32)) hx hb hr (fun t ht hW => ⟨rfl, by rw [ht]; exact kP_same hP hq, hS.F ht⟩) hS.2.2 d_L_clocks_14

set_option maxRecDepth 100000 in
set_option maxHeartbeats 4000000 in
theorem h_clocks_b (l : Launch) (hl0 : l.stackTraces = false) (D : va_G) (cA ad t : Nat → Nat) (hap : kap 8 ad) (σ : Nat → Nat → Int32) (f : Nat → Int64) (n : Int32) (h1 : ¬ n < 0) (h2 : ¬ n ≤ (2000 : Int32)) : Met l y_L_clocks w_L_clocks ({ frames := 7, cells := 1, slots := 6, locals := 170 } : Room) (va_Pc [.ref (ad 0), .int n, .ref (ad 7)] (lPre D cA ad t σ f)) (kQi D (bo cA ad σ f) (kA 8 ad) (1 : Int32)) 1 6 (kA 8 ad) := by
  refine va_MetW (cc := b_L_clocks) (maxL := 4) (ret := some .int) (hh := [(0, 9, 12, 15)]) (by decide) rfl ?_
  intro p e s m args below meth c s₁ B hml hv
  obtain ⟨rfl, hP, hK, hZ, hX, hN9⟩ := hv
  have hx := B.exec
  have hb := B.bytes
  have hr := B.returns
  have hT : ∀ w ∈ TB, w.before ([.ref (ad 0), .int n, .ref (ad 7)] : List Value).toArray s = true := fun w h => atoms_spec (ws := w_L_clocks) B.pre w (List.mem_cons_of_mem _ h)
  have hown : s.vm.findClass R_L = some m.cls := findClass_of_methodNamed B.named
  have hS : va_S (kA 8 ad) s.heap s.heap [] := va_S.rf
  have hP7 := bo_7 hP
  have hZ7 : kZ (kA 7 ad) t s := hZ.narrow fun q h => kA78 h
  have hl := lv_entry ([.ref (ad 0), .int n, .ref (ad 7)]) (n := 4) (Nat.le_of_ble_eq_true rfl)
  rw [lg_entry_eq]
  generalize (lg_sl ([.ref (ad 0), .int n, .ref (ad 7)]) ++ List.replicate (4 - (lg_sl ([.ref (ad 0), .int n, .ref (ad 7)])).length) Slot.unset).toArray = ls at hl ⊢
  have hl : lv_has ls 4 [(0, .ref (ad 0)), (1, .int n), (2, .ref (ad 7))] := hl
  refine lv_aload_n hx hb d_L_clocks_0 rfl (lv_at hl 2 rfl) ?_
  refine lv_iconst (v := (0 : Int32)) hx hb d_L_clocks_1 (by decide) ?_
  refine lv_aload_n hx hb d_L_clocks_2 rfl (lv_at hl 0 rfl) ?_
  refine lv_iload_n hx hb d_L_clocks_3 rfl (lv_at hl 1 rfl) ?_
  refine kxc (C := kIAE) (fun _ _ _ h => h) (vx_runV (As := [.int n]) (rest := [.int 0, .ref (ad 7)]) ⟨hx, hb, hml, hown, hT⟩ (x_B_clocks_b l hl0 D cA ad t (kap7 hap) σ n h1 h2) (kCV 1 hT ml_L_17 mi_B_clocks ⟨Nat.le_of_ble_eq_true rfl, Nat.le_of_ble_eq_true rfl⟩) (xpreV hK hP7 hZ7 hX) rfl rfl hl.1 rfl (lv_room (Nat.le_of_ble_eq_true rfl)) d_L_clocks_4 ⟨Nat.le_of_ble_eq_true rfl, Nat.le_of_ble_eq_true rfl⟩) hS (fun ce q9 H1 locs1 hz hq hS hce hcv hcl => ?_)
  refine vx_catch (own := R_L) (name := kIAE) (E := kIAE) hown [] ⟨0, 9, 12, 15⟩ [] (vx_table (x := y_B_write) (hh := [(0, 9, 12, 15)]) B (hT _ wc_L_clocks)) (fun _ h => nomatch h) (by decide) (by decide) (hT _ cl_L_15) (hT _ ca_i) hce hcv hcl ?_
  refine W.eq (g2 := F0 m 12 ls [.ref q9]) rfl ?_
  refine lv_astore_n (lv' := [(3, .ref q9), (0, .ref (ad 0)), (1, .int n), (2, .ref (ad 7))]) hx hb d_L_clocks_12 rfl hl (by decide) rfl (fun ls hl => ?_)
  refine lv_iconst (v := (1 : Int32)) hx hb d_L_clocks_13 (by decide) ?_
  exact W.iret (v := (1 : Int32)) hx hb hr (fun t ht hW => ⟨rfl, by rw [ht]; exact kP_same hP hq, hS.F ht⟩) hS.2.2 d_L_clocks_14

set_option maxRecDepth 100000 in
set_option maxHeartbeats 4000000 in
theorem h_clocks_g (l : Launch) (hl0 : l.stackTraces = false) (D : va_G) (cA ad t : Nat → Nat) (hap : kap 8 ad) (σ : Nat → Nat → Int32) (f : Nat → Int64) (N : Nat) (hN : N < 2 ^ 31) (h0 : kClk σ) (h1 : ¬ (nI N) < 0) (h2 : (nI N) ≤ (2000 : Int32)) : Met l y_L_clocks w_L_clocks ({ frames := 7, cells := 1, slots := 6, locals := 170 } : Room) (va_Pc [.ref (ad 0), .int (nI N), .ref (ad 7)] (lPre D cA ad t σ f)) (kQi D (bo cA ad (f_B_clocks σ N).2 (vp_updL f 0 ((f_B_clocks σ N).1).toInt64)) (kA 8 ad) (0 : Int32)) 1 6 (kA 8 ad) := by
  refine va_MetW (cc := b_L_clocks) (maxL := 4) (ret := some .int) (hh := [(0, 9, 12, 15)]) (by decide) rfl ?_
  intro p e s m args below meth c s₁ B hml hv
  obtain ⟨rfl, hP, hK, hZ, hX, hN9⟩ := hv
  have hx := B.exec
  have hb := B.bytes
  have hr := B.returns
  have hT : ∀ w ∈ TB, w.before ([.ref (ad 0), .int (nI N), .ref (ad 7)] : List Value).toArray s = true := fun w h => atoms_spec (ws := w_L_clocks) B.pre w (List.mem_cons_of_mem _ h)
  have hown : s.vm.findClass R_L = some m.cls := findClass_of_methodNamed B.named
  have hS : va_S (kA 8 ad) s.heap s.heap [] := va_S.rf
  have hP7 := bo_7 hP
  have hZ7 : kZ (kA 7 ad) t s := hZ.narrow fun q h => kA78 h
  have hl := lv_entry ([.ref (ad 0), .int (nI N), .ref (ad 7)]) (n := 4) (Nat.le_of_ble_eq_true rfl)
  rw [lg_entry_eq]
  generalize (lg_sl ([.ref (ad 0), .int (nI N), .ref (ad 7)]) ++ List.replicate (4 - (lg_sl ([.ref (ad 0), .int (nI N), .ref (ad 7)])).length) Slot.unset).toArray = ls at hl ⊢
  have hl : lv_has ls 4 [(0, .ref (ad 0)), (1, .int (nI N)), (2, .ref (ad 7))] := hl
  refine lv_aload_n hx hb d_L_clocks_0 rfl (lv_at hl 2 rfl) ?_
  refine lv_iconst (v := (0 : Int32)) hx hb d_L_clocks_1 (by decide) ?_
  refine lv_aload_n hx hb d_L_clocks_2 rfl (lv_at hl 0 rfl) ?_
  refine lv_iload_n hx hb d_L_clocks_3 rfl (lv_at hl 1 rfl) ?_
  refine kciJ (va_runV (As := [.int (nI N)]) (rest := [.int 0, .ref (ad 7)]) ⟨hx, hb, hml, hown, hT⟩ (c_B_clocks l D cA ad t (kap7 hap) σ N hN h0 h1 h2) (kCV 1 hT ml_L_17 mi_B_clocks ⟨Nat.le_of_ble_eq_true rfl, Nat.le_of_ble_eq_true rfl⟩) (bpreV hK hP7 hZ7 (va_S.rf (A := kA 7 ad))) rfl rfl hl.1 rfl (lv_room (Nat.le_of_ble_eq_true rfl)) d_L_clocks_4 ⟨Nat.le_of_ble_eq_true rfl, Nat.le_of_ble_eq_true rfl⟩) hS (fun q _ h => kA78 h) (fun q h => kA78 h) (fun H1 locs1 hP1 hz hq hS => ?_)
  have hP8 := bo_join hap hP hP1 hq
  refine lv_i2l (v := ((f_B_clocks σ N).1).toInt64) hx hb d_L_clocks_7 rfl ?_
  refine va_last (D := D) (x := ((f_B_clocks σ N).1).toInt64) hx hb hK hP8 (kD hap rfl) hS 7 2 rfl rfl (kin (by decide)) d_L_clocks_8 (fun H2 locs2 hP2 hD2 hS => ?_)
  have hP9 := kst (bo_s ..) hP2
  refine lv_goto (tgt := 15) hx hb d_L_clocks_9 (by decide) ?_
  refine lv_iconst (v := (0 : Int32)) hx hb d_L_clocks_15 (by decide) ?_
  refine W.widen (k := 1) (n := 6) (by decide) (by decide) ?_
  exact W.iret (v := (0 : Int32)) hx hb hr (fun t ht hW => ⟨rfl, by rw [ht]; exact hP9, hS.F ht⟩) hS.2.2 d_L_clocks_16

set_option maxRecDepth 100000 in
set_option maxHeartbeats 4000000 in
theorem h_pixel_a (l : Launch) (hl0 : l.stackTraces = false) (D : va_G) (cA ad t : Nat → Nat) (hap : kap 8 ad) (σ : Nat → Nat → Int32) (f : Nat → Int64) (x : Int32) (h1 : (f_B_isPixel x) = 0) : Met l y_L_pixel w_L_pixel ({ frames := 7, cells := 1, slots := 6, locals := 170 } : Room) (va_Pc [.ref (ad 0), .int x, .ref (ad 7)] (lPre D cA ad t σ f)) (kQi D (bo cA ad σ f) (kA 8 ad) (1 : Int32)) 1 6 (kA 8 ad) := by
  refine va_MetW (cc := b_L_pixel) (maxL := 4) (ret := some .int) (hh := [(0, 9, 12, 13)]) (by decide) rfl ?_
  intro p e s m args below meth c s₁ B hml hv
  obtain ⟨rfl, hP, hK, hZ, hX, hN9⟩ := hv
  have hx := B.exec
  have hb := B.bytes
  have hr := B.returns
  have hT : ∀ w ∈ TB, w.before ([.ref (ad 0), .int x, .ref (ad 7)] : List Value).toArray s = true := fun w h => atoms_spec (ws := w_L_pixel) B.pre w (List.mem_cons_of_mem _ h)
  have hown : s.vm.findClass R_L = some m.cls := findClass_of_methodNamed B.named
  have hS : va_S (kA 8 ad) s.heap s.heap [] := va_S.rf
  have hP7 := bo_7 hP
  have hZ7 : kZ (kA 7 ad) t s := hZ.narrow fun q h => kA78 h
  have hl := lv_entry ([.ref (ad 0), .int x, .ref (ad 7)]) (n := 4) (Nat.le_of_ble_eq_true rfl)
  rw [lg_entry_eq]
  generalize (lg_sl ([.ref (ad 0), .int x, .ref (ad 7)]) ++ List.replicate (4 - (lg_sl ([.ref (ad 0), .int x, .ref (ad 7)])).length) Slot.unset).toArray = ls at hl ⊢
  have hl : lv_has ls 4 [(0, .ref (ad 0)), (1, .int x), (2, .ref (ad 7))] := hl
  refine lv_aload_n hx hb d_L_pixel_0 rfl (lv_at hl 2 rfl) ?_
  refine lv_iconst (v := (0 : Int32)) hx hb d_L_pixel_1 (by decide) ?_
  refine lv_aload_n hx hb d_L_pixel_2 rfl (lv_at hl 0 rfl) ?_
  refine lv_iload_n hx hb d_L_pixel_3 rfl (lv_at hl 1 rfl) ?_
  refine kxc (C := kNSE) (fun _ _ _ h => h) (vx_runV (As := [.int x]) (rest := [.int 0, .ref (ad 7)]) ⟨hx, hb, hml, hown, hT⟩ (x_B_pixel_a l hl0 D cA ad t (kap7 hap) σ x h1) (kCV 1 hT ml_L_21 mi_B_pixel ⟨Nat.le_of_ble_eq_true rfl, Nat.le_of_ble_eq_true rfl⟩) (xpreV hK hP7 hZ7 hX) rfl rfl hl.1 rfl (lv_room (Nat.le_of_ble_eq_true rfl)) d_L_pixel_4 ⟨Nat.le_of_ble_eq_true rfl, Nat.le_of_ble_eq_true rfl⟩) hS (fun ce q9 H1 locs1 hz hq hS hce hcv hcl => ?_)
  refine vx_catch (own := R_L) (name := kNSE) (E := kNSE) hown [] ⟨0, 9, 12, 13⟩ [] (vx_table (x := y_B_write) (hh := [(0, 9, 12, 13)]) B (hT _ wc_L_pixel)) (fun _ h => nomatch h) (by decide) (by decide) (hT _ cl_L_13) (hT _ ca_n) hce hcv hcl ?_
  refine W.eq (g2 := F0 m 12 ls [.ref q9]) rfl ?_
  refine lv_astore_n (lv' := [(3, .ref q9), (0, .ref (ad 0)), (1, .int x), (2, .ref (ad 7))]) hx hb d_L_pixel_12 rfl hl (by decide) rfl (fun ls hl => ?_)
  refine lv_iconst (v := (1 : Int32)) hx hb d_L_pixel_13 (by decide) ?_
  exact W.iret (v := (1 : Int32)) hx hb hr (fun t ht hW => ⟨rfl, by rw [ht]; exact kP_same hP hq, hS.F ht⟩) hS.2.2 d_L_pixel_14

set_option maxRecDepth 100000 in
set_option maxHeartbeats 4000000 in
theorem h_pixel_g (l : Launch) (hl0 : l.stackTraces = false) (D : va_G) (cA ad t : Nat → Nat) (hap : kap 8 ad) (σ : Nat → Nat → Int32) (f : Nat → Int64) (x : Int32) (h1 : vp_in x 160) (h2 : ¬ (f_B_isPixel x) = 0) : Met l y_L_pixel w_L_pixel ({ frames := 7, cells := 1, slots := 6, locals := 170 } : Room) (va_Pc [.ref (ad 0), .int x, .ref (ad 7)] (lPre D cA ad t σ f)) (kQi D (bo cA ad σ (vp_updL f 0 ((f_B_pixel σ x)).toInt64)) (kA 8 ad) (0 : Int32)) 1 6 (kA 8 ad) := by
  refine va_MetW (cc := b_L_pixel) (maxL := 4) (ret := some .int) (hh := [(0, 9, 12, 13)]) (by decide) rfl ?_
  intro p e s m args below meth c s₁ B hml hv
  obtain ⟨rfl, hP, hK, hZ, hX, hN9⟩ := hv
  have hx := B.exec
  have hb := B.bytes
  have hr := B.returns
  have hT : ∀ w ∈ TB, w.before ([.ref (ad 0), .int x, .ref (ad 7)] : List Value).toArray s = true := fun w h => atoms_spec (ws := w_L_pixel) B.pre w (List.mem_cons_of_mem _ h)
  have hown : s.vm.findClass R_L = some m.cls := findClass_of_methodNamed B.named
  have hS : va_S (kA 8 ad) s.heap s.heap [] := va_S.rf
  have hP7 := bo_7 hP
  have hZ7 : kZ (kA 7 ad) t s := hZ.narrow fun q h => kA78 h
  have hl := lv_entry ([.ref (ad 0), .int x, .ref (ad 7)]) (n := 4) (Nat.le_of_ble_eq_true rfl)
  rw [lg_entry_eq]
  generalize (lg_sl ([.ref (ad 0), .int x, .ref (ad 7)]) ++ List.replicate (4 - (lg_sl ([.ref (ad 0), .int x, .ref (ad 7)])).length) Slot.unset).toArray = ls at hl ⊢
  have hl : lv_has ls 4 [(0, .ref (ad 0)), (1, .int x), (2, .ref (ad 7))] := hl
  refine lv_aload_n hx hb d_L_pixel_0 rfl (lv_at hl 2 rfl) ?_
  refine lv_iconst (v := (0 : Int32)) hx hb d_L_pixel_1 (by decide) ?_
  refine lv_aload_n hx hb d_L_pixel_2 rfl (lv_at hl 0 rfl) ?_
  refine lv_iload_n hx hb d_L_pixel_3 rfl (lv_at hl 1 rfl) ?_
  refine vp_callSi (va_Run.run (va_runV (As := [.int x]) (rest := [.int 0, .ref (ad 7)]) ⟨hx, hb, hml, hown, hT⟩ (c_B_pixel l D cA ad t (kap7 hap) σ x h1 h2) (kCV 1 hT ml_L_21 mi_B_pixel ⟨Nat.le_of_ble_eq_true rfl, Nat.le_of_ble_eq_true rfl⟩) (bpreV hK hP7 hZ7 (va_S.rf (A := kA 7 ad))) rfl rfl hl.1 rfl (lv_room (Nat.le_of_ble_eq_true rfl)) d_L_pixel_4 ⟨Nat.le_of_ble_eq_true rfl, Nat.le_of_ble_eq_true rfl⟩)) (fun r9 e9 => ?_)
  subst e9
  have hP8 := hP
  refine lv_i2l (v := ((f_B_pixel σ x)).toInt64) hx hb d_L_pixel_7 rfl ?_
  refine va_last (D := D) (x := ((f_B_pixel σ x)).toInt64) hx hb hK hP8 (kD hap rfl) hS 7 2 rfl rfl (kin (by decide)) d_L_pixel_8 (fun H2 locs2 hP2 hD2 hS => ?_)
  have hP9 := kst (bo_s ..) hP2
  refine lv_goto (tgt := 15) hx hb d_L_pixel_9 (by decide) ?_
  refine lv_iconst (v := (0 : Int32)) hx hb d_L_pixel_15 (by decide) ?_
  refine W.widen (k := 1) (n := 6) (by decide) (by decide) ?_
  exact W.iret (v := (0 : Int32)) hx hb hr (fun t ht hW => ⟨rfl, by rw [ht]; exact hP9, hS.F ht⟩) hS.2.2 d_L_pixel_16
