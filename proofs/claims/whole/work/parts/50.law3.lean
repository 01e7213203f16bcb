set_option maxRecDepth 100000 in
set_option maxHeartbeats 4000000 in
theorem h_set_a (l : Launch) (hl0 : l.stackTraces = false) (D : va_G) (cA ad t : Nat → Nat) (hap : kap 8 ad) (σ : Nat → Nat → Int32) (f : Nat → Int64) (q : Int32) (v : Int32) (h1 : q < 0) : Met l y_L_set w_L_set ({ frames := 7, cells := 1, slots := 6, locals := 170 } : Room) (va_Pc [.ref (ad 0), .int q, .int v, .ref (ad 7)] (lPre D cA ad t σ f)) (kQi D (bo cA ad σ f) (kA 8 ad) (1 : Int32)) 1 6 (kA 8 ad) := by
  refine va_MetW (cc := b_L_set) (maxL := 5) (ret := some .int) (hh := [(0, 10, 13, 13), (0, 10, 17, 15)]) (by decide) rfl ?_
  intro p e s m args below meth c s₁ B hml hv
  obtain ⟨rfl, hP, hK, hZ, hX, hN9⟩ := hv
  have hx := B.exec
  have hb := B.bytes
  have hr := B.returns
  have hT : ∀ w ∈ TB, w.before ([.ref (ad 0), .int q, .int v, .ref (ad 7)] : List Value).toArray s = true := fun w h => atoms_spec (ws := w_L_set) B.pre w (List.mem_cons_of_mem _ h)
  have hown : s.vm.findClass R_L = some m.cls := findClass_of_methodNamed B.named
  have hS : va_S (kA 8 ad) s.heap s.heap [] := va_S.rf
  have hP7 := bo_7 hP
  have hZ7 : kZ (kA 7 ad) t s := hZ.narrow fun q h => kA78 h
  have hl := lv_entry ([.ref (ad 0), .int q, .int v, .ref (ad 7)]) (n := 5) (Nat.le_of_ble_eq_true rfl)
  rw [lg_entry_eq]
  generalize (lg_sl ([.ref (ad 0), .int q, .int v, .ref (ad 7)]) ++ List.replicate (5 - (lg_sl ([.ref (ad 0), .int q, .int v, .ref (ad 7)])).length) Slot.unset).toArray = ls at hl ⊢
  have hl : lv_has ls 5 [(0, .ref (ad 0)), (1, .int q), (2, .int v), (3, .ref (ad 7))] := hl
  refine lv_aload_n hx hb d_L_set_0 rfl (lv_at hl 3 rfl) ?_
  refine lv_iconst (v := (0 : Int32)) hx hb d_L_set_1 (by decide) ?_
  refine lv_aload_n hx hb d_L_set_2 rfl (lv_at hl 0 rfl) ?_
  refine lv_iload_n hx hb d_L_set_3 rfl (lv_at hl 1 rfl) ?_
  refine lv_iload_n hx hb d_L_set_4 rfl (lv_at hl 2 rfl) ?_
  refine kxc (C := kNSE) (fun _ _ _ h => h) (vx_runV (As := [.int q, .int v]) (rest := [.int 0, .ref (ad 7)]) ⟨hx, hb, hml, hown, hT⟩ (x_B_set_a l hl0 D cA ad t (kap7 hap) σ q v h1) (kCV 2 hT ml_L_34 mi_B_set ⟨Nat.le_of_ble_eq_true rfl, Nat.le_of_ble_eq_true rfl⟩) (xpreV hK hP7 hZ7 hX) rfl rfl hl.1 rfl (lv_room (Nat.le_of_ble_eq_true rfl)) d_L_set_5 ⟨Nat.le_of_ble_eq_true rfl, Nat.le_of_ble_eq_true rfl⟩) hS (fun ce q9 H1 locs1 hz hq hS hce hcv hcl => ?_)
  refine vx_catch (own := R_L) (name := kNSE) (E := kNSE) hown [] ⟨0, 10, 13, 13⟩ [⟨0, 10, 17, 15⟩] (vx_table (x := y_B_write) (hh := [(0, 10, 13, 13), (0, 10, 17, 15)]) B (hT _ wc_L_set)) (fun _ h => nomatch h) (by decide) (by decide) (hT _ cl_L_13) (hT _ ca_n) hce hcv hcl ?_
  refine W.eq (g2 := F0 m 13 ls [.ref q9]) rfl ?_
  refine lv_astore (lv' := [(4, .ref q9), (0, .ref (ad 0)), (1, .int q), (2, .int v), (3, .ref (ad 7))]) hx hb d_L_set_13 hl (by decide) rfl (fun ls hl => ?_)
  refine lv_iconst (v := (1 : Int32)) hx hb d_L_set_15 (by decide) ?_
  exact W.iret (v := (1 : Int32)) hx hb hr (fun t ht hW => ⟨rfl, by rw [ht]; exact kP_same hP hq, hS.F ht⟩) hS.2.2 d_L_set_16

set_option maxRecDepth 100000 in
set_option maxHeartbeats 4000000 in
theorem h_set_b (l : Launch) (hl0 : l.stackTraces = false) (D : va_G) (cA ad t : Nat → Nat) (hap : kap 8 ad) (σ : Nat → Nat → Int32) (f : Nat → Int64) (q : Int32) (v : Int32) (h1 : ¬ q < 0) (h2 : ¬ q < (4 : Int32)) : Met l y_L_set w_L_set ({ frames := 7, cells := 1, slots := 6, locals := 170 } : Room) (va_Pc [.ref (ad 0), .int q, .int v, .ref (ad 7)] (lPre D cA ad t σ f)) (kQi D (bo cA ad σ f) (kA 8 ad) (1 : Int32)) 1 6 (kA 8 ad) := by
  refine va_MetW (cc := b_L_set) (maxL := 5) (ret := some .int) (hh := [(0, 10, 13, 13), (0, 10, 17, 15)]) (by decide) rfl ?_
  intro p e s m args below meth c s₁ B hml hv
  obtain ⟨rfl, hP, hK, hZ, hX, hN9⟩ := hv
  have hx := B.exec
  have hb := B.bytes
  have hr := B.returns
  have hT : ∀ w ∈ TB, w.before ([.ref (ad 0), .int q, .int v, .ref (ad 7)] : List Value).toArray s = true := fun w h => atoms_spec (ws := w_L_set) B.pre w (List.mem_cons_of_mem _ h)
  have hown : s.vm.findClass R_L = some m.cls := findClass_of_methodNamed B.named
  have hS : va_S (kA 8 ad) s.heap s.heap [] := va_S.rf
  have hP7 := bo_7 hP
  have hZ7 : kZ (kA 7 ad) t s := hZ.narrow fun q h => kA78 h
  have hl := lv_entry ([.ref (ad 0), .int q, .int v, .ref (ad 7)]) (n := 5) (Nat.le_of_ble_eq_true rfl)
  rw [lg_entry_eq]
  generalize (lg_sl ([.ref (ad 0), .int q, .int v, .ref (ad 7)]) ++ List.replicate (5 - (lg_sl ([.ref (ad 0), .int q, .int v, .ref (ad 7)])).length) Slot.unset).toArray = ls at hl ⊢
  have hl : lv_has ls 5 [(0, .ref (ad 0)), (1, .int q), (2, .int v), (3, .ref (ad 7))] := hl
  refine lv_aload_n hx hb d_L_set_0 rfl (lv_at hl 3 rfl) ?_
  refine lv_iconst (v := (0 : Int32)) hx hb d_L_set_1 (by decide) ?_
  refine lv_aload_n hx hb d_L_set_2 rfl (lv_at hl 0 rfl) ?_
  refine lv_iload_n hx hb d_L_set_3 rfl (lv_at hl 1 rfl) ?_
  refine lv_iload_n hx hb d_L_set_4 rfl (lv_at hl 2 rfl) ?_
  refine kxc (C := kNSE) (fun _ _ _ h => h) (vx_runV (As := [.int q, .int v]) (rest := [.int 0, .ref (ad 7)]) ⟨hx, hb, hml, hown, hT⟩ (x_B_set_b l hl0 D cA ad t (kap7 hap) σ q v h1 h2) (kCV 2 hT ml_L_34 mi_B_set ⟨Nat.le_of_ble_eq_true rfl, Nat.le_of_ble_eq_true rfl⟩) (xpreV hK hP7 hZ7 hX) rfl rfl hl.1 rfl (lv_room (Nat.le_of_ble_eq_true rfl)) d_L_set_5 ⟨Nat.le_of_ble_eq_true rfl, Nat.le_of_ble_eq_true rfl⟩) hS (fun ce q9 H1 locs1 hz hq hS hce hcv hcl => ?_)
  refine vx_catch (own := R_L) (name := kNSE) (E := kNSE) hown [] ⟨0, 10, 13, 13⟩ [⟨0, 10, 17, 15⟩] (vx_table (x := y_B_write) (hh := [(0, 10, 13, 13), (0, 10, 17, 15)]) B (hT _ wc_L_set)) (fun _ h => nomatch h) (by decide) (by decide) (hT _ cl_L_13) (hT _ ca_n) hce hcv hcl ?_
  refine W.eq (g2 := F0 m 13 ls [.ref q9]) rfl ?_
  refine lv_astore (lv' := [(4, .ref q9), (0, .ref (ad 0)), (1, .int q), (2, .int v), (3, .ref (ad 7))]) hx hb d_L_set_13 hl (by decide) rfl (fun ls hl => ?_)
  refine lv_iconst (v := (1 : Int32)) hx hb d_L_set_15 (by decide) ?_
  exact W.iret (v := (1 : Int32)) hx hb hr (fun t ht hW => ⟨rfl, by rw [ht]; exact kP_same hP hq, hS.F ht⟩) hS.2.2 d_L_set_16

set_option maxRecDepth 100000 in
set_option maxHeartbeats 4000000 in
theorem h_set_c (l : Launch) (hl0 : l.stackTraces = false) (D : va_G) (cA ad t : Nat → Nat) (hap : kap 8 ad) (σ : Nat → Nat → Int32) (f : Nat → Int64) (q : Int32) (v : Int32) (h1 : ¬ q < 0) (h2 : q < (4 : Int32)) (h3 : v < 0) : Met l y_L_set w_L_set ({ frames := 7, cells := 1, slots := 6, locals := 170 } : Room) (va_Pc [.ref (ad 0), .int q, .int v, .ref (ad 7)] (lPre D cA ad t σ f)) (kQi D (bo cA ad σ f) (kA 8 ad) (2 : Int32)) 1 6 (kA 8 ad) := by
  refine va_MetW (cc := b_L_set) (maxL := 5) (ret := some .int) (hh := [(0, 10, 13, 13), (0, 10, 17, 15)]) (by decide) rfl ?_
  intro p e s m args below meth c s₁ B hml hv
  obtain ⟨rfl, hP, hK, hZ, hX, hN9⟩ := hv
  have hx := B.exec
  have hb := B.bytes
  have hr := B.returns
  have hT : ∀ w ∈ TB, w.before ([.ref (ad 0), .int q, .int v, .ref (ad 7)] : List Value).toArray s = true := fun w h => atoms_spec (ws := w_L_set) B.pre w (List.mem_cons_of_mem _ h)
  have hown : s.vm.findClass R_L = some m.cls := findClass_of_methodNamed B.named
  have hS : va_S (kA 8 ad) s.heap s.heap [] := va_S.rf
  have hP7 := bo_7 hP
  have hZ7 : kZ (kA 7 ad) t s := hZ.narrow fun q h => kA78 h
  have hl := lv_entry ([.ref (ad 0), .int q, .int v, .ref (ad 7)]) (n := 5) (Nat.le_of_ble_eq_true rfl)
  rw [lg_entry_eq]
  generalize (lg_sl ([.ref (ad 0), .int q, .int v, .ref (ad 7)]) ++ List.replicate (5 - (lg_sl ([.ref (ad 0), .int q, .int v, .ref (ad 7)])).length) Slot.unset).toArray = ls at hl ⊢
  have hl : lv_has ls 5 [(0, .ref (ad 0)), (1, .int q), (2, .int v), (3, .ref (ad 7))] := hl
  refine lv_aload_n hx hb d_L_set_0 rfl (lv_at hl 3 rfl) ?_
  refine lv_iconst (v := (0 : Int32)) hx hb d_L_set_1 (by decide) ?_
  refine lv_aload_n hx hb d_L_set_2 rfl (lv_at hl 0 rfl) ?_
  refine lv_iload_n hx hb d_L_set_3 rfl (lv_at hl 1 rfl) ?_
  refine lv_iload_n hx hb d_L_set_4 rfl (lv_at hl 2 rfl) ?_
  refine kxc (C := kIAE) (fun _ _ _ h => h) (vx_runV (As := [.int q, .int v]) (rest := [.int 0, .ref (ad 7)]) ⟨hx, hb, hml, hown, hT⟩ (x_B_set_c l hl0 D cA ad t (kap7 hap) σ q v h1 h2 h3) (kCV 2 hT ml_L_34 mi_B_set ⟨Nat.le_of_ble_eq_true rfl, Nat.le_of_ble_eq_true rfl⟩) (xpreV hK hP7 hZ7 hX) rfl rfl hl.1 rfl (lv_room (Nat.le_of_ble_eq_true rfl)) d_L_set_5 ⟨Nat.le_of_ble_eq_true rfl, Nat.le_of_ble_eq_true rfl⟩) hS (fun ce q9 H1 locs1 hz hq hS hce hcv hcl => ?_)
  refine vx_catch (own := R_L) (name := kIAE) (E := kIAE) hown [⟨0, 10, 13, 13⟩] ⟨0, 10, 17, 15⟩ [] (vx_table (x := y_B_write) (hh := [(0, 10, 13, 13), (0, 10, 17, 15)]) B (hT _ wc_L_set)) (fun z hz => Or.inr ⟨by rw [List.mem_singleton.mp hz]; decide, kNSE, by rw [List.mem_singleton.mp hz]; exact hT _ cl_L_13, hN9⟩) (by decide) (by decide) (hT _ cl_L_15) (hT _ ca_i) hce hcv hcl ?_
  refine W.eq (g2 := F0 m 17 ls [.ref q9]) rfl ?_
  refine lv_astore (lv' := [(4, .ref q9), (0, .ref (ad 0)), (1, .int q), (2, .int v), (3, .ref (ad 7))]) hx hb d_L_set_17 hl (by decide) rfl (fun ls hl => ?_)
  refine lv_iconst (v := (2 : Int32)) hx hb d_L_set_19 (by decide) ?_
  exact W.iret (v := (2 : Int32)) hx hb hr (fun t ht hW => ⟨rfl, by rw [ht]; exact kP_same hP hq, hS.F ht⟩) hS.2.2 d_L_set_20

set_option maxRecDepth 100000 in
set_option maxHeartbeats 4000000 in
theorem h_set_d (l : Launch) (hl0 : l.stackTraces = false) (D : va_G) (cA ad t : Nat → Nat) (hap : kap 8 ad) (σ : Nat → Nat → Int32) (f : Nat → Int64) (q : Int32) (v : Int32) (h1 : ¬ q < 0) (h2 : q < (4 : Int32)) (h3 : ¬ v < 0) (h4 : ¬ v ≤ (255 : Int32)) : Met l y_L_set w_L_set ({ frames := 7, cells := 1, slots := 6, locals := 170 } : Room) (va_Pc [.ref (ad 0), .int q, .int v, .ref (ad 7)] (lPre D cA ad t σ f)) (kQi D (bo cA ad σ f) (kA 8 ad) (2 : Int32)) 1 6 (kA 8 ad) := by
  refine va_MetW (cc := b_L_set) (maxL := 5) (ret := some .int) (hh := [(0, 10, 13, 13), (0, 10, 17, 15)]) (by decide) rfl ?_
  intro p e s m args below meth c s₁ B hml hv
  obtain ⟨rfl, hP, hK, hZ, hX, hN9⟩ := hv
  have hx := B.exec
  have hb := B.bytes
  have hr := B.returns
  have hT : ∀ w ∈ TB, w.before ([.ref (ad 0), .int q, .int v, .ref (ad 7)] : List Value).toArray s = true := fun w h => atoms_spec (ws := w_L_set) B.pre w (List.mem_cons_of_mem _ h)
  have hown : s.vm.findClass R_L = some m.cls := findClass_of_methodNamed B.named
  have hS : va_S (kA 8 ad) s.heap s.heap [] := va_S.rf
  have hP7 := bo_7 hP
  have hZ7 : kZ (kA 7 ad) t s := hZ.narrow fun q h => kA78 h
  have hl := lv_entry ([.ref (ad 0), .int q, .int v, .ref (ad 7)]) (n := 5) (Nat.le_of_ble_eq_true rfl)
  rw [lg_entry_eq]
  generalize (lg_sl ([.ref (ad 0), .int q, .int v, .ref (ad 7)]) ++ List.replicate (5 - (lg_sl ([.ref (ad 0), .int q, .int v, .ref (ad 7)])).length) Slot.unset).toArray = ls at hl ⊢
  have hl : lv_has ls 5 [(0, .ref (ad 0)), (1, .int q), (2, .int v), (3, .ref (ad 7))] := hl
  refine lv_aload_n hx hb d_L_set_0 rfl (lv_at hl 3 rfl) ?_
  refine lv_iconst (v := (0 : Int32)) hx hb d_L_set_1 (by decide) ?_
  refine lv_aload_n hx hb d_L_set_2 rfl (lv_at hl 0 rfl) ?_
  refine lv_iload_n hx hb d_L_set_3 rfl (lv_at hl 1 rfl) ?_
  refine lv_iload_n hx hb d_L_set_4 rfl (lv_at hl 2 rfl) ?_
  refine kxc (C := kIAE) (fun _ _ _ h => h) (vx_runV (As := [.int q, .int v]) (rest := [.int 0, .ref (ad 7)]) ⟨hx, hb, hml, hown, hT⟩ (x_B_set_d l hl0 D cA ad t (kap7 hap) σ q v h1 h2 h3 h4) (kCV 2 hT ml_L_34 mi_B_set ⟨Nat.le_of_ble_eq_true rfl, Nat.le_of_ble_eq_true rfl⟩) (xpreV hK hP7 hZ7 hX) rfl rfl hl.1 rfl (lv_room (Nat.le_of_ble_eq_true rfl)) d_L_set_5 ⟨Nat.le_of_ble_eq_true rfl, Nat.le_of_ble_eq_true rfl⟩) hS (fun ce q9 H1 locs1 hz hq hS hce hcv hcl => ?_)
  refine vx_catch (own := R_L) (name := kIAE) (E := kIAE) hown [⟨0, 10, 13, 13⟩] ⟨0, 10, 17, 15⟩ [] (vx_table (x := y_B_write) (hh := [(0, 10, 13, 13), (0, 10, 17, 15)]) B (hT _ wc_L_set)) (fun z hz => Or.inr ⟨by rw [List.mem_singleton.mp hz]; decide, kNSE, by rw [List.mem_singleton.mp hz]; exact hT _ cl_L_13, hN9⟩) (by decide) (by decide) (hT _ cl_L_15) (hT _ ca_i) hce hcv hcl ?_
  refine W.eq (g2 := F0 m 17 ls [.ref q9]) rfl ?_
  refine lv_astore (lv' := [(4, .ref q9), (0, .ref (ad 0)), (1, .int q), (2, .int v), (3, .ref (ad 7))]) hx hb d_L_set_17 hl (by decide) rfl (fun ls hl => ?_)
  refine lv_iconst (v := (2 : Int32)) hx hb d_L_set_19 (by decide) ?_
  exact W.iret (v := (2 : Int32)) hx hb hr (fun t ht hW => ⟨rfl, by rw [ht]; exact kP_same hP hq, hS.F ht⟩) hS.2.2 d_L_set_20

set_option maxRecDepth 100000 in
set_option maxHeartbeats 4000000 in
theorem h_set_g (l : Launch) (hl0 : l.stackTraces = false) (D : va_G) (cA ad t : Nat → Nat) (hap : kap 8 ad) (σ : Nat → Nat → Int32) (f : Nat → Int64) (q : Int32) (v : Int32) (h0 : vp_in q 4) (h1 : ¬ q < 0) (h2 : q < (4 : Int32)) (h3 : ¬ v < 0) (h4 : v ≤ (255 : Int32)) : Met l y_L_set w_L_set ({ frames := 7, cells := 1, slots := 6, locals := 170 } : Room) (va_Pc [.ref (ad 0), .int q, .int v, .ref (ad 7)] (lPre D cA ad t σ f)) (kQi D (bo cA ad (f_B_set σ q v).2 (vp_updL f 0 ((f_B_set σ q v).1).toInt64)) (kA 8 ad) (0 : Int32)) 1 6 (kA 8 ad) := by
  refine va_MetW (cc := b_L_set) (maxL := 5) (ret := some .int) (hh := [(0, 10, 13, 13), (0, 10, 17, 15)]) (by decide) rfl ?_
  intro p e s m args below meth c s₁ B hml hv
  obtain ⟨rfl, hP, hK, hZ, hX, hN9⟩ := hv
  have hx := B.exec
  have hb := B.bytes
  have hr := B.returns
  have hT : ∀ w ∈ TB, w.before ([.ref (ad 0), .int q, .int v, .ref (ad 7)] : List Value).toArray s = true := fun w h => atoms_spec (ws := w_L_set) B.pre w (List.mem_cons_of_mem _ h)
  have hown : s.vm.findClass R_L = some m.cls := findClass_of_methodNamed B.named
  have hS : va_S (kA 8 ad) s.heap s.heap [] := va_S.rf
  have hP7 := bo_7 hP
  have hZ7 : kZ (kA 7 ad) t s := hZ.narrow fun q h => kA78 h
  have hl := lv_entry ([.ref (ad 0), .int q, .int v, .ref (ad 7)]) (n := 5) (Nat.le_of_ble_eq_true rfl)
  rw [lg_entry_eq]
  generalize (lg_sl ([.ref (ad 0), .int q, .int v, .ref (ad 7)]) ++ List.replicate (5 - (lg_sl ([.ref (ad 0), .int q, .int v, .ref (ad 7)])).length) Slot.unset).toArray = ls at hl ⊢
  have hl : lv_has ls 5 [(0, .ref (ad 0)), (1, .int q), (2, .int v), (3, .ref (ad 7))] := hl
  refine lv_aload_n hx hb d_L_set_0 rfl (lv_at hl 3 rfl) ?_
  refine lv_iconst (v := (0 : Int32)) hx hb d_L_set_1 (by decide) ?_
  refine lv_aload_n hx hb d_L_set_2 rfl (lv_at hl 0 rfl) ?_
  refine lv_iload_n hx hb d_L_set_3 rfl (lv_at hl 1 rfl) ?_
  refine lv_iload_n hx hb d_L_set_4 rfl (lv_at hl 2 rfl) ?_
  refine kciJ (va_runV (As := [.int q, .int v]) (rest := [.int 0, .ref (ad 7)]) ⟨hx, hb, hml, hown, hT⟩ (c_B_set l D cA ad t (kap7 hap) σ q v h0 h1 h2 h3 h4) (kCV 2 hT ml_L_34 mi_B_set ⟨Nat.le_of_ble_eq_true rfl, Nat.le_of_ble_eq_true rfl⟩) (bpreV hK hP7 hZ7 (va_S.rf (A := kA 7 ad))) rfl rfl hl.1 rfl (lv_room (Nat.le_of_ble_eq_true rfl)) d_L_set_5 ⟨Nat.le_of_ble_eq_true rfl, Nat.le_of_ble_eq_true rfl⟩) hS (fun q _ h => kA78 h) (fun q h => kA78 h) (fun H1 locs1 hP1 hz hq hS => ?_)
  have hP8 := bo_join hap hP hP1 hq
  refine lv_i2l (v := ((f_B_set σ q v).1).toInt64) hx hb d_L_set_8 rfl ?_
  refine va_last (D := D) (x := ((f_B_set σ q v).1).toInt64) hx hb hK hP8 (kD hap rfl) hS 7 2 rfl rfl (kin (by decide)) d_L_set_9 (fun H2 locs2 hP2 hD2 hS => ?_)
  have hP9 := kst (bo_s ..) hP2
  refine lv_goto (tgt := 21) hx hb d_L_set_10 (by decide) ?_
  refine lv_iconst (v := (0 : Int32)) hx hb d_L_set_21 (by decide) ?_
  refine W.widen (k := 1) (n := 6) (by decide) (by decide) ?_
  exact W.iret (v := (0 : Int32)) hx hb hr (fun t ht hW => ⟨rfl, by rw [ht]; exact hP9, hS.F ht⟩) hS.2.2 d_L_set_22

set_option maxRecDepth 100000 in
set_option maxHeartbeats 4000000 in
theorem h_count_a (l : Launch) (hl0 : l.stackTraces = false) (D : va_G) (cA ad t : Nat → Nat) (hap : kap 8 ad) (σ : Nat → Nat → Int32) (f : Nat → Int64) (wh : Int32) (n0 : ¬ wh = (0 : Int32)) (n1 : ¬ wh = (1 : Int32)) (n2 : ¬ wh = (2 : Int32)) (n3 : ¬ wh = (3 : Int32)) (n4 : ¬ wh = (4 : Int32)) (n5 : ¬ wh = (5 : Int32)) : Met l y_L_count w_L_count ({ frames := 7, cells := 1, slots := 6, locals := 170 } : Room) (va_Pc [.ref (ad 0), .int wh, .ref (ad 7)] (lPre D cA ad t σ f)) (kQi D (bo cA ad σ f) (kA 8 ad) (1 : Int32)) 1 6 (kA 8 ad) := by
  refine va_MetW (cc := b_L_count) (maxL := 4) (ret := some .int) (hh := [(0, 9, 12, 13)]) (by decide) rfl ?_
  intro p e s m args below meth c s₁ B hml hv
  obtain ⟨rfl, hP, hK, hZ, hX, hN9⟩ := hv
  have hx := B.exec
  have hb := B.bytes
  have hr := B.returns
  have hT : ∀ w ∈ TB, w.before ([.ref (ad 0), .int wh, .ref (ad 7)] : List Value).toArray s = true := fun w h => atoms_spec (ws := w_L_count) B.pre w (List.mem_cons_of_mem _ h)
  have hown : s.vm.findClass R_L = some m.cls := findClass_of_methodNamed B.named
  have hS : va_S (kA 8 ad) s.heap s.heap [] := va_S.rf
  have hP7 := bo_7 hP
  have hZ7 : kZ (kA 7 ad) t s := hZ.narrow fun q h => kA78 h
  have hl := lv_entry ([.ref (ad 0), .int wh, .ref (ad 7)]) (n := 4) (Nat.le_of_ble_eq_true rfl)
  rw [lg_entry_eq]
  generalize (lg_sl ([.ref (ad 0), .int wh, .ref (ad 7)]) ++ List.replicate (4 - (lg_sl ([.ref (ad 0), .int wh, .ref (ad 7)])).length) Slot.unset).toArray = ls at hl ⊢
  have hl : lv_has ls 4 [(0, .ref (ad 0)), (1, .int wh), (2, .ref (ad 7))] := hl
  refine lv_aload_n hx hb d_L_count_0 rfl (lv_at hl 2 rfl) ?_
  refine lv_iconst (v := (0 : Int32)) hx hb d_L_count_1 (by decide) ?_
  refine lv_aload_n hx hb d_L_count_2 rfl (lv_at hl 0 rfl) ?_
  refine lv_iload_n hx hb d_L_count_3 rfl (lv_at hl 1 rfl) ?_
  refine kxc (C := kNSE) (fun _ _ _ h => h) (vx_runV (As := [.int wh]) (rest := [.int 0, .ref (ad 7)]) ⟨hx, hb, hml, hown, hT⟩ (x_B_count_a l hl0 D cA ad t (kap7 hap) σ wh n0 n1 n2 n3 n4 n5) (kCV 1 hT ml_L_38 mi_B_count ⟨Nat.le_of_ble_eq_true rfl, Nat.le_of_ble_eq_true rfl⟩) (xpreV hK hP7 hZ7 hX) rfl rfl hl.1 rfl (lv_room (Nat.le_of_ble_eq_true rfl)) d_L_count_4 ⟨Nat.le_of_ble_eq_true rfl, Nat.le_of_ble_eq_true rfl⟩) hS (fun ce q9 H1 locs1 hz hq hS hce hcv hcl => ?_)
  refine vx_catch (own := R_L) (name := kNSE) (E := kNSE) hown [] ⟨0, 9, 12, 13⟩ [] (vx_table (x := y_B_write) (hh := [(0, 9, 12, 13)]) B (hT _ wc_L_count)) (fun _ h => nomatch h) (by decide) (by decide) (hT _ cl_L_13) (hT _ ca_n) hce hcv hcl ?_
  refine W.eq (g2 := F0 m 12 ls [.ref q9]) rfl ?_
  refine lv_astore_n (lv' := [(3, .ref q9), (0, .ref (ad 0)), (1, .int wh), (2, .ref (ad 7))]) hx hb d_L_count_12 rfl hl (by decide) rfl (fun ls hl => ?_)
  refine lv_iconst (v := (1 : Int32)) hx hb d_L_count_13 (by decide) ?_
  exact W.iret (v := (1 : Int32)) hx hb hr (fun t ht hW => ⟨rfl, by rw [ht]; exact kP_same hP hq, hS.F ht⟩) hS.2.2 d_L_count_14

set_option maxRecDepth 100000 in
set_option maxHeartbeats 4000000 in
theorem h_count_g (l : Launch) (hl0 : l.stackTraces = false) (D : va_G) (cA ad t : Nat → Nat) (hap : kap 8 ad) (σ : Nat → Nat → Int32) (f : Nat → Int64) (wh : Int32) (h1 : vp_in wh 6) : Met l y_L_count w_L_count ({ frames := 7, cells := 1, slots := 6, locals := 170 } : Room) (va_Pc [.ref (ad 0), .int wh, .ref (ad 7)] (lPre D cA ad t σ f)) (kQi D (bo cA ad σ (vp_updL f 0 ((f_B_count σ wh)).toInt64)) (kA 8 ad) (0 : Int32)) 1 6 (kA 8 ad) := by
  refine va_MetW (cc := b_L_count) (maxL := 4) (ret := some .int) (hh := [(0, 9, 12, 13)]) (by decide) rfl ?_
  intro p e s m args below meth c s₁ B hml hv
  obtain ⟨rfl, hP, hK, hZ, hX, hN9⟩ := hv
  have hx := B.exec
  have hb := B.bytes
  have hr := B.returns
  have hT : ∀ w ∈ TB, w.before ([.ref (ad 0), .int wh, .ref (ad 7)] : List Value).toArray s = true := fun w h => atoms_spec (ws := w_L_count) B.pre w (List.mem_cons_of_mem _ h)
  have hown : s.vm.findClass R_L = some m.cls := findClass_of_methodNamed B.named
  have hS : va_S (kA 8 ad) s.heap s.heap [] := va_S.rf
  have hP7 := bo_7 hP
  have hZ7 : kZ (kA 7 ad) t s := hZ.narrow fun q h => kA78 h
  have hl := lv_entry ([.ref (ad 0), .int wh, .ref (ad 7)]) (n := 4) (Nat.le_of_ble_eq_true rfl)
  rw [lg_entry_eq]
  generalize (lg_sl ([.ref (ad 0), .int wh, .ref (ad 7)]) ++ List.replicate (4 - (lg_sl ([.ref (ad 0), .int wh, .ref (ad 7)])).length) Slot.unset).toArray = ls at hl ⊢
  have hl : lv_has ls 4 [(0, .ref (ad 0)), (1, .int wh), (2, .ref (ad 7))] := hl
  refine lv_aload_n hx hb d_L_count_0 rfl (lv_at hl 2 rfl) ?_
  refine lv_iconst (v := (0 : Int32)) hx hb d_L_count_1 (by decide) ?_
  refine lv_aload_n hx hb d_L_count_2 rfl (lv_at hl 0 rfl) ?_
  refine lv_iload_n hx hb d_L_count_3 rfl (lv_at hl 1 rfl) ?_
  refine vp_callSi (va_Run.run (va_runV (As := [.int wh]) (rest := [.int 0, .ref (ad 7)]) ⟨hx, hb, hml, hown, hT⟩ (c_B_count l D cA ad t (kap7 hap) σ wh h1) (kCV 1 hT ml_L_38 mi_B_count ⟨Nat.le_of_ble_eq_true rfl, Nat.le_of_ble_eq_true rfl⟩) (bpreV hK hP7 hZ7 (va_S.rf (A := kA 7 ad))) rfl rfl hl.1 rfl (lv_room (Nat.le_of_ble_eq_true rfl)) d_L_count_4 ⟨Nat.le_of_ble_eq_true rfl, Nat.le_of_ble_eq_true rfl⟩)) (fun r9 e9 => ?_)
  subst e9
  have hP8 := hP
  refine lv_i2l (v := ((f_B_count σ wh)).toInt64) hx hb d_L_count_7 rfl ?_
  refine va_last (D := D) (x := ((f_B_count σ wh)).toInt64) hx hb hK hP8 (kD hap rfl) hS 7 2 rfl rfl (kin (by decide)) d_L_count_8 (fun H2 locs2 hP2 hD2 hS => ?_)
  have hP9 := kst (bo_s ..) hP2
  refine lv_goto (tgt := 15) hx hb d_L_count_9 (by decide) ?_
  refine lv_iconst (v := (0 : Int32)) hx hb d_L_count_15 (by decide) ?_
  refine W.widen (k := 1) (n := 6) (by decide) (by decide) ?_
  exact W.iret (v := (0 : Int32)) hx hb hr (fun t ht hW => ⟨rfl, by rw [ht]; exact hP9, hS.F ht⟩) hS.2.2 d_L_count_16
