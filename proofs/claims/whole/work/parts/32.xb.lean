set_option maxRecDepth 100000 in
set_option maxHeartbeats 4000000 in
theorem x_B_write_a (l : Launch) (hl0 : l.stackTraces = false) (D : va_G) (cA ad t : Nat → Nat) (hap : kap 7 ad) (σ : Nat → Nat → Int32) (r : Int32) (v : Int32) (h1 : r < 0) : vx_Met l y_B_write w_B_write ({ frames := 6, cells := 1, slots := 6, locals := 81 } : Room) (va_Pc [.ref (ad 0), .int r, .int v] (fun U => bPre D cA ad t σ U ∧ xPre U)) (fun _ _ _ _ => False) (kXC kNSE) 1 6 (fun _ => False) := by
  refine vx_ofW (cc := b_B_write) (maxL := 3) (ret := none) (by decide) rfl ?_
  intro p e s m args below meth c s₁ B hml hno hv
  obtain ⟨rfl, ⟨hP, hK, hZ⟩, hXU, hXN⟩ := hv
  have hx := B.exec
  have hb := B.bytes
  have hr := B.returns
  have hlocks := B.notSynchronized
  have hT : ∀ w ∈ TB, w.before ([.ref (ad 0), .int r, .int v] : List Value).toArray s = true := fun w h => atoms_spec (ws := w_B_write) B.pre w (List.mem_cons_of_mem _ h)
  have hown : s.vm.findClass R_B = some m.cls := findClass_of_methodNamed B.named
  have hS : va_S (kA 7 ad) s.heap s.heap [] := va_S.rf
  have hl := lv_entry ([.ref (ad 0), .int r, .int v]) (n := 3) (Nat.le_of_ble_eq_true rfl)
  rw [lg_entry_eq]
  generalize (lg_sl ([.ref (ad 0), .int r, .int v]) ++ List.replicate (3 - (lg_sl ([.ref (ad 0), .int r, .int v])).length) Slot.unset).toArray = ls at hl ⊢
  have hl : lv_has ls 3 [(0, .ref (ad 0)), (1, .int r), (2, .int v)] := hl
  refine lv_iload_n hx hb d_B_write_0 rfl (lv_at hl 1 rfl) ?_
  refine lv_if_lt (tgt := 10) hx hb d_B_write_1 (by decide) (fun _ => ?_) (fun h9 => absurd h1 h9)
  exact vx_throw0 (XC := kXC kNSE) (cls := kNSE) (names := kSup) (A := fun _ => False) (ik := 32) (ic := 34) (rest := []) hx hb hl0 hown (by decide +kernel) (by decide +kernel) (hT _ (kat_n _ List.mem_cons_self)) (hT _ (kat_n _ (List.mem_cons_of_mem _ List.mem_cons_self))) (fun w h => hT w (kat_n w (List.mem_cons_of_mem _ (List.mem_cons_of_mem _ h)))) kog_n hXU hXN va_S.rf (by rw [hml]; exact hl.1) d_B_write_10 d_B_write_13 d_B_write_14 d_B_write_17 (fun x hx => (hno x hx).elim) (by decide) (by decide) (by decide) (by decide) hlocks (fun t _ hs hq => ⟨rfl, hs, hq⟩) (fun _ h => nomatch h) (by decide) (by decide)

set_option maxRecDepth 100000 in
set_option maxHeartbeats 4000000 in
theorem x_B_write_b (l : Launch) (hl0 : l.stackTraces = false) (D : va_G) (cA ad t : Nat → Nat) (hap : kap 7 ad) (σ : Nat → Nat → Int32) (r : Int32) (v : Int32) (h1 : ¬ r < 0) (h2 : ¬ r < (36 : Int32)) : vx_Met l y_B_write w_B_write ({ frames := 6, cells := 1, slots := 6, locals := 81 } : Room) (va_Pc [.ref (ad 0), .int r, .int v] (fun U => bPre D cA ad t σ U ∧ xPre U)) (fun _ _ _ _ => False) (kXC kNSE) 1 6 (fun _ => False) := by
  refine vx_ofW (cc := b_B_write) (maxL := 3) (ret := none) (by decide) rfl ?_
  intro p e s m args below meth c s₁ B hml hno hv
  obtain ⟨rfl, ⟨hP, hK, hZ⟩, hXU, hXN⟩ := hv
  have hx := B.exec
  have hb := B.bytes
  have hr := B.returns
  have hlocks := B.notSynchronized
  have hT : ∀ w ∈ TB, w.before ([.ref (ad 0), .int r, .int v] : List Value).toArray s = true := fun w h => atoms_spec (ws := w_B_write) B.pre w (List.mem_cons_of_mem _ h)
  have hown : s.vm.findClass R_B = some m.cls := findClass_of_methodNamed B.named
  have hS : va_S (kA 7 ad) s.heap s.heap [] := va_S.rf
  have hl := lv_entry ([.ref (ad 0), .int r, .int v]) (n := 3) (Nat.le_of_ble_eq_true rfl)
  rw [lg_entry_eq]
  generalize (lg_sl ([.ref (ad 0), .int r, .int v]) ++ List.replicate (3 - (lg_sl ([.ref (ad 0), .int r, .int v])).length) Slot.unset).toArray = ls at hl ⊢
  have hl : lv_has ls 3 [(0, .ref (ad 0)), (1, .int r), (2, .int v)] := hl
  refine lv_iload_n hx hb d_B_write_0 rfl (lv_at hl 1 rfl) ?_
  refine lv_if_lt (tgt := 10) hx hb d_B_write_1 (by decide) (fun h9 => absurd h9 h1) (fun _ => ?_)
  refine lv_iload_n hx hb d_B_write_4 rfl (lv_at hl 1 rfl) ?_
  refine lv_bipush (v := (36 : Int32)) hx hb d_B_write_5 (by decide) ?_
  refine lv_icmp_lt (tgt := 18) hx hb d_B_write_7 (by decide) (fun h9 => absurd h9 h2) (fun _ => ?_)
  exact vx_throw0 (XC := kXC kNSE) (cls := kNSE) (names := kSup) (A := fun _ => False) (ik := 32) (ic := 34) (rest := []) hx hb hl0 hown (by decide +kernel) (by decide +kernel) (hT _ (kat_n _ List.mem_cons_self)) (hT _ (kat_n _ (List.mem_cons_of_mem _ List.mem_cons_self))) (fun w h => hT w (kat_n w (List.mem_cons_of_mem _ (List.mem_cons_of_mem _ h)))) kog_n hXU hXN va_S.rf (by rw [hml]; exact hl.1) d_B_write_10 d_B_write_13 d_B_write_14 d_B_write_17 (fun x hx => (hno x hx).elim) (by decide) (by decide) (by decide) (by decide) hlocks (fun t _ hs hq => ⟨rfl, hs, hq⟩) (fun _ h => nomatch h) (by decide) (by decide)

set_option maxRecDepth 100000 in
set_option maxHeartbeats 4000000 in
theorem x_B_write_c (l : Launch) (hl0 : l.stackTraces = false) (D : va_G) (cA ad t : Nat → Nat) (hap : kap 7 ad) (σ : Nat → Nat → Int32) (r : Int32) (v : Int32) (h1 : ¬ r < 0) (h2 : r < (36 : Int32)) (h3 : v < 0) : vx_Met l y_B_write w_B_write ({ frames := 6, cells := 1, slots := 6, locals := 81 } : Room) (va_Pc [.ref (ad 0), .int r, .int v] (fun U => bPre D cA ad t σ U ∧ xPre U)) (fun _ _ _ _ => False) (kXC kIAE) 1 6 (fun _ => False) := by
  refine vx_ofW (cc := b_B_write) (maxL := 3) (ret := none) (by decide) rfl ?_
  intro p e s m args below meth c s₁ B hml hno hv
  obtain ⟨rfl, ⟨hP, hK, hZ⟩, hXU, hXN⟩ := hv
  have hx := B.exec
  have hb := B.bytes
  have hr := B.returns
  have hlocks := B.notSynchronized
  have hT : ∀ w ∈ TB, w.before ([.ref (ad 0), .int r, .int v] : List Value).toArray s = true := fun w h => atoms_spec (ws := w_B_write) B.pre w (List.mem_cons_of_mem _ h)
  have hown : s.vm.findClass R_B = some m.cls := findClass_of_methodNamed B.named
  have hS : va_S (kA 7 ad) s.heap s.heap [] := va_S.rf
  have hl := lv_entry ([.ref (ad 0), .int r, .int v]) (n := 3) (Nat.le_of_ble_eq_true rfl)
  rw [lg_entry_eq]
  generalize (lg_sl ([.ref (ad 0), .int r, .int v]) ++ List.replicate (3 - (lg_sl ([.ref (ad 0), .int r, .int v])).length) Slot.unset).toArray = ls at hl ⊢
  have hl : lv_has ls 3 [(0, .ref (ad 0)), (1, .int r), (2, .int v)] := hl
  refine lv_iload_n hx hb d_B_write_0 rfl (lv_at hl 1 rfl) ?_
  refine lv_if_lt (tgt := 10) hx hb d_B_write_1 (by decide) (fun h9 => absurd h9 h1) (fun _ => ?_)
  refine lv_iload_n hx hb d_B_write_4 rfl (lv_at hl 1 rfl) ?_
  refine lv_bipush (v := (36 : Int32)) hx hb d_B_write_5 (by decide) ?_
  refine lv_icmp_lt (tgt := 18) hx hb d_B_write_7 (by decide) (fun _ => ?_) (fun h9 => absurd h2 h9)
  refine lv_iload_n hx hb d_B_write_18 rfl (lv_at hl 2 rfl) ?_
  refine lv_if_lt (tgt := 29) hx hb d_B_write_19 (by decide) (fun _ => ?_) (fun h9 => absurd h3 h9)
  exact vx_throw0 (XC := kXC kIAE) (cls := kIAE) (names := kSup) (A := fun _ => False) (ik := 35) (ic := 37) (rest := []) hx hb hl0 hown (by decide +kernel) (by decide +kernel) (hT _ (kat_i _ List.mem_cons_self)) (hT _ (kat_i _ (List.mem_cons_of_mem _ List.mem_cons_self))) (fun w h => hT w (kat_i w (List.mem_cons_of_mem _ (List.mem_cons_of_mem _ h)))) kog_i hXU hXN va_S.rf (by rw [hml]; exact hl.1) d_B_write_29 d_B_write_32 d_B_write_33 d_B_write_36 (fun x hx => (hno x hx).elim) (by decide) (by decide) (by decide) (by decide) hlocks (fun t _ hs hq => ⟨rfl, hs, hq⟩) (fun _ h => nomatch h) (by decide) (by decide)

set_option maxRecDepth 100000 in
set_option maxHeartbeats 4000000 in
theorem x_B_write_d (l : Launch) (hl0 : l.stackTraces = false) (D : va_G) (cA ad t : Nat → Nat) (hap : kap 7 ad) (σ : Nat → Nat → Int32) (r : Int32) (v : Int32) (h1 : ¬ r < 0) (h2 : r < (36 : Int32)) (h3 : ¬ v < 0) (h4 : ¬ v ≤ (255 : Int32)) : vx_Met l y_B_write w_B_write ({ frames := 6, cells := 1, slots := 6, locals := 81 } : Room) (va_Pc [.ref (ad 0), .int r, .int v] (fun U => bPre D cA ad t σ U ∧ xPre U)) (fun _ _ _ _ => False) (kXC kIAE) 1 6 (fun _ => False) := by
  refine vx_ofW (cc := b_B_write) (maxL := 3) (ret := none) (by decide) rfl ?_
  intro p e s m args below meth c s₁ B hml hno hv
  obtain ⟨rfl, ⟨hP, hK, hZ⟩, hXU, hXN⟩ := hv
  have hx := B.exec
  have hb := B.bytes
  have hr := B.returns
  have hlocks := B.notSynchronized
  have hT : ∀ w ∈ TB, w.before ([.ref (ad 0), .int r, .int v] : List Value).toArray s = true := fun w h => atoms_spec (ws := w_B_write) B.pre w (List.mem_cons_of_mem _ h)
  have hown : s.vm.findClass R_B = some m.cls := findClass_of_methodNamed B.named
  have hS : va_S (kA 7 ad) s.heap s.heap [] := va_S.rf
  have hl := lv_entry ([.ref (ad 0), .int r, .int v]) (n := 3) (Nat.le_of_ble_eq_true rfl)
  rw [lg_entry_eq]
  generalize (lg_sl ([.ref (ad 0), .int r, .int v]) ++ List.replicate (3 - (lg_sl ([.ref (ad 0), .int r, .int v])).length) Slot.unset).toArray = ls at hl ⊢
  have hl : lv_has ls 3 [(0, .ref (ad 0)), (1, .int r), (2, .int v)] := hl
  refine lv_iload_n hx hb d_B_write_0 rfl (lv_at hl 1 rfl) ?_
  refine lv_if_lt (tgt := 10) hx hb d_B_write_1 (by decide) (fun h9 => absurd h9 h1) (fun _ => ?_)
  refine lv_iload_n hx hb d_B_write_4 rfl (lv_at hl 1 rfl) ?_
  refine lv_bipush (v := (36 : Int32)) hx hb d_B_write_5 (by decide) ?_
  refine lv_icmp_lt (tgt := 18) hx hb d_B_write_7 (by decide) (fun _ => ?_) (fun h9 => absurd h2 h9)
  refine lv_iload_n hx hb d_B_write_18 rfl (lv_at hl 2 rfl) ?_
  refine lv_if_lt (tgt := 29) hx hb d_B_write_19 (by decide) (fun h9 => absurd h9 h3) (fun _ => ?_)
  refine lv_iload_n hx hb d_B_write_22 rfl (lv_at hl 2 rfl) ?_
  refine lv_sipush (v := (255 : Int32)) hx hb d_B_write_23 (by decide) ?_
  refine lv_icmp_le (tgt := 37) hx hb d_B_write_26 (by decide) (fun h9 => absurd h9 h4) (fun _ => ?_)
  exact vx_throw0 (XC := kXC kIAE) (cls := kIAE) (names := kSup) (A := fun _ => False) (ik := 35) (ic := 37) (rest := []) hx hb hl0 hown (by decide +kernel) (by decide +kernel) (hT _ (kat_i _ List.mem_cons_self)) (hT _ (kat_i _ (List.mem_cons_of_mem _ List.mem_cons_self))) (fun w h => hT w (kat_i w (List.mem_cons_of_mem _ (List.mem_cons_of_mem _ h)))) kog_i hXU hXN va_S.rf (by rw [hml]; exact hl.1) d_B_write_29 d_B_write_32 d_B_write_33 d_B_write_36 (fun x hx => (hno x hx).elim) (by decide) (by decide) (by decide) (by decide) hlocks (fun t _ hs hq => ⟨rfl, hs, hq⟩) (fun _ h => nomatch h) (by decide) (by decide)

set_option maxRecDepth 100000 in
set_option maxHeartbeats 4000000 in
theorem x_B_clocks_a (l : Launch) (hl0 : l.stackTraces = false) (D : va_G) (cA ad t : Nat → Nat) (hap : kap 7 ad) (σ : Nat → Nat → Int32) (n : Int32) (h1 : n < 0) : vx_Met l y_B_clocks w_B_clocks ({ frames := 6, cells := 1, slots := 6, locals := 81 } : Room) (va_Pc [.ref (ad 0), .int n] (fun U => bPre D cA ad t σ U ∧ xPre U)) (fun _ _ _ _ => False) (kXC kIAE) 1 6 (fun _ => False) := by
  refine vx_ofW (cc := b_B_clocks) (maxL := 2) (ret := (some .int)) (by decide) rfl ?_
  intro p e s m args below meth c s₁ B hml hno hv
  obtain ⟨rfl, ⟨hP, hK, hZ⟩, hXU, hXN⟩ := hv
  have hx := B.exec
  have hb := B.bytes
  have hr := B.returns
  have hlocks := B.notSynchronized
  have hT : ∀ w ∈ TB, w.before ([.ref (ad 0), .int n] : List Value).toArray s = true := fun w h => atoms_spec (ws := w_B_clocks) B.pre w (List.mem_cons_of_mem _ h)
  have hown : s.vm.findClass R_B = some m.cls := findClass_of_methodNamed B.named
  have hS : va_S (kA 7 ad) s.heap s.heap [] := va_S.rf
  have hl := lv_entry ([.ref (ad 0), .int n]) (n := 2) (Nat.le_of_ble_eq_true rfl)
  rw [lg_entry_eq]
  generalize (lg_sl ([.ref (ad 0), .int n]) ++ List.replicate (2 - (lg_sl ([.ref (ad 0), .int n])).length) Slot.unset).toArray = ls at hl ⊢
  have hl : lv_has ls 2 [(0, .ref (ad 0)), (1, .int n)] := hl
  refine lv_iload_n hx hb d_B_clocks_0 rfl (lv_at hl 1 rfl) ?_
  refine lv_if_lt (tgt := 11) hx hb d_B_clocks_1 (by decide) (fun _ => ?_) (fun h9 => absurd h1 h9)
  exact vx_throw0 (XC := kXC kIAE) (cls := kIAE) (names := kSup) (A := fun _ => False) (ik := 35) (ic := 37) (rest := []) hx hb hl0 hown (by decide +kernel) (by decide +kernel) (hT _ (kat_i _ List.mem_cons_self)) (hT _ (kat_i _ (List.mem_cons_of_mem _ List.mem_cons_self))) (fun w h => hT w (kat_i w (List.mem_cons_of_mem _ (List.mem_cons_of_mem _ h)))) kog_i hXU hXN va_S.rf (by rw [hml]; exact hl.1) d_B_clocks_11 d_B_clocks_14 d_B_clocks_15 d_B_clocks_18 (fun x hx => (hno x hx).elim) (by decide) (by decide) (by decide) (by decide) hlocks (fun t _ hs hq => ⟨rfl, hs, hq⟩) (fun _ h => nomatch h) (by decide) (by decide)

set_option maxRecDepth 100000 in
set_option maxHeartbeats 4000000 in
theorem x_B_clocks_b (l : Launch) (hl0 : l.stackTraces = false) (D : va_G) (cA ad t : Nat → Nat) (hap : kap 7 ad) (σ : Nat → Nat → Int32) (n : Int32) (h1 : ¬ n < 0) (h2 : ¬ n ≤ (2000 : Int32)) : vx_Met l y_B_clocks w_B_clocks ({ frames := 6, cells := 1, slots := 6, locals := 81 } : Room) (va_Pc [.ref (ad 0), .int n] (fun U => bPre D cA ad t σ U ∧ xPre U)) (fun _ _ _ _ => False) (kXC kIAE) 1 6 (fun _ => False) := by
  refine vx_ofW (cc := b_B_clocks) (maxL := 2) (ret := (some .int)) (by decide) rfl ?_
  intro p e s m args below meth c s₁ B hml hno hv
  obtain ⟨rfl, ⟨hP, hK, hZ⟩, hXU, hXN⟩ := hv
  have hx := B.exec
  have hb := B.bytes
  have hr := B.returns
  have hlocks := B.notSynchronized
  have hT : ∀ w ∈ TB, w.before ([.ref (ad 0), .int n] : List Value).toArray s = true := fun w h => atoms_spec (ws := w_B_clocks) B.pre w (List.mem_cons_of_mem _ h)
  have hown : s.vm.findClass R_B = some m.cls := findClass_of_methodNamed B.named
  have hS : va_S (kA 7 ad) s.heap s.heap [] := va_S.rf
  have hl := lv_entry ([.ref (ad 0), .int n]) (n := 2) (Nat.le_of_ble_eq_true rfl)
  rw [lg_entry_eq]
  generalize (lg_sl ([.ref (ad 0), .int n]) ++ List.replicate (2 - (lg_sl ([.ref (ad 0), .int n])).length) Slot.unset).toArray = ls at hl ⊢
  have hl : lv_has ls 2 [(0, .ref (ad 0)), (1, .int n)] := hl
  refine lv_iload_n hx hb d_B_clocks_0 rfl (lv_at hl 1 rfl) ?_
  refine lv_if_lt (tgt := 11) hx hb d_B_clocks_1 (by decide) (fun h9 => absurd h9 h1) (fun _ => ?_)
  refine lv_iload_n hx hb d_B_clocks_4 rfl (lv_at hl 1 rfl) ?_
  refine lv_sipush (v := (2000 : Int32)) hx hb d_B_clocks_5 (by decide) ?_
  refine lv_icmp_le (tgt := 19) hx hb d_B_clocks_8 (by decide) (fun h9 => absurd h9 h2) (fun _ => ?_)
  exact vx_throw0 (XC := kXC kIAE) (cls := kIAE) (names := kSup) (A := fun _ => False) (ik := 35) (ic := 37) (rest := []) hx hb hl0 hown (by decide +kernel) (by decide +kernel) (hT _ (kat_i _ List.mem_cons_self)) (hT _ (kat_i _ (List.mem_cons_of_mem _ List.mem_cons_self))) (fun w h => hT w (kat_i w (List.mem_cons_of_mem _ (List.mem_cons_of_mem _ h)))) kog_i hXU hXN va_S.rf (by rw [hml]; exact hl.1) d_B_clocks_11 d_B_clocks_14 d_B_clocks_15 d_B_clocks_18 (fun x hx => (hno x hx).elim) (by decide) (by decide) (by decide) (by decide) hlocks (fun t _ hs hq => ⟨rfl, hs, hq⟩) (fun _ h => nomatch h) (by decide) (by decide)

set_option maxRecDepth 100000 in
set_option maxHeartbeats 4000000 in
theorem x_B_pixel_a (l : Launch) (hl0 : l.stackTraces = false) (D : va_G) (cA ad t : Nat → Nat) (hap : kap 7 ad) (σ : Nat → Nat → Int32) (x : Int32) (h1 : (f_B_isPixel x) = 0) : vx_Met l y_B_pixel w_B_pixel ({ frames := 6, cells := 1, slots := 6, locals := 81 } : Room) (va_Pc [.ref (ad 0), .int x] (fun U => bPre D cA ad t σ U ∧ xPre U)) (fun _ _ _ _ => False) (kXC kNSE) 1 6 (fun _ => False) := by
  refine vx_ofW (cc := b_B_pixel) (maxL := 2) (ret := (some .int)) (by decide) rfl ?_
  intro p e s m args below meth c s₁ B hml hno hv
  obtain ⟨rfl, ⟨hP, hK, hZ⟩, hXU, hXN⟩ := hv
  have hx := B.exec
  have hb := B.bytes
  have hr := B.returns
  have hlocks := B.notSynchronized
  have hT : ∀ w ∈ TB, w.before ([.ref (ad 0), .int x] : List Value).toArray s = true := fun w h => atoms_spec (ws := w_B_pixel) B.pre w (List.mem_cons_of_mem _ h)
  have hown : s.vm.findClass R_B = some m.cls := findClass_of_methodNamed B.named
  have hS : va_S (kA 7 ad) s.heap s.heap [] := va_S.rf
  have hl := lv_entry ([.ref (ad 0), .int x]) (n := 2) (Nat.le_of_ble_eq_true rfl)
  rw [lg_entry_eq]
  generalize (lg_sl ([.ref (ad 0), .int x]) ++ List.replicate (2 - (lg_sl ([.ref (ad 0), .int x])).length) Slot.unset).toArray = ls at hl ⊢
  have hl : lv_has ls 2 [(0, .ref (ad 0)), (1, .int x)] := hl
  refine lv_iload_n hx hb d_B_pixel_0 rfl (lv_at hl 1 rfl) ?_
  refine vp_callSi (va_Run.run (va_runS (As := [.int x]) (rest := []) ⟨hx, hb, hml, hown, hT⟩ (c_B_isPixel l D cA ad t hap σ x) (kCS 1 hT ml_B_53 ms_B_isPixel ⟨Nat.le_of_ble_eq_true rfl, Nat.le_of_ble_eq_true rfl⟩) (bpreS hK hP hZ hS) rfl rfl hl.1 rfl (lv_room (Nat.le_of_ble_eq_true rfl)) d_B_pixel_1 ⟨Nat.le_of_ble_eq_true rfl, Nat.le_of_ble_eq_true rfl⟩)) (fun r9 e9 => ?_)
  subst e9
  refine lv_if_ne (tgt := 15) hx hb d_B_pixel_4 (by decide) (fun h9 => absurd h1 h9) (fun _ => ?_)
  exact vx_throw0 (XC := kXC kNSE) (cls := kNSE) (names := kSup) (A := fun _ => False) (ik := 32) (ic := 34) (rest := []) hx hb hl0 hown (by decide +kernel) (by decide +kernel) (hT _ (kat_n _ List.mem_cons_self)) (hT _ (kat_n _ (List.mem_cons_of_mem _ List.mem_cons_self))) (fun w h => hT w (kat_n w (List.mem_cons_of_mem _ (List.mem_cons_of_mem _ h)))) kog_n hXU hXN va_S.rf (by rw [hml]; exact hl.1) d_B_pixel_7 d_B_pixel_10 d_B_pixel_11 d_B_pixel_14 (fun x hx => (hno x hx).elim) (by decide) (by decide) (by decide) (by decide) hlocks (fun t _ hs hq => ⟨rfl, hs, hq⟩) (fun _ h => nomatch h) (by decide) (by decide)

set_option maxRecDepth 100000 in
set_option maxHeartbeats 4000000 in
theorem x_B_met_a (l : Launch) (hl0 : l.stackTraces = false) (D : va_G) (cA ad t : Nat → Nat) (hap : kap 7 ad) (σ : Nat → Nat → Int32) (a : Int32) (o : Int32) (h1 : (f_B_isObject a) = 0) : vx_Met l y_B_met w_B_met ({ frames := 6, cells := 1, slots := 6, locals := 81 } : Room) (va_Pc [.ref (ad 0), .int a, .int o] (fun U => bPre D cA ad t σ U ∧ xPre U)) (fun _ _ _ _ => False) (kXC kNSE) 1 6 (fun _ => False) := by
  refine vx_ofW (cc := b_B_met) (maxL := 3) (ret := (some .boolean)) (by decide) rfl ?_
  intro p e s m args below meth c s₁ B hml hno hv
  obtain ⟨rfl, ⟨hP, hK, hZ⟩, hXU, hXN⟩ := hv
  have hx := B.exec
  have hb := B.bytes
  have hr := B.returns
  have hlocks := B.notSynchronized
  have hT : ∀ w ∈ TB, w.before ([.ref (ad 0), .int a, .int o] : List Value).toArray s = true := fun w h => atoms_spec (ws := w_B_met) B.pre w (List.mem_cons_of_mem _ h)
  have hown : s.vm.findClass R_B = some m.cls := findClass_of_methodNamed B.named
  have hS : va_S (kA 7 ad) s.heap s.heap [] := va_S.rf
  have hl := lv_entry ([.ref (ad 0), .int a, .int o]) (n := 3) (Nat.le_of_ble_eq_true rfl)
  rw [lg_entry_eq]
  generalize (lg_sl ([.ref (ad 0), .int a, .int o]) ++ List.replicate (3 - (lg_sl ([.ref (ad 0), .int a, .int o])).length) Slot.unset).toArray = ls at hl ⊢
  have hl : lv_has ls 3 [(0, .ref (ad 0)), (1, .int a), (2, .int o)] := hl
  refine lv_iload_n hx hb d_B_met_0 rfl (lv_at hl 1 rfl) ?_
  refine vp_callSi (va_Run.run (va_runS (As := [.int a]) (rest := []) ⟨hx, hb, hml, hown, hT⟩ (c_B_isObject l D cA ad t hap σ a) (kCS 1 hT ml_B_57 ms_B_isObject ⟨Nat.le_of_ble_eq_true rfl, Nat.le_of_ble_eq_true rfl⟩) (bpreS hK hP hZ hS) rfl rfl hl.1 rfl (lv_room (Nat.le_of_ble_eq_true rfl)) d_B_met_1 ⟨Nat.le_of_ble_eq_true rfl, Nat.le_of_ble_eq_true rfl⟩)) (fun r9 e9 => ?_)
  subst e9
  refine lv_if_eq (tgt := 19) hx hb d_B_met_4 (by decide) (fun _ => ?_) (fun h9 => absurd h1 h9)
  exact vx_throw0 (XC := kXC kNSE) (cls := kNSE) (names := kSup) (A := fun _ => False) (ik := 32) (ic := 34) (rest := []) hx hb hl0 hown (by decide +kernel) (by decide +kernel) (hT _ (kat_n _ List.mem_cons_self)) (hT _ (kat_n _ (List.mem_cons_of_mem _ List.mem_cons_self))) (fun w h => hT w (kat_n w (List.mem_cons_of_mem _ (List.mem_cons_of_mem _ h)))) kog_n hXU hXN va_S.rf (by rw [hml]; exact hl.1) d_B_met_19 d_B_met_22 d_B_met_23 d_B_met_26 (fun x hx => (hno x hx).elim) (by decide) (by decide) (by decide) (by decide) hlocks (fun t _ hs hq => ⟨rfl, hs, hq⟩) (fun _ h => nomatch h) (by decide) (by decide)

set_option maxRecDepth 100000 in
set_option maxHeartbeats 4000000 in
theorem x_B_met_b (l : Launch) (hl0 : l.stackTraces = false) (D : va_G) (cA ad t : Nat → Nat) (hap : kap 7 ad) (σ : Nat → Nat → Int32) (a : Int32) (o : Int32) (h1 : ¬ (f_B_isObject a) = 0) (h2 : (f_B_isObject o) = 0) : vx_Met l y_B_met w_B_met ({ frames := 6, cells := 1, slots := 6, locals := 81 } : Room) (va_Pc [.ref (ad 0), .int a, .int o] (fun U => bPre D cA ad t σ U ∧ xPre U)) (fun _ _ _ _ => False) (kXC kNSE) 1 6 (fun _ => False) := by
  refine vx_ofW (cc := b_B_met) (maxL := 3) (ret := (some .boolean)) (by decide) rfl ?_
  intro p e s m args below meth c s₁ B hml hno hv
  obtain ⟨rfl, ⟨hP, hK, hZ⟩, hXU, hXN⟩ := hv
  have hx := B.exec
  have hb := B.bytes
  have hr := B.returns
  have hlocks := B.notSynchronized
  have hT : ∀ w ∈ TB, w.before ([.ref (ad 0), .int a, .int o] : List Value).toArray s = true := fun w h => atoms_spec (ws := w_B_met) B.pre w (List.mem_cons_of_mem _ h)
  have hown : s.vm.findClass R_B = some m.cls := findClass_of_methodNamed B.named
  have hS : va_S (kA 7 ad) s.heap s.heap [] := va_S.rf
  have hl := lv_entry ([.ref (ad 0), .int a, .int o]) (n := 3) (Nat.le_of_ble_eq_true rfl)
  rw [lg_entry_eq]
  generalize (lg_sl ([.ref (ad 0), .int a, .int o]) ++ List.replicate (3 - (lg_sl ([.ref (ad 0), .int a, .int o])).length) Slot.unset).toArray = ls at hl ⊢
  have hl : lv_has ls 3 [(0, .ref (ad 0)), (1, .int a), (2, .int o)] := hl
  refine lv_iload_n hx hb d_B_met_0 rfl (lv_at hl 1 rfl) ?_
  refine vp_callSi (va_Run.run (va_runS (As := [.int a]) (rest := []) ⟨hx, hb, hml, hown, hT⟩ (c_B_isObject l D cA ad t hap σ a) (kCS 1 hT ml_B_57 ms_B_isObject ⟨Nat.le_of_ble_eq_true rfl, Nat.le_of_ble_eq_true rfl⟩) (bpreS hK hP hZ hS) rfl rfl hl.1 rfl (lv_room (Nat.le_of_ble_eq_true rfl)) d_B_met_1 ⟨Nat.le_of_ble_eq_true rfl, Nat.le_of_ble_eq_true rfl⟩)) (fun r9 e9 => ?_)
  subst e9
  refine lv_if_eq (tgt := 19) hx hb d_B_met_4 (by decide) (fun h9 => absurd h9 h1) (fun _ => ?_)
  refine lv_iload_n hx hb d_B_met_7 rfl (lv_at hl 2 rfl) ?_
  refine vp_callSi (va_Run.run (va_runS (As := [.int o]) (rest := []) ⟨hx, hb, hml, hown, hT⟩ (c_B_isObject l D cA ad t hap σ o) (kCS 1 hT ml_B_57 ms_B_isObject ⟨Nat.le_of_ble_eq_true rfl, Nat.le_of_ble_eq_true rfl⟩) (bpreS hK hP hZ hS) rfl rfl hl.1 rfl (lv_room (Nat.le_of_ble_eq_true rfl)) d_B_met_8 ⟨Nat.le_of_ble_eq_true rfl, Nat.le_of_ble_eq_true rfl⟩)) (fun r9 e9 => ?_)
  subst e9
  refine lv_if_eq (tgt := 19) hx hb d_B_met_11 (by decide) (fun _ => ?_) (fun h9 => absurd h2 h9)
  exact vx_throw0 (XC := kXC kNSE) (cls := kNSE) (names := kSup) (A := fun _ => False) (ik := 32) (ic := 34) (rest := []) hx hb hl0 hown (by decide +kernel) (by decide +kernel) (hT _ (kat_n _ List.mem_cons_self)) (hT _ (kat_n _ (List.mem_cons_of_mem _ List.mem_cons_self))) (fun w h => hT w (kat_n w (List.mem_cons_of_mem _ (List.mem_cons_of_mem _ h)))) kog_n hXU hXN va_S.rf (by rw [hml]; exact hl.1) d_B_met_19 d_B_met_22 d_B_met_23 d_B_met_26 (fun x hx => (hno x hx).elim) (by decide) (by decide) (by decide) (by decide) hlocks (fun t _ hs hq => ⟨rfl, hs, hq⟩) (fun _ h => nomatch h) (by decide) (by decide)

set_option maxRecDepth 100000 in
set_option maxHeartbeats 4000000 in
theorem x_B_met_c (l : Launch) (hl0 : l.stackTraces = false) (D : va_G) (cA ad t : Nat → Nat) (hap : kap 7 ad) (σ : Nat → Nat → Int32) (a : Int32) (o : Int32) (h1 : ¬ (f_B_isObject a) = 0) (h2 : ¬ (f_B_isObject o) = 0) (h3 : a = o) : vx_Met l y_B_met w_B_met ({ frames := 6, cells := 1, slots := 6, locals := 81 } : Room) (va_Pc [.ref (ad 0), .int a, .int o] (fun U => bPre D cA ad t σ U ∧ xPre U)) (fun _ _ _ _ => False) (kXC kNSE) 1 6 (fun _ => False) := by
  refine vx_ofW (cc := b_B_met) (maxL := 3) (ret := (some .boolean)) (by decide) rfl ?_
  intro p e s m args below meth c s₁ B hml hno hv
  obtain ⟨rfl, ⟨hP, hK, hZ⟩, hXU, hXN⟩ := hv
  have hx := B.exec
  have hb := B.bytes
  have hr := B.returns
  have hlocks := B.notSynchronized
  have hT : ∀ w ∈ TB, w.before ([.ref (ad 0), .int a, .int o] : List Value).toArray s = true := fun w h => atoms_spec (ws := w_B_met) B.pre w (List.mem_cons_of_mem _ h)
  have hown : s.vm.findClass R_B = some m.cls := findClass_of_methodNamed B.named
  have hS : va_S (kA 7 ad) s.heap s.heap [] := va_S.rf
  have hl := lv_entry ([.ref (ad 0), .int a, .int o]) (n := 3) (Nat.le_of_ble_eq_true rfl)
  rw [lg_entry_eq]
  generalize (lg_sl ([.ref (ad 0), .int a, .int o]) ++ List.replicate (3 - (lg_sl ([.ref (ad 0), .int a, .int o])).length) Slot.unset).toArray = ls at hl ⊢
  have hl : lv_has ls 3 [(0, .ref (ad 0)), (1, .int a), (2, .int o)] := hl
  refine lv_iload_n hx hb d_B_met_0 rfl (lv_at hl 1 rfl) ?_
  refine vp_callSi (va_Run.run (va_runS (As := [.int a]) (rest := []) ⟨hx, hb, hml, hown, hT⟩ (c_B_isObject l D cA ad t hap σ a) (kCS 1 hT ml_B_57 ms_B_isObject ⟨Nat.le_of_ble_eq_true rfl, Nat.le_of_ble_eq_true rfl⟩) (bpreS hK hP hZ hS) rfl rfl hl.1 rfl (lv_room (Nat.le_of_ble_eq_true rfl)) d_B_met_1 ⟨Nat.le_of_ble_eq_true rfl, Nat.le_of_ble_eq_true rfl⟩)) (fun r9 e9 => ?_)
  subst e9
  refine lv_if_eq (tgt := 19) hx hb d_B_met_4 (by decide) (fun h9 => absurd h9 h1) (fun _ => ?_)
  refine lv_iload_n hx hb d_B_met_7 rfl (lv_at hl 2 rfl) ?_
  refine vp_callSi (va_Run.run (va_runS (As := [.int o]) (rest := []) ⟨hx, hb, hml, hown, hT⟩ (c_B_isObject l D cA ad t hap σ o) (kCS 1 hT ml_B_57 ms_B_isObject ⟨Nat.le_of_ble_eq_true rfl, Nat.le_of_ble_eq_true rfl⟩) (bpreS hK hP hZ hS) rfl rfl hl.1 rfl (lv_room (Nat.le_of_ble_eq_true rfl)) d_B_met_8 ⟨Nat.le_of_ble_eq_true rfl, Nat.le_of_ble_eq_true rfl⟩)) (fun r9 e9 => ?_)
  subst e9
  refine lv_if_eq (tgt := 19) hx hb d_B_met_11 (by decide) (fun h9 => absurd h9 h2) (fun _ => ?_)
  refine lv_iload_n hx hb d_B_met_14 rfl (lv_at hl 1 rfl) ?_
  refine lv_iload_n hx hb d_B_met_15 rfl (lv_at hl 2 rfl) ?_
  refine lv_icmp_ne (tgt := 27) hx hb d_B_met_16 (by decide) (fun h9 => absurd h3 h9) (fun _ => ?_)
  exact vx_throw0 (XC := kXC kNSE) (cls := kNSE) (names := kSup) (A := fun _ => False) (ik := 32) (ic := 34) (rest := []) hx hb hl0 hown (by decide +kernel) (by decide +kernel) (hT _ (kat_n _ List.mem_cons_self)) (hT _ (kat_n _ (List.mem_cons_of_mem _ List.mem_cons_self))) (fun w h => hT w (kat_n w (List.mem_cons_of_mem _ (List.mem_cons_of_mem _ h)))) kog_n hXU hXN va_S.rf (by rw [hml]; exact hl.1) d_B_met_19 d_B_met_22 d_B_met_23 d_B_met_26 (fun x hx => (hno x hx).elim) (by decide) (by decide) (by decide) (by decide) hlocks (fun t _ hs hq => ⟨rfl, hs, hq⟩) (fun _ h => nomatch h) (by decide) (by decide)

set_option maxRecDepth 100000 in
set_option maxHeartbeats 4000000 in
theorem x_B_place_a (l : Launch) (hl0 : l.stackTraces = false) (D : va_G) (cA ad t : Nat → Nat) (hap : kap 7 ad) (σ : Nat → Nat → Int32) (o : Int32) (h1 : o < 0) : vx_Met l y_B_place w_B_place ({ frames := 6, cells := 1, slots := 6, locals := 81 } : Room) (va_Pc [.ref (ad 0), .int o] (fun U => bPre D cA ad t σ U ∧ xPre U)) (fun _ _ _ _ => False) (kXC kNSE) 1 6 (fun _ => False) := by
  refine vx_ofW (cc := b_B_place) (maxL := 2) (ret := (some .int)) (by decide) rfl ?_
  intro p e s m args below meth c s₁ B hml hno hv
  obtain ⟨rfl, ⟨hP, hK, hZ⟩, hXU, hXN⟩ := hv
  have hx := B.exec
  have hb := B.bytes
  have hr := B.returns
  have hlocks := B.notSynchronized
  have hT : ∀ w ∈ TB, w.before ([.ref (ad 0), .int o] : List Value).toArray s = true := fun w h => atoms_spec (ws := w_B_place) B.pre w (List.mem_cons_of_mem _ h)
  have hown : s.vm.findClass R_B = some m.cls := findClass_of_methodNamed B.named
  have hS : va_S (kA 7 ad) s.heap s.heap [] := va_S.rf
  have hl := lv_entry ([.ref (ad 0), .int o]) (n := 2) (Nat.le_of_ble_eq_true rfl)
  rw [lg_entry_eq]
  generalize (lg_sl ([.ref (ad 0), .int o]) ++ List.replicate (2 - (lg_sl ([.ref (ad 0), .int o])).length) Slot.unset).toArray = ls at hl ⊢
  have hl : lv_has ls 2 [(0, .ref (ad 0)), (1, .int o)] := hl
  refine lv_iload_n hx hb d_B_place_0 rfl (lv_at hl 1 rfl) ?_
  refine lv_if_lt (tgt := 9) hx hb d_B_place_1 (by decide) (fun _ => ?_) (fun h9 => absurd h1 h9)
  exact vx_throw0 (XC := kXC kNSE) (cls := kNSE) (names := kSup) (A := fun _ => False) (ik := 32) (ic := 34) (rest := []) hx hb hl0 hown (by decide +kernel) (by decide +kernel) (hT _ (kat_n _ List.mem_cons_self)) (hT _ (kat_n _ (List.mem_cons_of_mem _ List.mem_cons_self))) (fun w h => hT w (kat_n w (List.mem_cons_of_mem _ (List.mem_cons_of_mem _ h)))) kog_n hXU hXN va_S.rf (by rw [hml]; exact hl.1) d_B_place_9 d_B_place_12 d_B_place_13 d_B_place_16 (fun x hx => (hno x hx).elim) (by decide) (by decide) (by decide) (by decide) hlocks (fun t _ hs hq => ⟨rfl, hs, hq⟩) (fun _ h => nomatch h) (by decide) (by decide)

set_option maxRecDepth 100000 in
set_option maxHeartbeats 4000000 in
theorem x_B_place_b (l : Launch) (hl0 : l.stackTraces = false) (D : va_G) (cA ad t : Nat → Nat) (hap : kap 7 ad) (σ : Nat → Nat → Int32) (o : Int32) (h1 : ¬ o < 0) (h2 : ¬ o < (5 : Int32)) : vx_Met l y_B_place w_B_place ({ frames := 6, cells := 1, slots := 6, locals := 81 } : Room) (va_Pc [.ref (ad 0), .int o] (fun U => bPre D cA ad t σ U ∧ xPre U)) (fun _ _ _ _ => False) (kXC kNSE) 1 6 (fun _ => False) := by
  refine vx_ofW (cc := b_B_place) (maxL := 2) (ret := (some .int)) (by decide) rfl ?_
  intro p e s m args below meth c s₁ B hml hno hv
  obtain ⟨rfl, ⟨hP, hK, hZ⟩, hXU, hXN⟩ := hv
  have hx := B.exec
  have hb := B.bytes
  have hr := B.returns
  have hlocks := B.notSynchronized
  have hT : ∀ w ∈ TB, w.before ([.ref (ad 0), .int o] : List Value).toArray s = true := fun w h => atoms_spec (ws := w_B_place) B.pre w (List.mem_cons_of_mem _ h)
  have hown : s.vm.findClass R_B = some m.cls := findClass_of_methodNamed B.named
  have hS : va_S (kA 7 ad) s.heap s.heap [] := va_S.rf
  have hl := lv_entry ([.ref (ad 0), .int o]) (n := 2) (Nat.le_of_ble_eq_true rfl)
  rw [lg_entry_eq]
  generalize (lg_sl ([.ref (ad 0), .int o]) ++ List.replicate (2 - (lg_sl ([.ref (ad 0), .int o])).length) Slot.unset).toArray = ls at hl ⊢
  have hl : lv_has ls 2 [(0, .ref (ad 0)), (1, .int o)] := hl
  refine lv_iload_n hx hb d_B_place_0 rfl (lv_at hl 1 rfl) ?_
  refine lv_if_lt (tgt := 9) hx hb d_B_place_1 (by decide) (fun h9 => absurd h9 h1) (fun _ => ?_)
  refine lv_iload_n hx hb d_B_place_4 rfl (lv_at hl 1 rfl) ?_
  refine lv_iconst (v := (5 : Int32)) hx hb d_B_place_5 (by decide) ?_
  refine lv_icmp_lt (tgt := 17) hx hb d_B_place_6 (by decide) (fun h9 => absurd h9 h2) (fun _ => ?_)
  exact vx_throw0 (XC := kXC kNSE) (cls := kNSE) (names := kSup) (A := fun _ => False) (ik := 32) (ic := 34) (rest := []) hx hb hl0 hown (by decide +kernel) (by decide +kernel) (hT _ (kat_n _ List.mem_cons_self)) (hT _ (kat_n _ (List.mem_cons_of_mem _ List.mem_cons_self))) (fun w h => hT w (kat_n w (List.mem_cons_of_mem _ (List.mem_cons_of_mem _ h)))) kog_n hXU hXN va_S.rf (by rw [hml]; exact hl.1) d_B_place_9 d_B_place_12 d_B_place_13 d_B_place_16 (fun x hx => (hno x hx).elim) (by decide) (by decide) (by decide) (by decide) hlocks (fun t _ hs hq => ⟨rfl, hs, hq⟩) (fun _ h => nomatch h) (by decide) (by decide)

set_option maxRecDepth 100000 in
set_option maxHeartbeats 4000000 in
theorem x_B_there_a (l : Launch) (hl0 : l.stackTraces = false) (D : va_G) (cA ad t : Nat → Nat) (hap : kap 7 ad) (σ : Nat → Nat → Int32) (o : Int32) (x : Int32) (h1 : (f_B_isObject o) = 0) : vx_Met l y_B_there w_B_there ({ frames := 6, cells := 1, slots := 6, locals := 81 } : Room) (va_Pc [.ref (ad 0), .int o, .int x] (fun U => bPre D cA ad t σ U ∧ xPre U)) (fun _ _ _ _ => False) (kXC kNSE) 1 6 (fun _ => False) := by
  refine vx_ofW (cc := b_B_there) (maxL := 3) (ret := (some .boolean)) (by decide) rfl ?_
  intro p e s m args below meth c s₁ B hml hno hv
  obtain ⟨rfl, ⟨hP, hK, hZ⟩, hXU, hXN⟩ := hv
  have hx := B.exec
  have hb := B.bytes
  have hr := B.returns
  have hlocks := B.notSynchronized
  have hT : ∀ w ∈ TB, w.before ([.ref (ad 0), .int o, .int x] : List Value).toArray s = true := fun w h => atoms_spec (ws := w_B_there) B.pre w (List.mem_cons_of_mem _ h)
  have hown : s.vm.findClass R_B = some m.cls := findClass_of_methodNamed B.named
  have hS : va_S (kA 7 ad) s.heap s.heap [] := va_S.rf
  have hl := lv_entry ([.ref (ad 0), .int o, .int x]) (n := 3) (Nat.le_of_ble_eq_true rfl)
  rw [lg_entry_eq]
  generalize (lg_sl ([.ref (ad 0), .int o, .int x]) ++ List.replicate (3 - (lg_sl ([.ref (ad 0), .int o, .int x])).length) Slot.unset).toArray = ls at hl ⊢
  have hl : lv_has ls 3 [(0, .ref (ad 0)), (1, .int o), (2, .int x)] := hl
  refine lv_iload_n hx hb d_B_there_0 rfl (lv_at hl 1 rfl) ?_
  refine vp_callSi (va_Run.run (va_runS (As := [.int o]) (rest := []) ⟨hx, hb, hml, hown, hT⟩ (c_B_isObject l D cA ad t hap σ o) (kCS 1 hT ml_B_57 ms_B_isObject ⟨Nat.le_of_ble_eq_true rfl, Nat.le_of_ble_eq_true rfl⟩) (bpreS hK hP hZ hS) rfl rfl hl.1 rfl (lv_room (Nat.le_of_ble_eq_true rfl)) d_B_there_1 ⟨Nat.le_of_ble_eq_true rfl, Nat.le_of_ble_eq_true rfl⟩)) (fun r9 e9 => ?_)
  subst e9
  refine lv_if_eq (tgt := 14) hx hb d_B_there_4 (by decide) (fun _ => ?_) (fun h9 => absurd h1 h9)
  exact vx_throw0 (XC := kXC kNSE) (cls := kNSE) (names := kSup) (A := fun _ => False) (ik := 32) (ic := 34) (rest := []) hx hb hl0 hown (by decide +kernel) (by decide +kernel) (hT _ (kat_n _ List.mem_cons_self)) (hT _ (kat_n _ (List.mem_cons_of_mem _ List.mem_cons_self))) (fun w h => hT w (kat_n w (List.mem_cons_of_mem _ (List.mem_cons_of_mem _ h)))) kog_n hXU hXN va_S.rf (by rw [hml]; exact hl.1) d_B_there_14 d_B_there_17 d_B_there_18 d_B_there_21 (fun x hx => (hno x hx).elim) (by decide) (by decide) (by decide) (by decide) hlocks (fun t _ hs hq => ⟨rfl, hs, hq⟩) (fun _ h => nomatch h) (by decide) (by decide)

set_option maxRecDepth 100000 in
set_option maxHeartbeats 4000000 in
theorem x_B_there_b (l : Launch) (hl0 : l.stackTraces = false) (D : va_G) (cA ad t : Nat → Nat) (hap : kap 7 ad) (σ : Nat → Nat → Int32) (o : Int32) (x : Int32) (h1 : ¬ (f_B_isObject o) = 0) (h2 : (f_B_isPixel x) = 0) : vx_Met l y_B_there w_B_there ({ frames := 6, cells := 1, slots := 6, locals := 81 } : Room) (va_Pc [.ref (ad 0), .int o, .int x] (fun U => bPre D cA ad t σ U ∧ xPre U)) (fun _ _ _ _ => False) (kXC kNSE) 1 6 (fun _ => False) := by
  refine vx_ofW (cc := b_B_there) (maxL := 3) (ret := (some .boolean)) (by decide) rfl ?_
  intro p e s m args below meth c s₁ B hml hno hv
  obtain ⟨rfl, ⟨hP, hK, hZ⟩, hXU, hXN⟩ := hv
  have hx := B.exec
  have hb := B.bytes
  have hr := B.returns
  have hlocks := B.notSynchronized
  have hT : ∀ w ∈ TB, w.before ([.ref (ad 0), .int o, .int x] : List Value).toArray s = true := fun w h => atoms_spec (ws := w_B_there) B.pre w (List.mem_cons_of_mem _ h)
  have hown : s.vm.findClass R_B = some m.cls := findClass_of_methodNamed B.named
  have hS : va_S (kA 7 ad) s.heap s.heap [] := va_S.rf
  have hl := lv_entry ([.ref (ad 0), .int o, .int x]) (n := 3) (Nat.le_of_ble_eq_true rfl)
  rw [lg_entry_eq]
  generalize (lg_sl ([.ref (ad 0), .int o, .int x]) ++ List.replicate (3 - (lg_sl ([.ref (ad 0), .int o, .int x])).length) Slot.unset).toArray = ls at hl ⊢
  have hl : lv_has ls 3 [(0, .ref (ad 0)), (1, .int o), (2, .int x)] := hl
  refine lv_iload_n hx hb d_B_there_0 rfl (lv_at hl 1 rfl) ?_
  refine vp_callSi (va_Run.run (va_runS (As := [.int o]) (rest := []) ⟨hx, hb, hml, hown, hT⟩ (c_B_isObject l D cA ad t hap σ o) (kCS 1 hT ml_B_57 ms_B_isObject ⟨Nat.le_of_ble_eq_true rfl, Nat.le_of_ble_eq_true rfl⟩) (bpreS hK hP hZ hS) rfl rfl hl.1 rfl (lv_room (Nat.le_of_ble_eq_true rfl)) d_B_there_1 ⟨Nat.le_of_ble_eq_true rfl, Nat.le_of_ble_eq_true rfl⟩)) (fun r9 e9 => ?_)
  subst e9
  refine lv_if_eq (tgt := 14) hx hb d_B_there_4 (by decide) (fun h9 => absurd h9 h1) (fun _ => ?_)
  refine lv_iload_n hx hb d_B_there_7 rfl (lv_at hl 2 rfl) ?_
  refine vp_callSi (va_Run.run (va_runS (As := [.int x]) (rest := []) ⟨hx, hb, hml, hown, hT⟩ (c_B_isPixel l D cA ad t hap σ x) (kCS 1 hT ml_B_53 ms_B_isPixel ⟨Nat.le_of_ble_eq_true rfl, Nat.le_of_ble_eq_true rfl⟩) (bpreS hK hP hZ hS) rfl rfl hl.1 rfl (lv_room (Nat.le_of_ble_eq_true rfl)) d_B_there_8 ⟨Nat.le_of_ble_eq_true rfl, Nat.le_of_ble_eq_true rfl⟩)) (fun r9 e9 => ?_)
  subst e9
  refine lv_if_ne (tgt := 22) hx hb d_B_there_11 (by decide) (fun h9 => absurd h2 h9) (fun _ => ?_)
  exact vx_throw0 (XC := kXC kNSE) (cls := kNSE) (names := kSup) (A := fun _ => False) (ik := 32) (ic := 34) (rest := []) hx hb hl0 hown (by decide +kernel) (by decide +kernel) (hT _ (kat_n _ List.mem_cons_self)) (hT _ (kat_n _ (List.mem_cons_of_mem _ List.mem_cons_self))) (fun w h => hT w (kat_n w (List.mem_cons_of_mem _ (List.mem_cons_of_mem _ h)))) kog_n hXU hXN va_S.rf (by rw [hml]; exact hl.1) d_B_there_14 d_B_there_17 d_B_there_18 d_B_there_21 (fun x hx => (hno x hx).elim) (by decide) (by decide) (by decide) (by decide) hlocks (fun t _ hs hq => ⟨rfl, hs, hq⟩) (fun _ h => nomatch h) (by decide) (by decide)

set_option maxRecDepth 100000 in
set_option maxHeartbeats 4000000 in
theorem x_B_set_a (l : Launch) (hl0 : l.stackTraces = false) (D : va_G) (cA ad t : Nat → Nat) (hap : kap 7 ad) (σ : Nat → Nat → Int32) (q : Int32) (v : Int32) (h1 : q < 0) : vx_Met l y_B_set w_B_set ({ frames := 6, cells := 1, slots := 6, locals := 81 } : Room) (va_Pc [.ref (ad 0), .int q, .int v] (fun U => bPre D cA ad t σ U ∧ xPre U)) (fun _ _ _ _ => False) (kXC kNSE) 1 6 (fun _ => False) := by
  refine vx_ofW (cc := b_B_set) (maxL := 4) (ret := (some .int)) (by decide) rfl ?_
  intro p e s m args below meth c s₁ B hml hno hv
  obtain ⟨rfl, ⟨hP, hK, hZ⟩, hXU, hXN⟩ := hv
  have hx := B.exec
  have hb := B.bytes
  have hr := B.returns
  have hlocks := B.notSynchronized
  have hT : ∀ w ∈ TB, w.before ([.ref (ad 0), .int q, .int v] : List Value).toArray s = true := fun w h => atoms_spec (ws := w_B_set) B.pre w (List.mem_cons_of_mem _ h)
  have hown : s.vm.findClass R_B = some m.cls := findClass_of_methodNamed B.named
  have hS : va_S (kA 7 ad) s.heap s.heap [] := va_S.rf
  have hl := lv_entry ([.ref (ad 0), .int q, .int v]) (n := 4) (Nat.le_of_ble_eq_true rfl)
  rw [lg_entry_eq]
  generalize (lg_sl ([.ref (ad 0), .int q, .int v]) ++ List.replicate (4 - (lg_sl ([.ref (ad 0), .int q, .int v])).length) Slot.unset).toArray = ls at hl ⊢
  have hl : lv_has ls 4 [(0, .ref (ad 0)), (1, .int q), (2, .int v)] := hl
  refine lv_iload_n hx hb d_B_set_0 rfl (lv_at hl 1 rfl) ?_
  refine lv_if_lt (tgt := 12) hx hb d_B_set_1 (by decide) (fun _ => ?_) (fun h9 => absurd h1 h9)
  exact vx_throw0 (XC := kXC kNSE) (cls := kNSE) (names := kSup) (A := fun _ => False) (ik := 32) (ic := 34) (rest := []) hx hb hl0 hown (by decide +kernel) (by decide +kernel) (hT _ (kat_n _ List.mem_cons_self)) (hT _ (kat_n _ (List.mem_cons_of_mem _ List.mem_cons_self))) (fun w h => hT w (kat_n w (List.mem_cons_of_mem _ (List.mem_cons_of_mem _ h)))) kog_n hXU hXN va_S.rf (by rw [hml]; exact hl.1) d_B_set_12 d_B_set_15 d_B_set_16 d_B_set_19 (fun x hx => (hno x hx).elim) (by decide) (by decide) (by decide) (by decide) hlocks (fun t _ hs hq => ⟨rfl, hs, hq⟩) (fun _ h => nomatch h) (by decide) (by decide)

set_option maxRecDepth 100000 in
set_option maxHeartbeats 4000000 in
theorem x_B_set_b (l : Launch) (hl0 : l.stackTraces = false) (D : va_G) (cA ad t : Nat → Nat) (hap : kap 7 ad) (σ : Nat → Nat → Int32) (q : Int32) (v : Int32) (h1 : ¬ q < 0) (h2 : ¬ q < (4 : Int32)) : vx_Met l y_B_set w_B_set ({ frames := 6, cells := 1, slots := 6, locals := 81 } : Room) (va_Pc [.ref (ad 0), .int q, .int v] (fun U => bPre D cA ad t σ U ∧ xPre U)) (fun _ _ _ _ => False) (kXC kNSE) 1 6 (fun _ => False) := by
  refine vx_ofW (cc := b_B_set) (maxL := 4) (ret := (some .int)) (by decide) rfl ?_
  intro p e s m args below meth c s₁ B hml hno hv
  obtain ⟨rfl, ⟨hP, hK, hZ⟩, hXU, hXN⟩ := hv
  have hx := B.exec
  have hb := B.bytes
  have hr := B.returns
  have hlocks := B.notSynchronized
  have hT : ∀ w ∈ TB, w.before ([.ref (ad 0), .int q, .int v] : List Value).toArray s = true := fun w h => atoms_spec (ws := w_B_set) B.pre w (List.mem_cons_of_mem _ h)
  have hown : s.vm.findClass R_B = some m.cls := findClass_of_methodNamed B.named
  have hS : va_S (kA 7 ad) s.heap s.heap [] := va_S.rf
  have hl := lv_entry ([.ref (ad 0), .int q, .int v]) (n := 4) (Nat.le_of_ble_eq_true rfl)
  rw [lg_entry_eq]
  generalize (lg_sl ([.ref (ad 0), .int q, .int v]) ++ List.replicate (4 - (lg_sl ([.ref (ad 0), .int q, .int v])).length) Slot.unset).toArray = ls at hl ⊢
  have hl : lv_has ls 4 [(0, .ref (ad 0)), (1, .int q), (2, .int v)] := hl
  refine lv_iload_n hx hb d_B_set_0 rfl (lv_at hl 1 rfl) ?_
  refine lv_if_lt (tgt := 12) hx hb d_B_set_1 (by decide) (fun h9 => absurd h9 h1) (fun _ => ?_)
  refine lv_iload_n hx hb d_B_set_4 rfl (lv_at hl 1 rfl) ?_
  refine va_gets hx hb (kZ_z2 hZ) hS hown (hT _ fl_B_64) (fun _ h9 => h9) d_B_set_5 ?_
  refine va_tlen (v := (4 : Int32)) hx hb (kZ_t2 hZ) hS (by decide) d_B_set_8 ?_
  refine lv_icmp_lt (tgt := 20) hx hb d_B_set_9 (by decide) (fun h9 => absurd h9 h2) (fun _ => ?_)
  exact vx_throw0 (XC := kXC kNSE) (cls := kNSE) (names := kSup) (A := fun _ => False) (ik := 32) (ic := 34) (rest := []) hx hb hl0 hown (by decide +kernel) (by decide +kernel) (hT _ (kat_n _ List.mem_cons_self)) (hT _ (kat_n _ (List.mem_cons_of_mem _ List.mem_cons_self))) (fun w h => hT w (kat_n w (List.mem_cons_of_mem _ (List.mem_cons_of_mem _ h)))) kog_n hXU hXN va_S.rf (by rw [hml]; exact hl.1) d_B_set_12 d_B_set_15 d_B_set_16 d_B_set_19 (fun x hx => (hno x hx).elim) (by decide) (by decide) (by decide) (by decide) hlocks (fun t _ hs hq => ⟨rfl, hs, hq⟩) (fun _ h => nomatch h) (by decide) (by decide)

set_option maxRecDepth 100000 in
set_option maxHeartbeats 4000000 in
theorem x_B_set_c (l : Launch) (hl0 : l.stackTraces = false) (D : va_G) (cA ad t : Nat → Nat) (hap : kap 7 ad) (σ : Nat → Nat → Int32) (q : Int32) (v : Int32) (h1 : ¬ q < 0) (h2 : q < (4 : Int32)) (h3 : v < 0) : vx_Met l y_B_set w_B_set ({ frames := 6, cells := 1, slots := 6, locals := 81 } : Room) (va_Pc [.ref (ad 0), .int q, .int v] (fun U => bPre D cA ad t σ U ∧ xPre U)) (fun _ _ _ _ => False) (kXC kIAE) 1 6 (fun _ => False) := by
  refine vx_ofW (cc := b_B_set) (maxL := 4) (ret := (some .int)) (by decide) rfl ?_
  intro p e s m args below meth c s₁ B hml hno hv
  obtain ⟨rfl, ⟨hP, hK, hZ⟩, hXU, hXN⟩ := hv
  have hx := B.exec
  have hb := B.bytes
  have hr := B.returns
  have hlocks := B.notSynchronized
  have hT : ∀ w ∈ TB, w.before ([.ref (ad 0), .int q, .int v] : List Value).toArray s = true := fun w h => atoms_spec (ws := w_B_set) B.pre w (List.mem_cons_of_mem _ h)
  have hown : s.vm.findClass R_B = some m.cls := findClass_of_methodNamed B.named
  have hS : va_S (kA 7 ad) s.heap s.heap [] := va_S.rf
  have hl := lv_entry ([.ref (ad 0), .int q, .int v]) (n := 4) (Nat.le_of_ble_eq_true rfl)
  rw [lg_entry_eq]
  generalize (lg_sl ([.ref (ad 0), .int q, .int v]) ++ List.replicate (4 - (lg_sl ([.ref (ad 0), .int q, .int v])).length) Slot.unset).toArray = ls at hl ⊢
  have hl : lv_has ls 4 [(0, .ref (ad 0)), (1, .int q), (2, .int v)] := hl
  refine lv_iload_n hx hb d_B_set_0 rfl (lv_at hl 1 rfl) ?_
  refine lv_if_lt (tgt := 12) hx hb d_B_set_1 (by decide) (fun h9 => absurd h9 h1) (fun _ => ?_)
  refine lv_iload_n hx hb d_B_set_4 rfl (lv_at hl 1 rfl) ?_
  refine va_gets hx hb (kZ_z2 hZ) hS hown (hT _ fl_B_64) (fun _ h9 => h9) d_B_set_5 ?_
  refine va_tlen (v := (4 : Int32)) hx hb (kZ_t2 hZ) hS (by decide) d_B_set_8 ?_
  refine lv_icmp_lt (tgt := 20) hx hb d_B_set_9 (by decide) (fun _ => ?_) (fun h9 => absurd h2 h9)
  refine lv_iload_n hx hb d_B_set_20 rfl (lv_at hl 2 rfl) ?_
  refine lv_if_lt (tgt := 31) hx hb d_B_set_21 (by decide) (fun _ => ?_) (fun h9 => absurd h3 h9)
  exact vx_throw0 (XC := kXC kIAE) (cls := kIAE) (names := kSup) (A := fun _ => False) (ik := 35) (ic := 37) (rest := []) hx hb hl0 hown (by decide +kernel) (by decide +kernel) (hT _ (kat_i _ List.mem_cons_self)) (hT _ (kat_i _ (List.mem_cons_of_mem _ List.mem_cons_self))) (fun w h => hT w (kat_i w (List.mem_cons_of_mem _ (List.mem_cons_of_mem _ h)))) kog_i hXU hXN va_S.rf (by rw [hml]; exact hl.1) d_B_set_31 d_B_set_34 d_B_set_35 d_B_set_38 (fun x hx => (hno x hx).elim) (by decide) (by decide) (by decide) (by decide) hlocks (fun t _ hs hq => ⟨rfl, hs, hq⟩) (fun _ h => nomatch h) (by decide) (by decide)

set_option maxRecDepth 100000 in
set_option maxHeartbeats 4000000 in
theorem x_B_set_d (l : Launch) (hl0 : l.stackTraces = false) (D : va_G) (cA ad t : Nat → Nat) (hap : kap 7 ad) (σ : Nat → Nat → Int32) (q : Int32) (v : Int32) (h1 : ¬ q < 0) (h2 : q < (4 : Int32)) (h3 : ¬ v < 0) (h4 : ¬ v ≤ (255 : Int32)) : vx_Met l y_B_set w_B_set ({ frames := 6, cells := 1, slots := 6, locals := 81 } : Room) (va_Pc [.ref (ad 0), .int q, .int v] (fun U => bPre D cA ad t σ U ∧ xPre U)) (fun _ _ _ _ => False) (kXC kIAE) 1 6 (fun _ => False) := by
  refine vx_ofW (cc := b_B_set) (maxL := 4) (ret := (some .int)) (by decide) rfl ?_
  intro p e s m args below meth c s₁ B hml hno hv
  obtain ⟨rfl, ⟨hP, hK, hZ⟩, hXU, hXN⟩ := hv
  have hx := B.exec
  have hb := B.bytes
  have hr := B.returns
  have hlocks := B.notSynchronized
  have hT : ∀ w ∈ TB, w.before ([.ref (ad 0), .int q, .int v] : List Value).toArray s = true := fun w h => atoms_spec (ws := w_B_set) B.pre w (List.mem_cons_of_mem _ h)
  have hown : s.vm.findClass R_B = some m.cls := findClass_of_methodNamed B.named
  have hS : va_S (kA 7 ad) s.heap s.heap [] := va_S.rf
  have hl := lv_entry ([.ref (ad 0), .int q, .int v]) (n := 4) (Nat.le_of_ble_eq_true rfl)
  rw [lg_entry_eq]
  generalize (lg_sl ([.ref (ad 0), .int q, .int v]) ++ List.replicate (4 - (lg_sl ([.ref (ad 0), .int q, .int v])).length) Slot.unset).toArray = ls at hl ⊢
  have hl : lv_has ls 4 [(0, .ref (ad 0)), (1, .int q), (2, .int v)] := hl
  refine lv_iload_n hx hb d_B_set_0 rfl (lv_at hl 1 rfl) ?_
  refine lv_if_lt (tgt := 12) hx hb d_B_set_1 (by decide) (fun h9 => absurd h9 h1) (fun _ => ?_)
  refine lv_iload_n hx hb d_B_set_4 rfl (lv_at hl 1 rfl) ?_
  refine va_gets hx hb (kZ_z2 hZ) hS hown (hT _ fl_B_64) (fun _ h9 => h9) d_B_set_5 ?_
  refine va_tlen (v := (4 : Int32)) hx hb (kZ_t2 hZ) hS (by decide) d_B_set_8 ?_
  refine lv_icmp_lt (tgt := 20) hx hb d_B_set_9 (by decide) (fun _ => ?_) (fun h9 => absurd h2 h9)
  refine lv_iload_n hx hb d_B_set_20 rfl (lv_at hl 2 rfl) ?_
  refine lv_if_lt (tgt := 31) hx hb d_B_set_21 (by decide) (fun h9 => absurd h9 h3) (fun _ => ?_)
  refine lv_iload_n hx hb d_B_set_24 rfl (lv_at hl 2 rfl) ?_
  refine lv_sipush (v := (255 : Int32)) hx hb d_B_set_25 (by decide) ?_
  refine lv_icmp_le (tgt := 39) hx hb d_B_set_28 (by decide) (fun h9 => absurd h9 h4) (fun _ => ?_)
  exact vx_throw0 (XC := kXC kIAE) (cls := kIAE) (names := kSup) (A := fun _ => False) (ik := 35) (ic := 37) (rest := []) hx hb hl0 hown (by decide +kernel) (by decide +kernel) (hT _ (kat_i _ List.mem_cons_self)) (hT _ (kat_i _ (List.mem_cons_of_mem _ List.mem_cons_self))) (fun w h => hT w (kat_i w (List.mem_cons_of_mem _ (List.mem_cons_of_mem _ h)))) kog_i hXU hXN va_S.rf (by rw [hml]; exact hl.1) d_B_set_31 d_B_set_34 d_B_set_35 d_B_set_38 (fun x hx => (hno x hx).elim) (by decide) (by decide) (by decide) (by decide) hlocks (fun t _ hs hq => ⟨rfl, hs, hq⟩) (fun _ h => nomatch h) (by decide) (by decide)

set_option maxRecDepth 100000 in
set_option maxHeartbeats 4000000 in
theorem x_B_count_a (l : Launch) (hl0 : l.stackTraces = false) (D : va_G) (cA ad t : Nat → Nat) (hap : kap 7 ad) (σ : Nat → Nat → Int32) (wh : Int32) (n0 : ¬ wh = (0 : Int32)) (n1 : ¬ wh = (1 : Int32)) (n2 : ¬ wh = (2 : Int32)) (n3 : ¬ wh = (3 : Int32)) (n4 : ¬ wh = (4 : Int32)) (n5 : ¬ wh = (5 : Int32)) : vx_Met l y_B_count w_B_count ({ frames := 6, cells := 1, slots := 6, locals := 81 } : Room) (va_Pc [.ref (ad 0), .int wh] (fun U => bPre D cA ad t σ U ∧ xPre U)) (fun _ _ _ _ => False) (kXC kNSE) 1 6 (fun _ => False) := by
  refine vx_ofW (cc := b_B_count) (maxL := 2) (ret := (some .int)) (by decide) rfl ?_
  intro p e s m args below meth c s₁ B hml hno hv
  obtain ⟨rfl, ⟨hP, hK, hZ⟩, hXU, hXN⟩ := hv
  have hx := B.exec
  have hb := B.bytes
  have hr := B.returns
  have hlocks := B.notSynchronized
  have hT : ∀ w ∈ TB, w.before ([.ref (ad 0), .int wh] : List Value).toArray s = true := fun w h => atoms_spec (ws := w_B_count) B.pre w (List.mem_cons_of_mem _ h)
  have hown : s.vm.findClass R_B = some m.cls := findClass_of_methodNamed B.named
  have hS : va_S (kA 7 ad) s.heap s.heap [] := va_S.rf
  have hl := lv_entry ([.ref (ad 0), .int wh]) (n := 2) (Nat.le_of_ble_eq_true rfl)
  rw [lg_entry_eq]
  generalize (lg_sl ([.ref (ad 0), .int wh]) ++ List.replicate (2 - (lg_sl ([.ref (ad 0), .int wh])).length) Slot.unset).toArray = ls at hl ⊢
  have hl : lv_has ls 2 [(0, .ref (ad 0)), (1, .int wh)] := hl
  refine lv_iload_n hx hb d_B_count_0 rfl (lv_at hl 1 rfl) ?_
  refine lv_tableOut (tgt := 84) hx hb d_B_count_1 (by have a0 := lv_neT n0 (a := 0) rfl; have a1 := lv_neT n1 (a := 1) rfl; have a2 := lv_neT n2 (a := 2) rfl; have a3 := lv_neT n3 (a := 3) rfl; have a4 := lv_neT n4 (a := 4) rfl; have a5 := lv_neT n5 (a := 5) rfl; omega) (by decide) ?_
  exact vx_throw0 (XC := kXC kNSE) (cls := kNSE) (names := kSup) (A := fun _ => False) (ik := 32) (ic := 34) (rest := []) hx hb hl0 hown (by decide +kernel) (by decide +kernel) (hT _ (kat_n _ List.mem_cons_self)) (hT _ (kat_n _ (List.mem_cons_of_mem _ List.mem_cons_self))) (fun w h => hT w (kat_n w (List.mem_cons_of_mem _ (List.mem_cons_of_mem _ h)))) kog_n hXU hXN va_S.rf (by rw [hml]; exact hl.1) d_B_count_84 d_B_count_87 d_B_count_88 d_B_count_91 (fun x hx => (hno x hx).elim) (by decide) (by decide) (by decide) (by decide) hlocks (fun t _ hs hq => ⟨rfl, hs, hq⟩) (fun _ h => nomatch h) (by decide) (by decide)
