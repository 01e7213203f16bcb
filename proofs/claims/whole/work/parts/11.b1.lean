def f_B_isPixel (x : Int32) : Int32 := (if x < 0 then (0 : Int32) else (if (160 : Int32) ≤ x then (0 : Int32) else (1 : Int32)))

theorem z_B_isPixel (x : Int32) : f_B_isPixel x = 0 ∨ f_B_isPixel x = 1 := by
  rw [f_B_isPixel]
  repeat' split
  all_goals first | with_reducible exact Or.inl rfl | with_reducible exact Or.inr rfl

set_option maxRecDepth 100000 in
set_option maxHeartbeats 4000000 in
theorem c_B_isPixel (l : Launch) (D : va_G) (cA ad t : Nat → Nat) (hap : kap 7 ad) (σ : Nat → Nat → Int32) (x : Int32) : Met l y_B_isPixel w_B_isPixel ({ frames := 0, cells := 0, slots := 0, locals := 0 } : Room) (va_Pc [.int x] (bPre D cA ad t σ)) (vp_Si (fun v => v = f_B_isPixel x)) 0 0 (fun _ => False) := by
  refine Met.ofW (cc := b_B_isPixel) (maxL := 1) (ret := (some .boolean)) (by decide) rfl ?_
  intro p e s m args below meth c s₁ B hml hv
  obtain ⟨rfl, hv⟩ := hv
  obtain ⟨hP, hK, hZ⟩ := hv
  have hx := B.exec
  have hb := B.bytes
  have hr := B.returns
  have hlocks := B.notSynchronized
  have hT : ∀ w ∈ TB, w.before ([.int x] : List Value).toArray s = true := fun w h => atoms_spec (ws := w_B_isPixel) B.pre w (List.mem_cons_of_mem _ h)
  have hown : s.vm.findClass R_B = some m.cls := findClass_of_methodNamed B.named
  have hS : va_S (kA 7 ad) s.heap s.heap [] := va_S.rf
  have hl := lv_entry ([.int x]) (n := 1) (Nat.le_of_ble_eq_true rfl)
  rw [lg_entry_eq]
  generalize (lg_sl ([.int x]) ++ List.replicate (1 - (lg_sl ([.int x])).length) Slot.unset).toArray = ls at hl ⊢
  have hl : lv_has ls 1 [(0, .int x)] := hl
  refine lv_iload_n hx hb d_B_isPixel_0 rfl (lv_at hl 0 rfl) ?_
  refine lv_if_lt (tgt := 15) hx hb d_B_isPixel_1 (by decide) (fun q1 => ?_) (fun q1 => ?_)
  · refine lv_iconst (v := (0 : Int32)) hx hb d_B_isPixel_15 (by decide) ?_
    have e9 : (0 : Int32) = f_B_isPixel x := by rw [f_B_isPixel, if_pos q1]
    exact W.zret (v := (0 : Int32)) hx hb hr (by decide) (fun t ht hW => ⟨_, rfl, e9, ht⟩) (fun _ h => absurd h List.not_mem_nil) d_B_isPixel_16
  · refine lv_iload_n hx hb d_B_isPixel_4 rfl (lv_at hl 0 rfl) ?_
    refine lv_sipush (v := (160 : Int32)) hx hb d_B_isPixel_5 (by decide) ?_
    refine lv_icmp_ge (tgt := 15) hx hb d_B_isPixel_8 (by decide) (fun q2 => ?_) (fun q2 => ?_)
    · refine lv_iconst (v := (0 : Int32)) hx hb d_B_isPixel_15 (by decide) ?_
      have e9 : (0 : Int32) = f_B_isPixel x := by rw [f_B_isPixel, if_neg q1, if_pos q2]
      exact W.zret (v := (0 : Int32)) hx hb hr (by decide) (fun t ht hW => ⟨_, rfl, e9, ht⟩) (fun _ h => absurd h List.not_mem_nil) d_B_isPixel_16
    · refine lv_iconst (v := (1 : Int32)) hx hb d_B_isPixel_11 (by decide) ?_
      refine lv_goto (tgt := 16) hx hb d_B_isPixel_12 (by decide) ?_
      have e9 : (1 : Int32) = f_B_isPixel x := by rw [f_B_isPixel, if_neg q1, if_neg q2]
      exact W.zret (v := (1 : Int32)) hx hb hr (by decide) (fun t ht hW => ⟨_, rfl, e9, ht⟩) (fun _ h => absurd h List.not_mem_nil) d_B_isPixel_16

def f_B_isObject (o : Int32) : Int32 := (if o < 0 then (0 : Int32) else (if (6 : Int32) ≤ o then (0 : Int32) else (1 : Int32)))

theorem z_B_isObject (o : Int32) : f_B_isObject o = 0 ∨ f_B_isObject o = 1 := by
  rw [f_B_isObject]
  repeat' split
  all_goals first | with_reducible exact Or.inl rfl | with_reducible exact Or.inr rfl

set_option maxRecDepth 100000 in
set_option maxHeartbeats 4000000 in
theorem c_B_isObject (l : Launch) (D : va_G) (cA ad t : Nat → Nat) (hap : kap 7 ad) (σ : Nat → Nat → Int32) (o : Int32) : Met l y_B_isObject w_B_isObject ({ frames := 0, cells := 0, slots := 0, locals := 0 } : Room) (va_Pc [.int o] (bPre D cA ad t σ)) (vp_Si (fun v => v = f_B_isObject o)) 0 0 (fun _ => False) := by
  refine Met.ofW (cc := b_B_isObject) (maxL := 1) (ret := (some .boolean)) (by decide) rfl ?_
  intro p e s m args below meth c s₁ B hml hv
  obtain ⟨rfl, hv⟩ := hv
  obtain ⟨hP, hK, hZ⟩ := hv
  have hx := B.exec
  have hb := B.bytes
  have hr := B.returns
  have hlocks := B.notSynchronized
  have hT : ∀ w ∈ TB, w.before ([.int o] : List Value).toArray s = true := fun w h => atoms_spec (ws := w_B_isObject) B.pre w (List.mem_cons_of_mem _ h)
  have hown : s.vm.findClass R_B = some m.cls := findClass_of_methodNamed B.named
  have hS : va_S (kA 7 ad) s.heap s.heap [] := va_S.rf
  have hl := lv_entry ([.int o]) (n := 1) (Nat.le_of_ble_eq_true rfl)
  rw [lg_entry_eq]
  generalize (lg_sl ([.int o]) ++ List.replicate (1 - (lg_sl ([.int o])).length) Slot.unset).toArray = ls at hl ⊢
  have hl : lv_has ls 1 [(0, .int o)] := hl
  refine lv_iload_n hx hb d_B_isObject_0 rfl (lv_at hl 0 rfl) ?_
  refine lv_if_lt (tgt := 14) hx hb d_B_isObject_1 (by decide) (fun q1 => ?_) (fun q1 => ?_)
  · refine lv_iconst (v := (0 : Int32)) hx hb d_B_isObject_14 (by decide) ?_
    have e9 : (0 : Int32) = f_B_isObject o := by rw [f_B_isObject, if_pos q1]
    exact W.zret (v := (0 : Int32)) hx hb hr (by decide) (fun t ht hW => ⟨_, rfl, e9, ht⟩) (fun _ h => absurd h List.not_mem_nil) d_B_isObject_15
  · refine lv_iload_n hx hb d_B_isObject_4 rfl (lv_at hl 0 rfl) ?_
    refine lv_bipush (v := (6 : Int32)) hx hb d_B_isObject_5 (by decide) ?_
    refine lv_icmp_ge (tgt := 14) hx hb d_B_isObject_7 (by decide) (fun q2 => ?_) (fun q2 => ?_)
    · refine lv_iconst (v := (0 : Int32)) hx hb d_B_isObject_14 (by decide) ?_
      have e9 : (0 : Int32) = f_B_isObject o := by rw [f_B_isObject, if_neg q1, if_pos q2]
      exact W.zret (v := (0 : Int32)) hx hb hr (by decide) (fun t ht hW => ⟨_, rfl, e9, ht⟩) (fun _ h => absurd h List.not_mem_nil) d_B_isObject_15
    · refine lv_iconst (v := (1 : Int32)) hx hb d_B_isObject_10 (by decide) ?_
      refine lv_goto (tgt := 15) hx hb d_B_isObject_11 (by decide) ?_
      have e9 : (1 : Int32) = f_B_isObject o := by rw [f_B_isObject, if_neg q1, if_neg q2]
      exact W.zret (v := (1 : Int32)) hx hb hr (by decide) (fun t ht hW => ⟨_, rfl, e9, ht⟩) (fun _ h => absurd h List.not_mem_nil) d_B_isObject_15

def f_B_hasBit (σ : Nat → Nat → Int32) (r : Int32) (k : Int32) : Int32 := (if ((σ 0 (r).toNatClampNeg) &&& k) = 0 then (0 : Int32) else (1 : Int32))

theorem z_B_hasBit (σ : Nat → Nat → Int32) (r : Int32) (k : Int32) : f_B_hasBit σ r k = 0 ∨ f_B_hasBit σ r k = 1 := by
  rw [f_B_hasBit]
  repeat' split
  all_goals first | with_reducible exact Or.inl rfl | with_reducible exact Or.inr rfl

set_option maxRecDepth 100000 in
set_option maxHeartbeats 4000000 in
theorem c_B_hasBit (l : Launch) (D : va_G) (cA ad t : Nat → Nat) (hap : kap 7 ad) (σ : Nat → Nat → Int32) (r : Int32) (k : Int32) (h1 : vp_in r 36) : Met l y_B_hasBit w_B_hasBit ({ frames := 0, cells := 0, slots := 0, locals := 0 } : Room) (va_Pc [.ref (ad 0), .int r, .int k] (bPre D cA ad t σ)) (vp_Si (fun v => v = f_B_hasBit σ r k)) 0 0 (fun _ => False) := by
  refine Met.ofW (cc := b_B_hasBit) (maxL := 3) (ret := (some .boolean)) (by decide) rfl ?_
  intro p e s m args below meth c s₁ B hml hv
  obtain ⟨rfl, hv⟩ := hv
  obtain ⟨hP, hK, hZ⟩ := hv
  have hx := B.exec
  have hb := B.bytes
  have hr := B.returns
  have hlocks := B.notSynchronized
  have hT : ∀ w ∈ TB, w.before ([.ref (ad 0), .int r, .int k] : List Value).toArray s = true := fun w h => atoms_spec (ws := w_B_hasBit) B.pre w (List.mem_cons_of_mem _ h)
  have hown : s.vm.findClass R_B = some m.cls := findClass_of_methodNamed B.named
  have hS : va_S (kA 7 ad) s.heap s.heap [] := va_S.rf
  have hl := lv_entry ([.ref (ad 0), .int r, .int k]) (n := 3) (Nat.le_of_ble_eq_true rfl)
  rw [lg_entry_eq]
  generalize (lg_sl ([.ref (ad 0), .int r, .int k]) ++ List.replicate (3 - (lg_sl ([.ref (ad 0), .int r, .int k])).length) Slot.unset).toArray = ls at hl ⊢
  have hl : lv_has ls 3 [(0, .ref (ad 0)), (1, .int r), (2, .int k)] := hl
  refine lv_aload_n hx hb d_B_hasBit_0 rfl (lv_at hl 0 rfl) ?_
  refine va_get (D := D) (ci := 0) (v := .ref (ad 1)) (C := R_B) (T := F_B) (N := 10) hx hb hT in_B hown hK hP 0 rfl rfl 0 (by decide) (hT _ fl_B_9) (fun _ h9 => h9) rfl d_B_hasBit_1 ?_
  refine lv_iload_n hx hb d_B_hasBit_4 rfl (lv_at hl 1 rfl) ?_
  refine va_iald hx hb hK hP 1 0 rfl rfl (by first | assumption | exact kin (by decide)) d_B_hasBit_5 ?_
  refine lv_iload_n hx hb d_B_hasBit_6 rfl (lv_at hl 2 rfl) ?_
  refine lv_iand hx hb d_B_hasBit_7 ?_
  refine lv_if_eq (tgt := 15) hx hb d_B_hasBit_8 (by decide) (fun q1 => ?_) (fun q1 => ?_)
  · refine lv_iconst (v := (0 : Int32)) hx hb d_B_hasBit_15 (by decide) ?_
    have e9 : (0 : Int32) = f_B_hasBit σ r k := by rw [f_B_hasBit, if_pos q1]
    exact W.zret (v := (0 : Int32)) hx hb hr (by decide) (fun t ht hW => ⟨_, rfl, e9, ht⟩) (fun _ h => absurd h List.not_mem_nil) d_B_hasBit_16
  · refine lv_iconst (v := (1 : Int32)) hx hb d_B_hasBit_11 (by decide) ?_
    refine lv_goto (tgt := 16) hx hb d_B_hasBit_12 (by decide) ?_
    have e9 : (1 : Int32) = f_B_hasBit σ r k := by rw [f_B_hasBit, if_neg q1]
    exact W.zret (v := (1 : Int32)) hx hb hr (by decide) (fun t ht hW => ⟨_, rfl, e9, ht⟩) (fun _ h => absurd h List.not_mem_nil) d_B_hasBit_16

def f_B_copiesOf (σ : Nat → Nat → Int32) (side : Int32) : Int32 := ((σ 0 (((17 : Int32) + side)).toNatClampNeg) &&& (7 : Int32))

set_option maxRecDepth 100000 in
set_option maxHeartbeats 4000000 in
theorem c_B_copiesOf (l : Launch) (D : va_G) (cA ad t : Nat → Nat) (hap : kap 7 ad) (σ : Nat → Nat → Int32) (side : Int32) (hs : side = 0 ∨ side = 1) : Met l y_B_copiesOf w_B_copiesOf ({ frames := 0, cells := 0, slots := 0, locals := 0 } : Room) (va_Pc [.ref (ad 0), .int side] (bPre D cA ad t σ)) (vp_Si (fun v => v = f_B_copiesOf σ side)) 0 0 (fun _ => False) := by
  refine Met.ofW (cc := b_B_copiesOf) (maxL := 2) (ret := (some .int)) (by decide) rfl ?_
  intro p e s m args below meth c s₁ B hml hv
  obtain ⟨rfl, hv⟩ := hv
  obtain ⟨hP, hK, hZ⟩ := hv
  have hx := B.exec
  have hb := B.bytes
  have hr := B.returns
  have hlocks := B.notSynchronized
  have hT : ∀ w ∈ TB, w.before ([.ref (ad 0), .int side] : List Value).toArray s = true := fun w h => atoms_spec (ws := w_B_copiesOf) B.pre w (List.mem_cons_of_mem _ h)
  have hown : s.vm.findClass R_B = some m.cls := findClass_of_methodNamed B.named
  have hS : va_S (kA 7 ad) s.heap s.heap [] := va_S.rf
  have hl := lv_entry ([.ref (ad 0), .int side]) (n := 2) (Nat.le_of_ble_eq_true rfl)
  rw [lg_entry_eq]
  generalize (lg_sl ([.ref (ad 0), .int side]) ++ List.replicate (2 - (lg_sl ([.ref (ad 0), .int side])).length) Slot.unset).toArray = ls at hl ⊢
  have hl : lv_has ls 2 [(0, .ref (ad 0)), (1, .int side)] := hl
  refine lv_aload_n hx hb d_B_copiesOf_0 rfl (lv_at hl 0 rfl) ?_
  refine va_get (D := D) (ci := 0) (v := .ref (ad 1)) (C := R_B) (T := F_B) (N := 10) hx hb hT in_B hown hK hP 0 rfl rfl 0 (by decide) (hT _ fl_B_9) (fun _ h9 => h9) rfl d_B_copiesOf_1 ?_
  refine lv_bipush (v := (17 : Int32)) hx hb d_B_copiesOf_4 (by decide) ?_
  refine lv_iload_n hx hb d_B_copiesOf_6 rfl (lv_at hl 1 rfl) ?_
  refine lv_iadd hx hb d_B_copiesOf_7 ?_
  refine va_iald hx hb hK hP 1 0 rfl rfl (by first | assumption | exact kin (by decide) | ((rcases hs with rfl | rfl <;> exact kin (by decide)))) d_B_copiesOf_8 ?_
  refine lv_bipush (v := (7 : Int32)) hx hb d_B_copiesOf_9 (by decide) ?_
  refine lv_iand hx hb d_B_copiesOf_11 ?_
  have e9 : ((σ 0 (((17 : Int32) + side)).toNatClampNeg) &&& (7 : Int32)) = f_B_copiesOf σ side := by rw [f_B_copiesOf]
  exact W.iret (v := ((σ 0 (((17 : Int32) + side)).toNatClampNeg) &&& (7 : Int32))) hx hb hr (fun t ht hW => ⟨_, rfl, e9, ht⟩) (fun _ h => absurd h List.not_mem_nil) d_B_copiesOf_12

def f_B_widthIn (σ : Nat → Nat → Int32) (r : Int32) : Int32 := ((1 : Int32) <<< ((((σ 0 (r).toNatClampNeg) >>> ((4 : Int32) &&& 31)) &&& (3 : Int32)) &&& 31))

set_option maxRecDepth 100000 in
set_option maxHeartbeats 4000000 in
theorem c_B_widthIn (l : Launch) (D : va_G) (cA ad t : Nat → Nat) (hap : kap 7 ad) (σ : Nat → Nat → Int32) (r : Int32) (h1 : vp_in r 36) : Met l y_B_widthIn w_B_widthIn ({ frames := 0, cells := 0, slots := 0, locals := 0 } : Room) (va_Pc [.ref (ad 0), .int r] (bPre D cA ad t σ)) (vp_Si (fun v => v = f_B_widthIn σ r)) 0 0 (fun _ => False) := by
  refine Met.ofW (cc := b_B_widthIn) (maxL := 2) (ret := (some .int)) (by decide) rfl ?_
  intro p e s m args below meth c s₁ B hml hv
  obtain ⟨rfl, hv⟩ := hv
  obtain ⟨hP, hK, hZ⟩ := hv
  have hx := B.exec
  have hb := B.bytes
  have hr := B.returns
  have hlocks := B.notSynchronized
  have hT : ∀ w ∈ TB, w.before ([.ref (ad 0), .int r] : List Value).toArray s = true := fun w h => atoms_spec (ws := w_B_widthIn) B.pre w (List.mem_cons_of_mem _ h)
  have hown : s.vm.findClass R_B = some m.cls := findClass_of_methodNamed B.named
  have hS : va_S (kA 7 ad) s.heap s.heap [] := va_S.rf
  have hl := lv_entry ([.ref (ad 0), .int r]) (n := 2) (Nat.le_of_ble_eq_true rfl)
  rw [lg_entry_eq]
  generalize (lg_sl ([.ref (ad 0), .int r]) ++ List.replicate (2 - (lg_sl ([.ref (ad 0), .int r])).length) Slot.unset).toArray = ls at hl ⊢
  have hl : lv_has ls 2 [(0, .ref (ad 0)), (1, .int r)] := hl
  refine lv_iconst (v := (1 : Int32)) hx hb d_B_widthIn_0 (by decide) ?_
  refine lv_aload_n hx hb d_B_widthIn_1 rfl (lv_at hl 0 rfl) ?_
  refine va_get (D := D) (ci := 0) (v := .ref (ad 1)) (C := R_B) (T := F_B) (N := 10) hx hb hT in_B hown hK hP 0 rfl rfl 0 (by decide) (hT _ fl_B_9) (fun _ h9 => h9) rfl d_B_widthIn_2 ?_
  refine lv_iload_n hx hb d_B_widthIn_5 rfl (lv_at hl 1 rfl) ?_
  refine va_iald hx hb hK hP 1 0 rfl rfl (by first | assumption | exact kin (by decide)) d_B_widthIn_6 ?_
  refine lv_iconst (v := (4 : Int32)) hx hb d_B_widthIn_7 (by decide) ?_
  refine lv_ishr hx hb d_B_widthIn_8 ?_
  refine lv_iconst (v := (3 : Int32)) hx hb d_B_widthIn_9 (by decide) ?_
  refine lv_iand hx hb d_B_widthIn_10 ?_
  refine lv_ishl hx hb d_B_widthIn_11 ?_
  have e9 : ((1 : Int32) <<< ((((σ 0 (r).toNatClampNeg) >>> ((4 : Int32) &&& 31)) &&& (3 : Int32)) &&& 31)) = f_B_widthIn σ r := by rw [f_B_widthIn]
  exact W.iret (v := ((1 : Int32) <<< ((((σ 0 (r).toNatClampNeg) >>> ((4 : Int32) &&& 31)) &&& (3 : Int32)) &&& 31))) hx hb hr (fun t ht hW => ⟨_, rfl, e9, ht⟩) (fun _ h => absurd h List.not_mem_nil) d_B_widthIn_12
