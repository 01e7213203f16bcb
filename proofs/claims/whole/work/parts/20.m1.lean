def f_M_thrown (σ : Nat → Nat → Int32) : Int32 := (σ 7 0)

set_option maxRecDepth 100000 in
set_option maxHeartbeats 4000000 in
theorem c_M_thrown (l : Launch) (D : va_G) (cA ad : Nat → Nat) (hap : kap 8 ad) (σ : Nat → Nat → Int32) : Met l y_M_thrown w_M_thrown ({ frames := 0, cells := 0, slots := 0, locals := 0 } : Room) (va_Pc [.ref (ad 0)] (mPre D cA ad σ)) (vp_Si (fun v => v = f_M_thrown σ)) 0 0 (fun _ => False) := by
  refine Met.ofW (cc := b_M_thrown) (maxL := 1) (ret := (some .int)) (by decide) rfl ?_
  intro p e s m args below meth c s₁ B hml hv
  obtain ⟨rfl, hv⟩ := hv
  obtain ⟨hP, hK⟩ := hv
  have hx := B.exec
  have hb := B.bytes
  have hr := B.returns
  have hlocks := B.notSynchronized
  have hT : ∀ w ∈ TB, w.before ([.ref (ad 0)] : List Value).toArray s = true := fun w h => atoms_spec (ws := w_M_thrown) B.pre w (List.mem_cons_of_mem _ h)
  have hown : s.vm.findClass R_M = some m.cls := findClass_of_methodNamed B.named
  have hS : va_S (kA 8 ad) s.heap s.heap [] := va_S.rf
  have hl := lv_entry ([.ref (ad 0)]) (n := 1) (Nat.le_of_ble_eq_true rfl)
  rw [lg_entry_eq]
  generalize (lg_sl ([.ref (ad 0)]) ++ List.replicate (1 - (lg_sl ([.ref (ad 0)])).length) Slot.unset).toArray = ls at hl ⊢
  have hl : lv_has ls 1 [(0, .ref (ad 0))] := hl
  refine lv_aload_n hx hb d_M_thrown_0 rfl (lv_at hl 0 rfl) ?_
  refine va_get (D := D) (ci := 2) (v := .int (σ 7 0)) (C := R_M) (T := F_M) (N := 17) hx hb hT in_M hown hK hP 0 rfl rfl 0 (by decide) (hT _ fl_M_36) (fun _ h9 => h9) rfl d_M_thrown_1 ?_
  have e9 : (σ 7 0) = f_M_thrown σ := by rw [f_M_thrown]
  exact W.iret (v := (σ 7 0)) hx hb hr (fun t ht hW => ⟨_, rfl, e9, ht⟩) (fun _ h => absurd h List.not_mem_nil) d_M_thrown_4

def f_M_goes (σ : Nat → Nat → Int32) (p1 : Int32) (p2 : Int32) : (Int32 × (Nat → Nat → Int32)) := (if p1 = 0 then ((0 : Int32), (kup σ 7 0 (1 : Int32))) else (if p2 = 0 then ((0 : Int32), (kup σ 7 0 (2 : Int32))) else ((1 : Int32), (kup σ 7 0 (0 : Int32)))))

set_option maxRecDepth 100000 in
set_option maxHeartbeats 4000000 in
theorem c_M_goes (l : Launch) (D : va_G) (cA ad : Nat → Nat) (hap : kap 8 ad) (σ : Nat → Nat → Int32) (p1 : Int32) (p2 : Int32) : Met l y_M_goes w_M_goes ({ frames := 0, cells := 0, slots := 0, locals := 0 } : Room) (va_Pc [.ref (ad 0), .int p1, .int p2] (mPre D cA ad σ)) (kQi D (mw cA ad (f_M_goes σ p1 p2).2) (kA 8 ad) (f_M_goes σ p1 p2).1) 0 0 (kA 8 ad) := by
  refine Met.ofW (cc := b_M_goes) (maxL := 3) (ret := (some .boolean)) (by decide) rfl ?_
  intro p e s m args below meth c s₁ B hml hv
  obtain ⟨rfl, hv⟩ := hv
  obtain ⟨hP, hK⟩ := hv
  have hx := B.exec
  have hb := B.bytes
  have hr := B.returns
  have hlocks := B.notSynchronized
  have hT : ∀ w ∈ TB, w.before ([.ref (ad 0), .int p1, .int p2] : List Value).toArray s = true := fun w h => atoms_spec (ws := w_M_goes) B.pre w (List.mem_cons_of_mem _ h)
  have hown : s.vm.findClass R_M = some m.cls := findClass_of_methodNamed B.named
  have hS : va_S (kA 8 ad) s.heap s.heap [] := va_S.rf
  have hD : ∀ σ, va_D (kA 8 ad) (mw cA ad σ) := fun σ => kD hap rfl
  have hl := lv_entry ([.ref (ad 0), .int p1, .int p2]) (n := 3) (Nat.le_of_ble_eq_true rfl)
  rw [lg_entry_eq]
  generalize (lg_sl ([.ref (ad 0), .int p1, .int p2]) ++ List.replicate (3 - (lg_sl ([.ref (ad 0), .int p1, .int p2])).length) Slot.unset).toArray = ls at hl ⊢
  have hl : lv_has ls 3 [(0, .ref (ad 0)), (1, .int p1), (2, .int p2)] := hl
  refine lv_aload_n hx hb d_M_goes_0 rfl (lv_at hl 0 rfl) ?_
  refine lv_iload_n hx hb d_M_goes_1 rfl (lv_at hl 1 rfl) ?_
  refine lv_if_ne (tgt := 9) hx hb d_M_goes_2 (by decide) (fun q1 => ?_) (fun q1 => ?_)
  · refine lv_iload_n hx hb d_M_goes_9 rfl (lv_at hl 2 rfl) ?_
    refine lv_if_ne (tgt := 17) hx hb d_M_goes_10 (by decide) (fun q2 => ?_) (fun q2 => ?_)
    · refine lv_iconst (v := (0 : Int32)) hx hb d_M_goes_17 (by decide) ?_
      refine va_put (A := (kA 8 ad)) (D := D) (ci := 2) (v := .int (0 : Int32)) (ty := .int) (C := R_M) (T := F_M) (N := 17) hx hb hT in_M ft_M ft_M_ok n_M hown hK hP (hD _) hS 0 rfl rfl 0 (by decide) (hT _ fl_M_36) (fun _ h9 => h9) rfl (by decide +kernel) rfl rfl (Nat.le_of_ble_eq_true rfl) d_M_goes_18 (fun H locs hP _ hS => ?_)
      have hP := kst (mw_p0_0 cA ad σ (0 : Int32)) hP
      refine lv_aload_n hx hb d_M_goes_21 rfl (lv_at hl 0 rfl) ?_
      refine va_get (D := D) (ci := 2) (v := .int (0 : Int32)) (C := R_M) (T := F_M) (N := 17) hx hb hT in_M hown hK hP 0 rfl rfl 0 (by decide) (hT _ fl_M_36) (fun _ h9 => h9) rfl d_M_goes_22 ?_
      refine lv_if_ne (tgt := 32) hx hb d_M_goes_25 (by decide) (fun h9 => absurd (by decide) h9) (fun _ => ?_)
      refine lv_iconst (v := (1 : Int32)) hx hb d_M_goes_28 (by decide) ?_
      refine lv_goto (tgt := 33) hx hb d_M_goes_29 (by decide) ?_
      have e9 : ((1 : Int32), (kup σ 7 0 (0 : Int32))) = f_M_goes σ p1 p2 := by rw [f_M_goes, if_neg q1, if_neg q2]
      exact W.zret (v := (1 : Int32)) hx hb hr (by decide) (fun t ht hW => ⟨by rw [← e9], by rw [ht, ← e9]; exact hP, hS.F ht⟩) hS.2.2 d_M_goes_33
    · refine lv_iconst (v := (2 : Int32)) hx hb d_M_goes_13 (by decide) ?_
      refine lv_goto (tgt := 18) hx hb d_M_goes_14 (by decide) ?_
      refine va_put (A := (kA 8 ad)) (D := D) (ci := 2) (v := .int (2 : Int32)) (ty := .int) (C := R_M) (T := F_M) (N := 17) hx hb hT in_M ft_M ft_M_ok n_M hown hK hP (hD _) hS 0 rfl rfl 0 (by decide) (hT _ fl_M_36) (fun _ h9 => h9) rfl (by decide +kernel) rfl rfl (Nat.le_of_ble_eq_true rfl) d_M_goes_18 (fun H locs hP _ hS => ?_)
      have hP := kst (mw_p0_0 cA ad σ (2 : Int32)) hP
      refine lv_aload_n hx hb d_M_goes_21 rfl (lv_at hl 0 rfl) ?_
      refine va_get (D := D) (ci := 2) (v := .int (2 : Int32)) (C := R_M) (T := F_M) (N := 17) hx hb hT in_M hown hK hP 0 rfl rfl 0 (by decide) (hT _ fl_M_36) (fun _ h9 => h9) rfl d_M_goes_22 ?_
      refine lv_if_ne (tgt := 32) hx hb d_M_goes_25 (by decide) (fun _ => ?_) (fun h9 => absurd h9 (by decide))
      refine lv_iconst (v := (0 : Int32)) hx hb d_M_goes_32 (by decide) ?_
      have e9 : ((0 : Int32), (kup σ 7 0 (2 : Int32))) = f_M_goes σ p1 p2 := by rw [f_M_goes, if_neg q1, if_pos q2]
      exact W.zret (v := (0 : Int32)) hx hb hr (by decide) (fun t ht hW => ⟨by rw [← e9], by rw [ht, ← e9]; exact hP, hS.F ht⟩) hS.2.2 d_M_goes_33
  · refine lv_iconst (v := (1 : Int32)) hx hb d_M_goes_5 (by decide) ?_
    refine lv_goto (tgt := 18) hx hb d_M_goes_6 (by decide) ?_
    refine va_put (A := (kA 8 ad)) (D := D) (ci := 2) (v := .int (1 : Int32)) (ty := .int) (C := R_M) (T := F_M) (N := 17) hx hb hT in_M ft_M ft_M_ok n_M hown hK hP (hD _) hS 0 rfl rfl 0 (by decide) (hT _ fl_M_36) (fun _ h9 => h9) rfl (by decide +kernel) rfl rfl (Nat.le_of_ble_eq_true rfl) d_M_goes_18 (fun H locs hP _ hS => ?_)
    have hP := kst (mw_p0_0 cA ad σ (1 : Int32)) hP
    refine lv_aload_n hx hb d_M_goes_21 rfl (lv_at hl 0 rfl) ?_
    refine va_get (D := D) (ci := 2) (v := .int (1 : Int32)) (C := R_M) (T := F_M) (N := 17) hx hb hT in_M hown hK hP 0 rfl rfl 0 (by decide) (hT _ fl_M_36) (fun _ h9 => h9) rfl d_M_goes_22 ?_
    refine lv_if_ne (tgt := 32) hx hb d_M_goes_25 (by decide) (fun _ => ?_) (fun h9 => absurd h9 (by decide))
    refine lv_iconst (v := (0 : Int32)) hx hb d_M_goes_32 (by decide) ?_
    have e9 : ((0 : Int32), (kup σ 7 0 (1 : Int32))) = f_M_goes σ p1 p2 := by rw [f_M_goes, if_pos q1]
    exact W.zret (v := (0 : Int32)) hx hb hr (by decide) (fun t ht hW => ⟨by rw [← e9], by rw [ht, ← e9]; exact hP, hS.F ht⟩) hS.2.2 d_M_goes_33

def f_M_bit (σ : Nat → Nat → Int32) (r : Int32) (k : Int32) : Int32 := (if (((σ 0 (r).toNatClampNeg) >>> (k &&& 31)) &&& (1 : Int32)) = (1 : Int32) then (1 : Int32) else (0 : Int32))

theorem z_M_bit (σ : Nat → Nat → Int32) (r : Int32) (k : Int32) : f_M_bit σ r k = 0 ∨ f_M_bit σ r k = 1 := by
  rw [f_M_bit]
  repeat' split
  all_goals first | with_reducible exact Or.inl rfl | with_reducible exact Or.inr rfl

set_option maxRecDepth 100000 in
set_option maxHeartbeats 4000000 in
theorem c_M_bit (l : Launch) (D : va_G) (cA ad : Nat → Nat) (hap : kap 8 ad) (σ : Nat → Nat → Int32) (r : Int32) (k : Int32) (h1 : vp_in r 28) : Met l y_M_bit w_M_bit ({ frames := 0, cells := 0, slots := 0, locals := 0 } : Room) (va_Pc [.ref (ad 0), .int r, .int k] (mPre D cA ad σ)) (vp_Si (fun v => v = f_M_bit σ r k)) 0 0 (fun _ => False) := by
  refine Met.ofW (cc := b_M_bit) (maxL := 3) (ret := (some .boolean)) (by decide) rfl ?_
  intro p e s m args below meth c s₁ B hml hv
  obtain ⟨rfl, hv⟩ := hv
  obtain ⟨hP, hK⟩ := hv
  have hx := B.exec
  have hb := B.bytes
  have hr := B.returns
  have hlocks := B.notSynchronized
  have hT : ∀ w ∈ TB, w.before ([.ref (ad 0), .int r, .int k] : List Value).toArray s = true := fun w h => atoms_spec (ws := w_M_bit) B.pre w (List.mem_cons_of_mem _ h)
  have hown : s.vm.findClass R_M = some m.cls := findClass_of_methodNamed B.named
  have hS : va_S (kA 8 ad) s.heap s.heap [] := va_S.rf
  have hl := lv_entry ([.ref (ad 0), .int r, .int k]) (n := 3) (Nat.le_of_ble_eq_true rfl)
  rw [lg_entry_eq]
  generalize (lg_sl ([.ref (ad 0), .int r, .int k]) ++ List.replicate (3 - (lg_sl ([.ref (ad 0), .int r, .int k])).length) Slot.unset).toArray = ls at hl ⊢
  have hl : lv_has ls 3 [(0, .ref (ad 0)), (1, .int r), (2, .int k)] := hl
  refine lv_aload_n hx hb d_M_bit_0 rfl (lv_at hl 0 rfl) ?_
  refine va_get (D := D) (ci := 2) (v := .ref (ad 1)) (C := R_M) (T := F_M) (N := 17) hx hb hT in_M hown hK hP 0 rfl rfl 1 (by decide) (hT _ fl_M_7) (fun _ h9 => h9) rfl d_M_bit_1 ?_
  refine lv_iload_n hx hb d_M_bit_4 rfl (lv_at hl 1 rfl) ?_
  refine va_iald hx hb hK hP 1 0 rfl rfl (by first | assumption | exact kin (by decide)) d_M_bit_5 ?_
  refine lv_iload_n hx hb d_M_bit_6 rfl (lv_at hl 2 rfl) ?_
  refine lv_ishr hx hb d_M_bit_7 ?_
  refine lv_iconst (v := (1 : Int32)) hx hb d_M_bit_8 (by decide) ?_
  refine lv_iand hx hb d_M_bit_9 ?_
  refine lv_iconst (v := (1 : Int32)) hx hb d_M_bit_10 (by decide) ?_
  refine lv_icmp_ne (tgt := 18) hx hb d_M_bit_11 (by decide) (fun q1 => ?_) (fun q1 => ?_)
  · refine lv_iconst (v := (0 : Int32)) hx hb d_M_bit_18 (by decide) ?_
    have e9 : (0 : Int32) = f_M_bit σ r k := by rw [f_M_bit, if_neg q1]
    exact W.zret (v := (0 : Int32)) hx hb hr (by decide) (fun t ht hW => ⟨_, rfl, e9, ht⟩) (fun _ h => absurd h List.not_mem_nil) d_M_bit_19
  · refine lv_iconst (v := (1 : Int32)) hx hb d_M_bit_14 (by decide) ?_
    refine lv_goto (tgt := 19) hx hb d_M_bit_15 (by decide) ?_
    have e9 : (1 : Int32) = f_M_bit σ r k := by rw [f_M_bit, if_pos q1]
    exact W.zret (v := (1 : Int32)) hx hb hr (by decide) (fun t ht hW => ⟨_, rfl, e9, ht⟩) (fun _ h => absurd h List.not_mem_nil) d_M_bit_19

def f_M_copiesOf (σ : Nat → Nat → Int32) (side : Int32) : Int32 := ((σ 0 (((17 : Int32) + side)).toNatClampNeg) &&& (7 : Int32))

set_option maxRecDepth 100000 in
set_option maxHeartbeats 4000000 in
theorem c_M_copiesOf (l : Launch) (D : va_G) (cA ad : Nat → Nat) (hap : kap 8 ad) (σ : Nat → Nat → Int32) (side : Int32) (hs : side = 0 ∨ side = 1) : Met l y_M_copiesOf w_M_copiesOf ({ frames := 0, cells := 0, slots := 0, locals := 0 } : Room) (va_Pc [.ref (ad 0), .int side] (mPre D cA ad σ)) (vp_Si (fun v => v = f_M_copiesOf σ side)) 0 0 (fun _ => False) := by
  refine Met.ofW (cc := b_M_copiesOf) (maxL := 2) (ret := (some .int)) (by decide) rfl ?_
  intro p e s m args below meth c s₁ B hml hv
  obtain ⟨rfl, hv⟩ := hv
  obtain ⟨hP, hK⟩ := hv
  have hx := B.exec
  have hb := B.bytes
  have hr := B.returns
  have hlocks := B.notSynchronized
  have hT : ∀ w ∈ TB, w.before ([.ref (ad 0), .int side] : List Value).toArray s = true := fun w h => atoms_spec (ws := w_M_copiesOf) B.pre w (List.mem_cons_of_mem _ h)
  have hown : s.vm.findClass R_M = some m.cls := findClass_of_methodNamed B.named
  have hS : va_S (kA 8 ad) s.heap s.heap [] := va_S.rf
  have hl := lv_entry ([.ref (ad 0), .int side]) (n := 2) (Nat.le_of_ble_eq_true rfl)
  rw [lg_entry_eq]
  generalize (lg_sl ([.ref (ad 0), .int side]) ++ List.replicate (2 - (lg_sl ([.ref (ad 0), .int side])).length) Slot.unset).toArray = ls at hl ⊢
  have hl : lv_has ls 2 [(0, .ref (ad 0)), (1, .int side)] := hl
  refine lv_aload_n hx hb d_M_copiesOf_0 rfl (lv_at hl 0 rfl) ?_
  refine va_get (D := D) (ci := 2) (v := .ref (ad 1)) (C := R_M) (T := F_M) (N := 17) hx hb hT in_M hown hK hP 0 rfl rfl 1 (by decide) (hT _ fl_M_7) (fun _ h9 => h9) rfl d_M_copiesOf_1 ?_
  refine lv_bipush (v := (17 : Int32)) hx hb d_M_copiesOf_4 (by decide) ?_
  refine lv_iload_n hx hb d_M_copiesOf_6 rfl (lv_at hl 1 rfl) ?_
  refine lv_iadd hx hb d_M_copiesOf_7 ?_
  refine va_iald hx hb hK hP 1 0 rfl rfl (by first | assumption | exact kin (by decide) | ((rcases hs with rfl | rfl <;> exact kin (by decide)))) d_M_copiesOf_8 ?_
  refine lv_bipush (v := (7 : Int32)) hx hb d_M_copiesOf_9 (by decide) ?_
  refine lv_iand hx hb d_M_copiesOf_11 ?_
  have e9 : ((σ 0 (((17 : Int32) + side)).toNatClampNeg) &&& (7 : Int32)) = f_M_copiesOf σ side := by rw [f_M_copiesOf]
  exact W.iret (v := ((σ 0 (((17 : Int32) + side)).toNatClampNeg) &&& (7 : Int32))) hx hb hr (fun t ht hW => ⟨_, rfl, e9, ht⟩) (fun _ h => absurd h List.not_mem_nil) d_M_copiesOf_12

def f_M_wide (σ : Nat → Nat → Int32) (side : Int32) : Int32 := (if (f_M_copiesOf σ side) = (5 : Int32) then (2 : Int32) else (if (f_M_copiesOf σ side) = (7 : Int32) then (4 : Int32) else (1 : Int32)))

set_option maxRecDepth 100000 in
set_option maxHeartbeats 4000000 in
theorem c_M_wide (l : Launch) (D : va_G) (cA ad : Nat → Nat) (hap : kap 8 ad) (σ : Nat → Nat → Int32) (side : Int32) (hs : side = 0 ∨ side = 1) : Met l y_M_wide w_M_wide ({ frames := 1, cells := 0, slots := 0, locals := 21 } : Room) (va_Pc [.ref (ad 0), .int side] (mPre D cA ad σ)) (vp_Si (fun v => v = f_M_wide σ side)) 0 0 (fun _ => False) := by
  refine Met.ofW (cc := b_M_wide) (maxL := 2) (ret := (some .int)) (by decide) rfl ?_
  intro p e s m args below meth c s₁ B hml hv
  obtain ⟨rfl, hv⟩ := hv
  obtain ⟨hP, hK⟩ := hv
  have hx := B.exec
  have hb := B.bytes
  have hr := B.returns
  have hlocks := B.notSynchronized
  have hT : ∀ w ∈ TB, w.before ([.ref (ad 0), .int side] : List Value).toArray s = true := fun w h => atoms_spec (ws := w_M_wide) B.pre w (List.mem_cons_of_mem _ h)
  have hown : s.vm.findClass R_M = some m.cls := findClass_of_methodNamed B.named
  have hS : va_S (kA 8 ad) s.heap s.heap [] := va_S.rf
  have hl := lv_entry ([.ref (ad 0), .int side]) (n := 2) (Nat.le_of_ble_eq_true rfl)
  rw [lg_entry_eq]
  generalize (lg_sl ([.ref (ad 0), .int side]) ++ List.replicate (2 - (lg_sl ([.ref (ad 0), .int side])).length) Slot.unset).toArray = ls at hl ⊢
  have hl : lv_has ls 2 [(0, .ref (ad 0)), (1, .int side)] := hl
  refine lv_aload_n hx hb d_M_wide_0 rfl (lv_at hl 0 rfl) ?_
  refine lv_iload_n hx hb d_M_wide_1 rfl (lv_at hl 1 rfl) ?_
  refine vp_callSi (va_Run.run (va_runV (As := [.int side]) (rest := []) ⟨hx, hb, hml, hown, hT⟩ (c_M_copiesOf l D cA ad hap σ side (by first | assumption | exact kin (by decide))) (kCV 1 hT ml_M_39 mi_M_copiesOf ⟨Nat.le_of_ble_eq_true rfl, Nat.le_of_ble_eq_true rfl⟩) (mpreV hK hP) rfl rfl hl.1 rfl (lv_room (Nat.le_of_ble_eq_true rfl)) d_M_wide_2 ⟨Nat.le_of_ble_eq_true rfl, Nat.le_of_ble_eq_true rfl⟩)) (fun r9 e9 => ?_)
  subst e9
  refine lv_iconst (v := (5 : Int32)) hx hb d_M_wide_5 (by decide) ?_
  refine lv_icmp_ne (tgt := 13) hx hb d_M_wide_6 (by decide) (fun q1 => ?_) (fun q1 => ?_)
  · refine lv_aload_n hx hb d_M_wide_13 rfl (lv_at hl 0 rfl) ?_
    refine lv_iload_n hx hb d_M_wide_14 rfl (lv_at hl 1 rfl) ?_
    refine vp_callSi (va_Run.run (va_runV (As := [.int side]) (rest := []) ⟨hx, hb, hml, hown, hT⟩ (c_M_copiesOf l D cA ad hap σ side (by first | assumption | exact kin (by decide))) (kCV 1 hT ml_M_39 mi_M_copiesOf ⟨Nat.le_of_ble_eq_true rfl, Nat.le_of_ble_eq_true rfl⟩) (mpreV hK hP) rfl rfl hl.1 rfl (lv_room (Nat.le_of_ble_eq_true rfl)) d_M_wide_15 ⟨Nat.le_of_ble_eq_true rfl, Nat.le_of_ble_eq_true rfl⟩)) (fun r9 e9 => ?_)
    subst e9
    refine lv_bipush (v := (7 : Int32)) hx hb d_M_wide_18 (by decide) ?_
    refine lv_icmp_ne (tgt := 27) hx hb d_M_wide_20 (by decide) (fun q2 => ?_) (fun q2 => ?_)
    · refine lv_iconst (v := (1 : Int32)) hx hb d_M_wide_27 (by decide) ?_
      have e9 : (1 : Int32) = f_M_wide σ side := by rw [f_M_wide, if_neg q1, if_neg q2]
      exact W.iret (v := (1 : Int32)) hx hb hr (fun t ht hW => ⟨_, rfl, e9, ht⟩) (fun _ h => absurd h List.not_mem_nil) d_M_wide_28
    · refine lv_iconst (v := (4 : Int32)) hx hb d_M_wide_23 (by decide) ?_
      refine lv_goto (tgt := 28) hx hb d_M_wide_24 (by decide) ?_
      have e9 : (4 : Int32) = f_M_wide σ side := by rw [f_M_wide, if_neg q1, if_pos q2]
      exact W.iret (v := (4 : Int32)) hx hb hr (fun t ht hW => ⟨_, rfl, e9, ht⟩) (fun _ h => absurd h List.not_mem_nil) d_M_wide_28
  · refine lv_iconst (v := (2 : Int32)) hx hb d_M_wide_9 (by decide) ?_
    refine lv_goto (tgt := 28) hx hb d_M_wide_10 (by decide) ?_
    have e9 : (2 : Int32) = f_M_wide σ side := by rw [f_M_wide, if_pos q1]
    exact W.iret (v := (2 : Int32)) hx hb hr (fun t ht hW => ⟨_, rfl, e9, ht⟩) (fun _ h => absurd h List.not_mem_nil) d_M_wide_28

theorem kgo0 (σ : Nat → Nat → Int32) (p : Int32) : (f_M_goes σ 0 p).1 = 0 := by rw [f_M_goes, if_pos rfl]
theorem kgo1 (σ : Nat → Nat → Int32) : ¬ (f_M_goes σ 1 1).1 = 0 := by
  rw [f_M_goes, if_neg (by decide), if_neg (by decide)]
  show ¬ (1 : Int32) = 0
  decide
theorem kwr0 {σ : Nat → Nat → Int32} {p1 p2 : Int32} {R : Prop} (hj : p1 = 0 ∨ R) (h : ¬ (f_M_goes σ p1 p2).1 = 0) : R := hj.elim (fun e => absurd (by rw [e, kgo0]) h) id
theorem kgoN {σ : Nat → Nat → Int32} {p1 p2 : Int32} {a j : Nat} (h : a ≠ 7 ∨ j ≠ 0) : (f_M_goes σ p1 p2).2 a j = σ a j := by
  have key : ∀ v : Int32, kup σ 7 0 v a j = σ a j := by
    intro v
    unfold kup
    split
    · unfold upd
      rename_i e
      rw [if_neg (fun e2 => h.elim (fun q => q e) (fun q => q e2))]
    · rfl
  rw [f_M_goes]
  repeat' split
  all_goals exact key _
theorem kball {σ : Nat → Nat → Int32} {p1 p2 : Int32} (h : σ 7 1 = 0 ∨ σ 7 1 = 1) : (f_M_goes σ p1 p2).2 7 1 = 0 ∨ (f_M_goes σ p1 p2).2 7 1 = 1 := by
  rw [kgoN (Or.inr (by decide))]
  exact h
theorem mClk_goes {σ : Nat → Nat → Int32} {p1 p2 : Int32} (h : mClk σ) : mClk (f_M_goes σ p1 p2).2 := by
  unfold mClk
  rw [kgoN (Or.inr (by decide))]
  exact h
theorem mClk_thr {σ : Nat → Nat → Int32} {v : Int32} (h : mClk σ) : mClk (kup σ 7 0 v) := h
theorem kwide_ne (σ : Nat → Nat → Int32) (side : Int32) : ¬ f_M_wide σ side = 0 := by
  rw [f_M_wide]
  repeat' split
  all_goals decide
def f_M_lock (σ : Nat → Nat → Int32) (side : Int32) (v : Int32) : (Nat → Nat → Int32) := (if (f_M_bit σ ((21 : Int32) + side) (1 : Int32)) = 0 then σ else (if ((v >>> ((1 : Int32) &&& 31)) &&& (1 : Int32)) = 0 then (kup σ 1 (((2 : Int32) + side)).toNatClampNeg (((σ 1 (side).toNatClampNeg) + ((4 : Int32) * (f_M_wide σ side))) - ((σ 1 (side).toNatClampNeg) + ((4 : Int32) * (f_M_wide σ side))) / (160 : Int32) * (160 : Int32))) else σ))

set_option maxRecDepth 100000 in
set_option maxHeartbeats 4000000 in
theorem c_M_lock (l : Launch) (D : va_G) (cA ad : Nat → Nat) (hap : kap 8 ad) (σ : Nat → Nat → Int32) (side : Int32) (v : Int32) (hs : side = 0 ∨ side = 1) : Met l y_M_lock w_M_lock ({ frames := 2, cells := 0, slots := 0, locals := 42 } : Room) (va_Pc [.ref (ad 0), .int side, .int v] (mPre D cA ad σ)) (kQv D (mw cA ad (f_M_lock σ side v)) (kA 8 ad)) 0 0 (kA 8 ad) := by
  refine Met.ofW (cc := b_M_lock) (maxL := 4) (ret := none) (by decide) rfl ?_
  intro p e s m args below meth c s₁ B hml hv
  obtain ⟨rfl, hv⟩ := hv
  obtain ⟨hP, hK⟩ := hv
  have hx := B.exec
  have hb := B.bytes
  have hr := B.returns
  have hlocks := B.notSynchronized
  have hT : ∀ w ∈ TB, w.before ([.ref (ad 0), .int side, .int v] : List Value).toArray s = true := fun w h => atoms_spec (ws := w_M_lock) B.pre w (List.mem_cons_of_mem _ h)
  have hown : s.vm.findClass R_M = some m.cls := findClass_of_methodNamed B.named
  have hS : va_S (kA 8 ad) s.heap s.heap [] := va_S.rf
  have hD : ∀ σ, va_D (kA 8 ad) (mw cA ad σ) := fun σ => kD hap rfl
  have hl := lv_entry ([.ref (ad 0), .int side, .int v]) (n := 4) (Nat.le_of_ble_eq_true rfl)
  rw [lg_entry_eq]
  generalize (lg_sl ([.ref (ad 0), .int side, .int v]) ++ List.replicate (4 - (lg_sl ([.ref (ad 0), .int side, .int v])).length) Slot.unset).toArray = ls at hl ⊢
  have hl : lv_has ls 4 [(0, .ref (ad 0)), (1, .int side), (2, .int v)] := hl
  refine lv_aload_n hx hb d_M_lock_0 rfl (lv_at hl 0 rfl) ?_
  refine lv_bipush (v := (21 : Int32)) hx hb d_M_lock_1 (by decide) ?_
  refine lv_iload_n hx hb d_M_lock_3 rfl (lv_at hl 1 rfl) ?_
  refine lv_iadd hx hb d_M_lock_4 ?_
  refine lv_iconst (v := (1 : Int32)) hx hb d_M_lock_5 (by decide) ?_
  refine vp_callSi (va_Run.run (va_runV (As := [.int ((21 : Int32) + side), .int (1 : Int32)]) (rest := []) ⟨hx, hb, hml, hown, hT⟩ (c_M_bit l D cA ad hap σ ((21 : Int32) + side) (1 : Int32) (by first | assumption | exact kin (by decide) | ((rcases hs with rfl | rfl <;> exact kin (by decide))))) (kCV 2 hT ml_M_43 mi_M_bit ⟨Nat.le_of_ble_eq_true rfl, Nat.le_of_ble_eq_true rfl⟩) (mpreV hK hP) rfl rfl hl.1 rfl (lv_room (Nat.le_of_ble_eq_true rfl)) d_M_lock_6 ⟨Nat.le_of_ble_eq_true rfl, Nat.le_of_ble_eq_true rfl⟩)) (fun r9 e9 => ?_)
  subst e9
  refine lv_if_eq (tgt := 24) hx hb d_M_lock_9 (by decide) (fun q1 => ?_) (fun q1 => ?_)
  · refine lv_iconst (v := (0 : Int32)) hx hb d_M_lock_24 (by decide) ?_
    refine lv_istore_n (lv' := [(3, .int (0 : Int32)), (0, .ref (ad 0)), (1, .int side), (2, .int v)]) hx hb d_M_lock_25 rfl hl (by decide) rfl (fun ls hl => ?_)
    refine lv_iload_n hx hb d_M_lock_26 rfl (lv_at hl 0 rfl) ?_
    refine lv_if_eq (tgt := 56) hx hb d_M_lock_27 (by decide) (fun _ => ?_) (fun h9 => absurd (by decide) h9)
    have e9 : σ = f_M_lock σ side v := by rw [f_M_lock, if_pos q1]
    exact W.vret hx hb hr (fun t ht hW => ⟨rfl, by rw [ht, ← e9]; exact hP, hS.F ht⟩) hS.2.2 d_M_lock_56
  · refine lv_iload_n hx hb d_M_lock_12 rfl (lv_at hl 2 rfl) ?_
    refine lv_iconst (v := (1 : Int32)) hx hb d_M_lock_13 (by decide) ?_
    refine lv_ishr hx hb d_M_lock_14 ?_
    refine lv_iconst (v := (1 : Int32)) hx hb d_M_lock_15 (by decide) ?_
    refine lv_iand hx hb d_M_lock_16 ?_
    refine lv_if_ne (tgt := 24) hx hb d_M_lock_17 (by decide) (fun q2 => ?_) (fun q2 => ?_)
    · refine lv_iconst (v := (0 : Int32)) hx hb d_M_lock_24 (by decide) ?_
      refine lv_istore_n (lv' := [(3, .int (0 : Int32)), (0, .ref (ad 0)), (1, .int side), (2, .int v)]) hx hb d_M_lock_25 rfl hl (by decide) rfl (fun ls hl => ?_)
      refine lv_iload_n hx hb d_M_lock_26 rfl (lv_at hl 0 rfl) ?_
      refine lv_if_eq (tgt := 56) hx hb d_M_lock_27 (by decide) (fun _ => ?_) (fun h9 => absurd (by decide) h9)
      have e9 : σ = f_M_lock σ side v := by rw [f_M_lock, if_neg q1, if_neg q2]
      exact W.vret hx hb hr (fun t ht hW => ⟨rfl, by rw [ht, ← e9]; exact hP, hS.F ht⟩) hS.2.2 d_M_lock_56
    · refine lv_iconst (v := (1 : Int32)) hx hb d_M_lock_20 (by decide) ?_
      refine lv_goto (tgt := 25) hx hb d_M_lock_21 (by decide) ?_
      refine lv_istore_n (lv' := [(3, .int (1 : Int32)), (0, .ref (ad 0)), (1, .int side), (2, .int v)]) hx hb d_M_lock_25 rfl hl (by decide) rfl (fun ls hl => ?_)
      refine lv_iload_n hx hb d_M_lock_26 rfl (lv_at hl 0 rfl) ?_
      refine lv_if_eq (tgt := 56) hx hb d_M_lock_27 (by decide) (fun h9 => absurd h9 (by decide)) (fun _ => ?_)
      refine lv_aload_n hx hb d_M_lock_30 rfl (lv_at hl 1 rfl) ?_
      refine va_get (D := D) (ci := 2) (v := .ref (ad 2)) (C := R_M) (T := F_M) (N := 17) hx hb hT in_M hown hK hP 0 rfl rfl 2 (by decide) (hT _ fl_M_13) (fun _ h9 => h9) rfl d_M_lock_31 ?_
      refine lv_iconst (v := (2 : Int32)) hx hb d_M_lock_34 (by decide) ?_
      refine lv_iload_n hx hb d_M_lock_35 rfl (lv_at hl 2 rfl) ?_
      refine lv_iadd hx hb d_M_lock_36 ?_
      refine lv_aload_n hx hb d_M_lock_37 rfl (lv_at hl 1 rfl) ?_
      refine va_get (D := D) (ci := 2) (v := .ref (ad 2)) (C := R_M) (T := F_M) (N := 17) hx hb hT in_M hown hK hP 0 rfl rfl 2 (by decide) (hT _ fl_M_13) (fun _ h9 => h9) rfl d_M_lock_38 ?_
      refine lv_iload_n hx hb d_M_lock_41 rfl (lv_at hl 2 rfl) ?_
      refine va_iald hx hb hK hP 2 0 rfl rfl (by first | assumption | exact kin (by decide) | ((rcases hs with rfl | rfl <;> exact kin (by decide)))) d_M_lock_42 ?_
      refine lv_iconst (v := (4 : Int32)) hx hb d_M_lock_43 (by decide) ?_
      refine lv_aload_n hx hb d_M_lock_44 rfl (lv_at hl 1 rfl) ?_
      refine lv_iload_n hx hb d_M_lock_45 rfl (lv_at hl 2 rfl) ?_
      refine vp_callSi (va_Run.run (va_runV (As := [.int side]) (rest := [.int (4 : Int32), .int (σ 1 (side).toNatClampNeg), .int ((2 : Int32) + side), .ref (ad 2)]) ⟨hx, hb, hml, hown, hT⟩ (c_M_wide l D cA ad hap σ side (by first | assumption | exact kin (by decide) | ((rcases hs with rfl | rfl <;> exact kin (by decide))))) (kCV 1 hT ml_M_47 mi_M_wide ⟨Nat.le_of_ble_eq_true rfl, Nat.le_of_ble_eq_true rfl⟩) (mpreV hK hP) rfl rfl hl.1 rfl (lv_room (Nat.le_of_ble_eq_true rfl)) d_M_lock_46 ⟨Nat.le_of_ble_eq_true rfl, Nat.le_of_ble_eq_true rfl⟩)) (fun r9 e9 => ?_)
      subst e9
      refine lv_imul hx hb d_M_lock_49 ?_
      refine lv_iadd hx hb d_M_lock_50 ?_
      refine lv_sipush (v := (160 : Int32)) hx hb d_M_lock_51 (by decide) ?_
      refine lv_irem hx hb d_M_lock_54 (by decide) ?_
      refine va_iast (A := (kA 8 ad)) hx hb hK hP (hD _) hS 2 0 rfl rfl (by first | assumption | exact kin (by decide) | ((rcases hs with rfl | rfl <;> exact kin (by decide)))) d_M_lock_55 (fun H locs hP _ hS => ?_)
      have hP := kst (mw_s2 cA ad σ (((2 : Int32) + side)).toNatClampNeg (((σ 1 (side).toNatClampNeg) + ((4 : Int32) * (f_M_wide σ side))) - ((σ 1 (side).toNatClampNeg) + ((4 : Int32) * (f_M_wide σ side))) / (160 : Int32) * (160 : Int32))) hP
      have e9 : (kup σ 1 (((2 : Int32) + side)).toNatClampNeg (((σ 1 (side).toNatClampNeg) + ((4 : Int32) * (f_M_wide σ side))) - ((σ 1 (side).toNatClampNeg) + ((4 : Int32) * (f_M_wide σ side))) / (160 : Int32) * (160 : Int32))) = f_M_lock σ side v := by rw [f_M_lock, if_neg q1, if_pos q2]
      exact W.vret hx hb hr (fun t ht hW => ⟨rfl, by rw [ht, ← e9]; exact hP, hS.F ht⟩) hS.2.2 d_M_lock_56

def f_M_reset (σ : Nat → Nat → Int32) (o : Int32) : (Nat → Nat → Int32) := (if (2 : Int32) ≤ o then (if 0 ≤ ((σ 7 3) - (68 : Int32)) then (kup σ 1 (o).toNatClampNeg ((((σ 7 3) - (68 : Int32)) + (4 : Int32)) - (((σ 7 3) - (68 : Int32)) + (4 : Int32)) / (160 : Int32) * (160 : Int32))) else (kup σ 1 (o).toNatClampNeg (2 : Int32))) else (if 0 ≤ ((σ 7 3) - (68 : Int32)) then (kup σ 1 (o).toNatClampNeg ((((σ 7 3) - (68 : Int32)) + (5 : Int32)) - (((σ 7 3) - (68 : Int32)) + (5 : Int32)) / (160 : Int32) * (160 : Int32))) else (kup σ 1 (o).toNatClampNeg (3 : Int32))))

set_option maxRecDepth 100000 in
set_option maxHeartbeats 4000000 in
theorem c_M_reset (l : Launch) (D : va_G) (cA ad : Nat → Nat) (hap : kap 8 ad) (σ : Nat → Nat → Int32) (o : Int32) (h1 : vp_in o 5) : Met l y_M_reset w_M_reset ({ frames := 0, cells := 0, slots := 0, locals := 0 } : Room) (va_Pc [.ref (ad 0), .int o] (mPre D cA ad σ)) (kQv D (mw cA ad (f_M_reset σ o)) (kA 8 ad)) 0 0 (kA 8 ad) := by
  refine Met.ofW (cc := b_M_reset) (maxL := 3) (ret := none) (by decide) rfl ?_
  intro p e s m args below meth c s₁ B hml hv
  obtain ⟨rfl, hv⟩ := hv
  obtain ⟨hP, hK⟩ := hv
  have hx := B.exec
  have hb := B.bytes
  have hr := B.returns
  have hlocks := B.notSynchronized
  have hT : ∀ w ∈ TB, w.before ([.ref (ad 0), .int o] : List Value).toArray s = true := fun w h => atoms_spec (ws := w_M_reset) B.pre w (List.mem_cons_of_mem _ h)
  have hown : s.vm.findClass R_M = some m.cls := findClass_of_methodNamed B.named
  have hS : va_S (kA 8 ad) s.heap s.heap [] := va_S.rf
  have hD : ∀ σ, va_D (kA 8 ad) (mw cA ad σ) := fun σ => kD hap rfl
  have hl := lv_entry ([.ref (ad 0), .int o]) (n := 3) (Nat.le_of_ble_eq_true rfl)
  rw [lg_entry_eq]
  generalize (lg_sl ([.ref (ad 0), .int o]) ++ List.replicate (3 - (lg_sl ([.ref (ad 0), .int o])).length) Slot.unset).toArray = ls at hl ⊢
  have hl : lv_has ls 3 [(0, .ref (ad 0)), (1, .int o)] := hl
  refine lv_aload_n hx hb d_M_reset_0 rfl (lv_at hl 0 rfl) ?_
  refine va_get (D := D) (ci := 2) (v := .int (σ 7 3)) (C := R_M) (T := F_M) (N := 17) hx hb hT in_M hown hK hP 0 rfl rfl 10 (by decide) (hT _ fl_M_50) (fun _ h9 => h9) rfl d_M_reset_1 ?_
  refine lv_bipush (v := (68 : Int32)) hx hb d_M_reset_4 (by decide) ?_
  refine lv_isub hx hb d_M_reset_6 ?_
  refine lv_istore_n (lv' := [(2, .int ((σ 7 3) - (68 : Int32))), (0, .ref (ad 0)), (1, .int o)]) hx hb d_M_reset_7 rfl hl (by decide) rfl (fun ls hl => ?_)
  refine lv_iload_n hx hb d_M_reset_8 rfl (lv_at hl 2 rfl) ?_
  refine lv_iconst (v := (2 : Int32)) hx hb d_M_reset_9 (by decide) ?_
  refine lv_icmp_ge (tgt := 37) hx hb d_M_reset_10 (by decide) (fun q1 => ?_) (fun q1 => ?_)
  · refine lv_aload_n hx hb d_M_reset_37 rfl (lv_at hl 1 rfl) ?_
    refine va_get (D := D) (ci := 2) (v := .ref (ad 2)) (C := R_M) (T := F_M) (N := 17) hx hb hT in_M hown hK hP 0 rfl rfl 2 (by decide) (hT _ fl_M_13) (fun _ h9 => h9) rfl d_M_reset_38 ?_
    refine lv_iload_n hx hb d_M_reset_41 rfl (lv_at hl 2 rfl) ?_
    refine lv_iload_n hx hb d_M_reset_42 rfl (lv_at hl 0 rfl) ?_
    refine lv_if_ge (tgt := 50) hx hb d_M_reset_43 (by decide) (fun q2 => ?_) (fun q2 => ?_)
    · refine lv_iload_n hx hb d_M_reset_50 rfl (lv_at hl 0 rfl) ?_
      refine lv_iconst (v := (4 : Int32)) hx hb d_M_reset_51 (by decide) ?_
      refine lv_iadd hx hb d_M_reset_52 ?_
      refine lv_sipush (v := (160 : Int32)) hx hb d_M_reset_53 (by decide) ?_
      refine lv_irem hx hb d_M_reset_56 (by decide) ?_
      refine va_iast (A := (kA 8 ad)) hx hb hK hP (hD _) hS 2 0 rfl rfl (by first | assumption | exact kin (by decide)) d_M_reset_57 (fun H locs hP _ hS => ?_)
      have hP := kst (mw_s2 cA ad σ (o).toNatClampNeg ((((σ 7 3) - (68 : Int32)) + (4 : Int32)) - (((σ 7 3) - (68 : Int32)) + (4 : Int32)) / (160 : Int32) * (160 : Int32))) hP
      have e9 : (kup σ 1 (o).toNatClampNeg ((((σ 7 3) - (68 : Int32)) + (4 : Int32)) - (((σ 7 3) - (68 : Int32)) + (4 : Int32)) / (160 : Int32) * (160 : Int32))) = f_M_reset σ o := by rw [f_M_reset, if_pos q1, if_pos q2]
      exact W.vret hx hb hr (fun t ht hW => ⟨rfl, by rw [ht, ← e9]; exact hP, hS.F ht⟩) hS.2.2 d_M_reset_58
    · refine lv_iconst (v := (2 : Int32)) hx hb d_M_reset_46 (by decide) ?_
      refine lv_goto (tgt := 57) hx hb d_M_reset_47 (by decide) ?_
      refine va_iast (A := (kA 8 ad)) hx hb hK hP (hD _) hS 2 0 rfl rfl (by first | assumption | exact kin (by decide)) d_M_reset_57 (fun H locs hP _ hS => ?_)
      have hP := kst (mw_s2 cA ad σ (o).toNatClampNeg (2 : Int32)) hP
      have e9 : (kup σ 1 (o).toNatClampNeg (2 : Int32)) = f_M_reset σ o := by rw [f_M_reset, if_pos q1, if_neg q2]
      exact W.vret hx hb hr (fun t ht hW => ⟨rfl, by rw [ht, ← e9]; exact hP, hS.F ht⟩) hS.2.2 d_M_reset_58
  · refine lv_aload_n hx hb d_M_reset_13 rfl (lv_at hl 1 rfl) ?_
    refine va_get (D := D) (ci := 2) (v := .ref (ad 2)) (C := R_M) (T := F_M) (N := 17) hx hb hT in_M hown hK hP 0 rfl rfl 2 (by decide) (hT _ fl_M_13) (fun _ h9 => h9) rfl d_M_reset_14 ?_
    refine lv_iload_n hx hb d_M_reset_17 rfl (lv_at hl 2 rfl) ?_
    refine lv_iload_n hx hb d_M_reset_18 rfl (lv_at hl 0 rfl) ?_
    refine lv_if_ge (tgt := 26) hx hb d_M_reset_19 (by decide) (fun q3 => ?_) (fun q3 => ?_)
    · refine lv_iload_n hx hb d_M_reset_26 rfl (lv_at hl 0 rfl) ?_
      refine lv_iconst (v := (5 : Int32)) hx hb d_M_reset_27 (by decide) ?_
      refine lv_iadd hx hb d_M_reset_28 ?_
      refine lv_sipush (v := (160 : Int32)) hx hb d_M_reset_29 (by decide) ?_
      refine lv_irem hx hb d_M_reset_32 (by decide) ?_
      refine va_iast (A := (kA 8 ad)) hx hb hK hP (hD _) hS 2 0 rfl rfl (by first | assumption | exact kin (by decide)) d_M_reset_33 (fun H locs hP _ hS => ?_)
      have hP := kst (mw_s2 cA ad σ (o).toNatClampNeg ((((σ 7 3) - (68 : Int32)) + (5 : Int32)) - (((σ 7 3) - (68 : Int32)) + (5 : Int32)) / (160 : Int32) * (160 : Int32))) hP
      refine lv_goto (tgt := 58) hx hb d_M_reset_34 (by decide) ?_
      have e9 : (kup σ 1 (o).toNatClampNeg ((((σ 7 3) - (68 : Int32)) + (5 : Int32)) - (((σ 7 3) - (68 : Int32)) + (5 : Int32)) / (160 : Int32) * (160 : Int32))) = f_M_reset σ o := by rw [f_M_reset, if_neg q1, if_pos q3]
      exact W.vret hx hb hr (fun t ht hW => ⟨rfl, by rw [ht, ← e9]; exact hP, hS.F ht⟩) hS.2.2 d_M_reset_58
    · refine lv_iconst (v := (3 : Int32)) hx hb d_M_reset_22 (by decide) ?_
      refine lv_goto (tgt := 33) hx hb d_M_reset_23 (by decide) ?_
      refine va_iast (A := (kA 8 ad)) hx hb hK hP (hD _) hS 2 0 rfl rfl (by first | assumption | exact kin (by decide)) d_M_reset_33 (fun H locs hP _ hS => ?_)
      have hP := kst (mw_s2 cA ad σ (o).toNatClampNeg (3 : Int32)) hP
      refine lv_goto (tgt := 58) hx hb d_M_reset_34 (by decide) ?_
      have e9 : (kup σ 1 (o).toNatClampNeg (3 : Int32)) = f_M_reset σ o := by rw [f_M_reset, if_neg q1, if_neg q3]
      exact W.vret hx hb hr (fun t ht hW => ⟨rfl, by rw [ht, ← e9]; exact hP, hS.F ht⟩) hS.2.2 d_M_reset_58

def f_M_move_lp2 (σ : Nat → Nat → Int32) : Nat → Int32 → (Nat → Nat → Int32) → (Nat → Nat → Int32)
  | 0, i, σ1 => σ1
  | n + 1, i, σ1 => (if ((σ1 0 (((23 : Int32) + i)).toNatClampNeg) / (16 : Int32)) ≤ (7 : Int32) then (f_M_move_lp2 σ n (i + 1) (kup σ1 1 (i).toNatClampNeg ((((σ1 1 (i).toNatClampNeg) - ((σ1 0 (((23 : Int32) + i)).toNatClampNeg) / (16 : Int32))) + (160 : Int32)) - (((σ1 1 (i).toNatClampNeg) - ((σ1 0 (((23 : Int32) + i)).toNatClampNeg) / (16 : Int32))) + (160 : Int32)) / (160 : Int32) * (160 : Int32)))) else (f_M_move_lp2 σ n (i + 1) (kup σ1 1 (i).toNatClampNeg ((((σ1 1 (i).toNatClampNeg) - (((σ1 0 (((23 : Int32) + i)).toNatClampNeg) / (16 : Int32)) - (16 : Int32))) + (160 : Int32)) - (((σ1 1 (i).toNatClampNeg) - (((σ1 0 (((23 : Int32) + i)).toNatClampNeg) / (16 : Int32)) - (16 : Int32))) + (160 : Int32)) / (160 : Int32) * (160 : Int32)))))
theorem f_M_move_lp2_z (σ : Nat → Nat → Int32) (i : Int32) (σ1 : Nat → Nat → Int32) : f_M_move_lp2 σ 0 i σ1 = σ1 := rfl
theorem f_M_move_lp2_s (σ : Nat → Nat → Int32) (n : Nat) (i : Int32) (σ1 : Nat → Nat → Int32) : f_M_move_lp2 σ (n + 1) i σ1 = (if ((σ1 0 (((23 : Int32) + i)).toNatClampNeg) / (16 : Int32)) ≤ (7 : Int32) then (f_M_move_lp2 σ n (i + 1) (kup σ1 1 (i).toNatClampNeg ((((σ1 1 (i).toNatClampNeg) - ((σ1 0 (((23 : Int32) + i)).toNatClampNeg) / (16 : Int32))) + (160 : Int32)) - (((σ1 1 (i).toNatClampNeg) - ((σ1 0 (((23 : Int32) + i)).toNatClampNeg) / (16 : Int32))) + (160 : Int32)) / (160 : Int32) * (160 : Int32)))) else (f_M_move_lp2 σ n (i + 1) (kup σ1 1 (i).toNatClampNeg ((((σ1 1 (i).toNatClampNeg) - (((σ1 0 (((23 : Int32) + i)).toNatClampNeg) / (16 : Int32)) - (16 : Int32))) + (160 : Int32)) - (((σ1 1 (i).toNatClampNeg) - (((σ1 0 (((23 : Int32) + i)).toNatClampNeg) / (16 : Int32)) - (16 : Int32))) + (160 : Int32)) / (160 : Int32) * (160 : Int32))))) := rfl

def f_M_move (σ : Nat → Nat → Int32) : (Nat → Nat → Int32) := (f_M_move_lp2 σ 5 (0 : Int32) σ)

set_option maxRecDepth 100000 in
set_option maxHeartbeats 4000000 in
theorem c_M_move (l : Launch) (D : va_G) (cA ad : Nat → Nat) (hap : kap 8 ad) (σ : Nat → Nat → Int32) : Met l y_M_move w_M_move ({ frames := 0, cells := 0, slots := 0, locals := 0 } : Room) (va_Pc [.ref (ad 0)] (mPre D cA ad σ)) (kQv D (mw cA ad (f_M_move σ)) (kA 8 ad)) 0 0 (kA 8 ad) := by
  refine Met.ofW (cc := b_M_move) (maxL := 3) (ret := none) (by decide) rfl ?_
  intro p e s m args below meth c s₁ B hml hv
  obtain ⟨rfl, hv⟩ := hv
  obtain ⟨hP, hK⟩ := hv
  have hx := B.exec
  have hb := B.bytes
  have hr := B.returns
  have hlocks := B.notSynchronized
  have hT : ∀ w ∈ TB, w.before ([.ref (ad 0)] : List Value).toArray s = true := fun w h => atoms_spec (ws := w_M_move) B.pre w (List.mem_cons_of_mem _ h)
  have hown : s.vm.findClass R_M = some m.cls := findClass_of_methodNamed B.named
  have hS : va_S (kA 8 ad) s.heap s.heap [] := va_S.rf
  have hD : ∀ σ, va_D (kA 8 ad) (mw cA ad σ) := fun σ => kD hap rfl
  have hl := lv_entry ([.ref (ad 0)]) (n := 3) (Nat.le_of_ble_eq_true rfl)
  rw [lg_entry_eq]
  generalize (lg_sl ([.ref (ad 0)]) ++ List.replicate (3 - (lg_sl ([.ref (ad 0)])).length) Slot.unset).toArray = ls at hl ⊢
  have hl : lv_has ls 3 [(0, .ref (ad 0))] := hl
  have loop2 : ∀ (n i : Nat) (σ1 : Nat → Nat → Int32) (H : Heap) (locs : List Loc) (ls : Array Slot), i + n = 5 → lv_has ls 3 [(1, .int (nI i)), (0, .ref (ad 0))] → va_P D classes (mw cA ad σ1) H → va_S (kA 8 ad) s.heap H locs → f_M_move_lp2 σ n (nI i) σ1 = f_M_move σ → W p l e (headSpec w_M_move ({ frames := 0, cells := 0, slots := 0, locals := 0 } : Room)).room s m ([.ref (ad 0)] : List Value).toArray below meth c H locs 0 0 (MQ below (kQv D (mw cA ad (f_M_move σ)) (kA 8 ad)) ([.ref (ad 0)] : List Value).toArray s 0 0 (kA 8 ad)) (F0 m 2 ls []) := by
    intro n
    induction n with
    | zero =>
      intro i σ1 H locs ls hi hl hP hS hg
      refine lv_iload_n hx hb d_M_move_2 rfl (lv_at hl 0 rfl) ?_
      refine lv_iconst (v := (5 : Int32)) hx hb d_M_move_3 (by decide) ?_
      refine lv_icmp_ge (tgt := 63) hx hb d_M_move_4 (by decide) (fun _ => ?_) (fun h9 => absurd (nI_le (a := 5) (b := i) (by omega) (by omega)) h9)
      have e9 : σ1 = f_M_move σ := by rw [← hg, f_M_move_lp2_z]
      exact W.vret hx hb hr (fun t ht hW => ⟨rfl, by rw [ht, ← e9]; exact hP, hS.F ht⟩) hS.2.2 d_M_move_63
    | succ n ih =>
      intro i σ1 H locs ls hi hl hP hS hg
      refine lv_iload_n hx hb d_M_move_2 rfl (lv_at hl 0 rfl) ?_
      refine lv_iconst (v := (5 : Int32)) hx hb d_M_move_3 (by decide) ?_
      refine lv_icmp_ge (tgt := 63) hx hb d_M_move_4 (by decide) (fun h9 => absurd h9 (nI_ge (a := i) (b := 5) (by omega) (by decide))) (fun _ => ?_)
      refine lv_aload_n hx hb d_M_move_7 rfl (lv_at hl 1 rfl) ?_
      refine va_get (D := D) (ci := 2) (v := .ref (ad 1)) (C := R_M) (T := F_M) (N := 17) hx hb hT in_M hown hK hP 0 rfl rfl 1 (by decide) (hT _ fl_M_7) (fun _ h9 => h9) rfl d_M_move_8 ?_
      refine lv_bipush (v := (23 : Int32)) hx hb d_M_move_11 (by decide) ?_
      refine lv_iload_n hx hb d_M_move_13 rfl (lv_at hl 0 rfl) ?_
      refine lv_iadd hx hb d_M_move_14 ?_
      refine va_iald hx hb hK hP 1 0 rfl rfl (by first | assumption | exact kin (by decide) | exact vp_in_nI (by omega) (by decide) | exact kin23m (by omega)) d_M_move_15 ?_
      refine lv_bipush (v := (16 : Int32)) hx hb d_M_move_16 (by decide) ?_
      refine lv_idiv hx hb d_M_move_18 (by decide) ?_
      refine lv_istore_n (lv' := [(2, .int ((σ1 0 (((23 : Int32) + (nI i))).toNatClampNeg) / (16 : Int32))), (1, .int (nI i)), (0, .ref (ad 0))]) hx hb d_M_move_19 rfl hl (by decide) rfl (fun ls hl => ?_)
      refine lv_iload_n hx hb d_M_move_20 rfl (lv_at hl 0 rfl) ?_
      refine lv_bipush (v := (7 : Int32)) hx hb d_M_move_21 (by decide) ?_
      refine lv_icmp_le (tgt := 33) hx hb d_M_move_23 (by decide) (fun q1 => ?_) (fun q1 => ?_)
      · refine lv_iload_n hx hb d_M_move_33 rfl (lv_at hl 0 rfl) ?_
        refine lv_istore_n (lv' := [(2, .int ((σ1 0 (((23 : Int32) + (nI i))).toNatClampNeg) / (16 : Int32))), (1, .int (nI i)), (0, .ref (ad 0))]) hx hb d_M_move_34 rfl hl (by decide) rfl (fun ls hl => ?_)
        refine lv_aload_n hx hb d_M_move_35 rfl (lv_at hl 2 rfl) ?_
        refine va_get (D := D) (ci := 2) (v := .ref (ad 2)) (C := R_M) (T := F_M) (N := 17) hx hb hT in_M hown hK hP 0 rfl rfl 2 (by decide) (hT _ fl_M_13) (fun _ h9 => h9) rfl d_M_move_36 ?_
        refine lv_iload_n hx hb d_M_move_39 rfl (lv_at hl 1 rfl) ?_
        refine lv_aload_n hx hb d_M_move_40 rfl (lv_at hl 2 rfl) ?_
        refine va_get (D := D) (ci := 2) (v := .ref (ad 2)) (C := R_M) (T := F_M) (N := 17) hx hb hT in_M hown hK hP 0 rfl rfl 2 (by decide) (hT _ fl_M_13) (fun _ h9 => h9) rfl d_M_move_41 ?_
        refine lv_iload_n hx hb d_M_move_44 rfl (lv_at hl 1 rfl) ?_
        refine va_iald hx hb hK hP 2 0 rfl rfl (by first | assumption | exact kin (by decide) | exact vp_in_nI (by omega) (by decide) | exact kin23m (by omega)) d_M_move_45 ?_
        refine lv_iload_n hx hb d_M_move_46 rfl (lv_at hl 0 rfl) ?_
        refine lv_isub hx hb d_M_move_47 ?_
        refine lv_sipush (v := (160 : Int32)) hx hb d_M_move_48 (by decide) ?_
        refine lv_iadd hx hb d_M_move_51 ?_
        refine lv_sipush (v := (160 : Int32)) hx hb d_M_move_52 (by decide) ?_
        refine lv_irem hx hb d_M_move_55 (by decide) ?_
        refine va_iast (A := (kA 8 ad)) hx hb hK hP (hD _) hS 2 0 rfl rfl (by first | assumption | exact kin (by decide) | exact vp_in_nI (by omega) (by decide) | exact kin23m (by omega)) d_M_move_56 (fun H locs hP _ hS => ?_)
        have hP := kst (mw_s2 cA ad σ1 ((nI i)).toNatClampNeg ((((σ1 1 ((nI i)).toNatClampNeg) - ((σ1 0 (((23 : Int32) + (nI i))).toNatClampNeg) / (16 : Int32))) + (160 : Int32)) - (((σ1 1 ((nI i)).toNatClampNeg) - ((σ1 0 (((23 : Int32) + (nI i))).toNatClampNeg) / (16 : Int32))) + (160 : Int32)) / (160 : Int32) * (160 : Int32))) hP
        refine lv_iinc (v := (nI (i + 1))) (lv' := [(1, .int (nI (i + 1))), (2, .int ((σ1 0 (((23 : Int32) + (nI i))).toNatClampNeg) / (16 : Int32))), (0, .ref (ad 0))]) hx hb d_M_move_57 hl (k := 1) rfl (by rw [nI_succ]; rfl) (by decide) rfl (fun ls hl => ?_)
        refine lv_goto (tgt := 2) hx hb d_M_move_60 (by decide) ?_
        exact ih (i + 1) (kup σ1 1 ((nI i)).toNatClampNeg ((((σ1 1 ((nI i)).toNatClampNeg) - ((σ1 0 (((23 : Int32) + (nI i))).toNatClampNeg) / (16 : Int32))) + (160 : Int32)) - (((σ1 1 ((nI i)).toNatClampNeg) - ((σ1 0 (((23 : Int32) + (nI i))).toNatClampNeg) / (16 : Int32))) + (160 : Int32)) / (160 : Int32) * (160 : Int32))) H locs ls (by omega) (lv_sub hl [0, 2] rfl) hP hS (by rw [← hg, f_M_move_lp2_s, if_pos q1, nI_succ])
      · refine lv_iload_n hx hb d_M_move_26 rfl (lv_at hl 0 rfl) ?_
        refine lv_bipush (v := (16 : Int32)) hx hb d_M_move_27 (by decide) ?_
        refine lv_isub hx hb d_M_move_29 ?_
        refine lv_goto (tgt := 34) hx hb d_M_move_30 (by decide) ?_
        refine lv_istore_n (lv' := [(2, .int (((σ1 0 (((23 : Int32) + (nI i))).toNatClampNeg) / (16 : Int32)) - (16 : Int32))), (1, .int (nI i)), (0, .ref (ad 0))]) hx hb d_M_move_34 rfl hl (by decide) rfl (fun ls hl => ?_)
        refine lv_aload_n hx hb d_M_move_35 rfl (lv_at hl 2 rfl) ?_
        refine va_get (D := D) (ci := 2) (v := .ref (ad 2)) (C := R_M) (T := F_M) (N := 17) hx hb hT in_M hown hK hP 0 rfl rfl 2 (by decide) (hT _ fl_M_13) (fun _ h9 => h9) rfl d_M_move_36 ?_
        refine lv_iload_n hx hb d_M_move_39 rfl (lv_at hl 1 rfl) ?_
        refine lv_aload_n hx hb d_M_move_40 rfl (lv_at hl 2 rfl) ?_
        refine va_get (D := D) (ci := 2) (v := .ref (ad 2)) (C := R_M) (T := F_M) (N := 17) hx hb hT in_M hown hK hP 0 rfl rfl 2 (by decide) (hT _ fl_M_13) (fun _ h9 => h9) rfl d_M_move_41 ?_
        refine lv_iload_n hx hb d_M_move_44 rfl (lv_at hl 1 rfl) ?_
        refine va_iald hx hb hK hP 2 0 rfl rfl (by first | assumption | exact kin (by decide) | exact vp_in_nI (by omega) (by decide) | exact kin23m (by omega)) d_M_move_45 ?_
        refine lv_iload_n hx hb d_M_move_46 rfl (lv_at hl 0 rfl) ?_
        refine lv_isub hx hb d_M_move_47 ?_
        refine lv_sipush (v := (160 : Int32)) hx hb d_M_move_48 (by decide) ?_
        refine lv_iadd hx hb d_M_move_51 ?_
        refine lv_sipush (v := (160 : Int32)) hx hb d_M_move_52 (by decide) ?_
        refine lv_irem hx hb d_M_move_55 (by decide) ?_
        refine va_iast (A := (kA 8 ad)) hx hb hK hP (hD _) hS 2 0 rfl rfl (by first | assumption | exact kin (by decide) | exact vp_in_nI (by omega) (by decide) | exact kin23m (by omega)) d_M_move_56 (fun H locs hP _ hS => ?_)
        have hP := kst (mw_s2 cA ad σ1 ((nI i)).toNatClampNeg ((((σ1 1 ((nI i)).toNatClampNeg) - (((σ1 0 (((23 : Int32) + (nI i))).toNatClampNeg) / (16 : Int32)) - (16 : Int32))) + (160 : Int32)) - (((σ1 1 ((nI i)).toNatClampNeg) - (((σ1 0 (((23 : Int32) + (nI i))).toNatClampNeg) / (16 : Int32)) - (16 : Int32))) + (160 : Int32)) / (160 : Int32) * (160 : Int32))) hP
        refine lv_iinc (v := (nI (i + 1))) (lv' := [(1, .int (nI (i + 1))), (2, .int (((σ1 0 (((23 : Int32) + (nI i))).toNatClampNeg) / (16 : Int32)) - (16 : Int32))), (0, .ref (ad 0))]) hx hb d_M_move_57 hl (k := 1) rfl (by rw [nI_succ]; rfl) (by decide) rfl (fun ls hl => ?_)
        refine lv_goto (tgt := 2) hx hb d_M_move_60 (by decide) ?_
        exact ih (i + 1) (kup σ1 1 ((nI i)).toNatClampNeg ((((σ1 1 ((nI i)).toNatClampNeg) - (((σ1 0 (((23 : Int32) + (nI i))).toNatClampNeg) / (16 : Int32)) - (16 : Int32))) + (160 : Int32)) - (((σ1 1 ((nI i)).toNatClampNeg) - (((σ1 0 (((23 : Int32) + (nI i))).toNatClampNeg) / (16 : Int32)) - (16 : Int32))) + (160 : Int32)) / (160 : Int32) * (160 : Int32))) H locs ls (by omega) (lv_sub hl [0, 2] rfl) hP hS (by rw [← hg, f_M_move_lp2_s, if_neg q1, nI_succ])
  refine lv_iconst (v := (0 : Int32)) hx hb d_M_move_0 (by decide) ?_
  refine lv_istore_n (lv' := [(1, .int (0 : Int32)), (0, .ref (ad 0))]) hx hb d_M_move_1 rfl hl (by decide) rfl (fun ls hl => ?_)
  exact loop2 5 0 σ s.heap [] ls rfl (lv_sub hl [0, 1] rfl) hP hS (by rw [f_M_move]; rfl)
