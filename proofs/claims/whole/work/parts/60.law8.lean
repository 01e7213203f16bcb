set_option maxRecDepth 100000 in
set_option maxHeartbeats 8000000 in
theorem whole_start {p : Program} {e : Env} {s : State} {m : MethodId} {below : List Frame} {meth : Method} {c : Code} (l : Launch) (hl0 : l.stackTraces = false) {b L : Nat} {xs : Nat → Int32} (hL : L ≤ 1536) (C0 : lw_At p s m meth c b L xs) : W p l e room_1 s m #[Value.ref b] below meth c s.heap [] 0 0 (lw_Z below #[Value.ref b] s) (entryFrame m ([Value.ref b] : List Value).toArray 7) := by
  obtain ⟨hx, hb, hr, hml, hown, hts, hX, hbl, hlocks, hgv⟩ := C0
  have hown : s.vm.findClass R_L = some m.cls := hown
  have hT : ∀ w ∈ TB, w.before #[Value.ref b] s = true := fun w h => hts w (List.mem_filter.mp h).1
  obtain ⟨⟨t, hZ⟩, hXP, hNc⟩ := q_given hts hgv
  obtain ⟨D, cA, hK⟩ := q_known hT
  have hA : ∀ q : Nat, s.heap.size ≤ q → lA s q := fun q h => h
  have hS : va_S (lA s) s.heap s.heap [] := va_S.rf
  have hP0 : va_P D classes [] s.heap := fun k q h => by simp at h
  have hD0 : va_D (lA s) [] := ⟨fun i j x y h => by simp at h, fun k q h => by simp at h⟩
  have hl := lv_entry ([.ref b]) (n := 7) (Nat.le_of_ble_eq_true rfl)
  rw [lg_entry_eq]
  generalize (lg_sl ([.ref b]) ++ List.replicate (7 - (lg_sl ([.ref b])).length) Slot.unset).toArray = ls at hl ⊢
  have hl : lv_has ls 7 [(0, .ref b)] := hl
  refine va_new (ci := 0) (fs := [.null, .null, .null, .null, .null, .null, .int 0, .int 0, .int 0, .int 0]) (C := R_B) (T := F_B) (N := 10) hx hb hT in_B ft_B ft_B_ok hown (hT _ cl_L_8) (hT _ ins_B) (hT _ wi_B) hK hP0 hD0 hS hA rfl (fun j hj => by rcases (show j = 0 ∨ j = 1 ∨ j = 2 ∨ j = 3 ∨ j = 4 ∨ j = 5 ∨ j = 6 ∨ j = 7 ∨ j = 8 ∨ j = 9 by omega) with rfl | rfl | rfl | rfl | rfl | rfl | rfl | rfl | rfl | rfl <;> rfl) (by decide) (by decide) d_law_0 (fun q0 H hP hD hS => ?_)
  have hP : va_P D classes [(q0, .inr (0, [.null, .null, .null, .null, .null, .null, .int 0, .int 0, .int 0, .int 0]))] H := hP
  have hD : va_D (lA s) [(q0, .inr (0, [.null, .null, .null, .null, .null, .null, .int 0, .int 0, .int 0, .int 0]))] := hD
  refine lv_dup hx hb d_law_3 rfl ?_
  have hFc := va_free (wc := [(q0, .inr (0, [.null, .null, .null, .null, .null, .null, .int 0, .int 0, .int 0, .int 0]))]) hD hS hA [0] rfl
  refine va_callv (va_runI (As := []) (rest := [.ref q0]) ⟨hx, hb, hml, hown, hT⟩ (c_B_init l D cA q0 H.size) (kCI 0 hT ml_L_41 ⟨⟨wc_B_init, wi_B, by decide +kernel, by decide +kernel, by decide +kernel⟩, wm_B_init⟩ rfl ⟨Nat.le_of_ble_eq_true rfl, Nat.le_of_ble_eq_true rfl⟩) ⟨fun a U g mk q => by obtain ⟨q0, q1, qP, qK, qD⟩ := q; exact ⟨q0, q1, qP, va_K.moved (u := U) (U := U.calling g mk a) (Vm.Alike.refl U.vm) qK, qD⟩, fun U hU hW => ⟨rfl, by rw [hU], by rw [hU]; exact hP, va_K.moved hW.alike hK, hD.weaken (fun _ _ _ _ => trivial)⟩⟩ rfl rfl hl.1 rfl (lv_room (Nat.le_of_ble_eq_true rfl)) d_law_4 ⟨by decide, by decide⟩) hS (fun q _ h => hFc q h) hFc (fun ad t1 H1 locs1 ht1 _ hpost hB1 hz1 hk1 hS1 => ?_)
  obtain ⟨e0, hap, hin7⟩ := hpost
  have hB1 : va_P D classes (bw cA ad s0) t1.heap := hB1
  rw [ht1] at hB1
  subst e0
  have hD1 : va_D (lA s) (bw cA ad s0) := (kD hap rfl).weaken (fun k q hk ⟨i, hi, e⟩ => by rw [e]; exact hFc _ (hin7 i hi))
  refine lv_astore_n (lv' := [(1, .ref (ad 0)), (0, .ref b)]) hx hb d_law_7 rfl hl (by decide) rfl (fun ls hl => ?_)
  refine W.widen (k := 7) (n := 223) (by decide) (by decide) ?_
  refine va_new (ci := 2) (fs := [.int 0, .null, .null, .null, .null, .int 0, .int 0, .null, .null, .null, .int 0, .int 0, .int 0, .int 0, .int 0, .int 0, .int 0]) (C := R_M) (T := F_M) (N := 17) hx hb hT in_M ft_M ft_M_ok hown (hT _ cl_L_42) (hT _ ins_M) (hT _ wi_M) hK hB1 hD1 hS1 hA rfl (fun j hj => by rcases (show j = 0 ∨ j = 1 ∨ j = 2 ∨ j = 3 ∨ j = 4 ∨ j = 5 ∨ j = 6 ∨ j = 7 ∨ j = 8 ∨ j = 9 ∨ j = 10 ∨ j = 11 ∨ j = 12 ∨ j = 13 ∨ j = 14 ∨ j = 15 ∨ j = 16 by omega) with rfl | rfl | rfl | rfl | rfl | rfl | rfl | rfl | rfl | rfl | rfl | rfl | rfl | rfl | rfl | rfl | rfl <;> rfl) (by decide) (by decide) d_law_8 (fun q8 H2 hP2 hD2 hS2 => ?_)
  refine lv_dup hx hb d_law_11 rfl ?_
  have hPc := hP2.sub (ws' := [(q8, .inr (2, [.int 0, .null, .null, .null, .null, .int 0, .int 0, .null, .null, .null, .int 0, .int 0, .int 0, .int 0, .int 0, .int 0, .int 0]))]) [7] rfl
  have hDc := hD2.sub (ws' := [(q8, .inr (2, [.int 0, .null, .null, .null, .null, .int 0, .int 0, .null, .null, .null, .int 0, .int 0, .int 0, .int 0, .int 0, .int 0, .int 0]))]) [7] (by decide) rfl
  have hFc2 := va_free (wc := [(q8, .inr (2, [.int 0, .null, .null, .null, .null, .int 0, .int 0, .null, .null, .null, .int 0, .int 0, .int 0, .int 0, .int 0, .int 0, .int 0]))]) hD2 hS2 hA [7] rfl
  refine W.widen (k := 8) (n := 240) (by decide) (by decide) ?_
  refine va_callv (va_runI (As := []) (rest := [.ref q8]) ⟨hx, hb, hml, hown, hT⟩ (c_M_init l D cA q8 H2.size) (kCI 0 hT ml_L_44 ⟨⟨wc_M_init, wi_M, by decide +kernel, by decide +kernel, by decide +kernel⟩, wm_M_init⟩ rfl ⟨Nat.le_of_ble_eq_true rfl, Nat.le_of_ble_eq_true rfl⟩) ⟨fun a U g mk q => by obtain ⟨q0, q1, qP, qK, qD⟩ := q; exact ⟨q0, q1, qP, va_K.moved (u := U) (U := U.calling g mk a) (Vm.Alike.refl U.vm) qK, qD⟩, fun U hU hW => ⟨rfl, by rw [hU], by rw [hU]; exact hPc, va_K.moved hW.alike hK, hDc.weaken (fun _ _ _ _ => trivial)⟩⟩ rfl rfl hl.1 rfl (lv_room (Nat.le_of_ble_eq_true rfl)) d_law_12 ⟨by decide, by decide⟩) hS2 (fun q _ h => hFc2 q h) hFc2 (fun am t3 H3 locs3 ht3 _ hpost hB3 hz3 hk3 hS3 => ?_)
  obtain ⟨e8, hapm, hin8⟩ := hpost
  have hB3 : va_P D classes (mw cA am m0) t3.heap := hB3
  rw [ht3] at hB3
  have hDq : va_D (va_A [(q8, .inr (2, [.int 0, .null, .null, .null, .null, .int 0, .int 0, .null, .null, .null, .int 0, .int 0, .int 0, .int 0, .int 0, .int 0, .int 0]))] H2.size) (mw cA am m0) := (kD hapm rfl).weaken (fun k q hk ⟨i, hi, e⟩ => by rw [e]; exact hin8 i hi)
  obtain ⟨hP4, hD4⟩ := va_join (wr := bw cA ad s0) (w1 := mw cA am m0) hP2 hD2 [7] [0, 1, 2, 3, 4, 5, 6] rfl rfl (by decide) (by decide) hk3 hFc2 hB3 hDq
  subst e8
  refine lv_astore_n (lv' := [(2, .ref (am 0)), (1, .ref (ad 0)), (0, .ref b)]) hx hb d_law_15 rfl hl (by decide) rfl (fun ls hl => ?_)
  refine lv_iconst (v := (1 : Int32)) hx hb d_law_16 (by decide) ?_
  refine W.widen (k := 15) (n := 479) (by decide) (by decide) ?_
  refine knewa (atype := .long) (a0 := (1, .inr (.inl (fun _ => 0)))) (ty := .long) hx hb (hT _ ac_J) rfl hK hP4 hD4 hS3 hA 2 rfl (fun _ h => h) (fun _ => rfl) (by decide) (by decide) (by decide) (by decide) (by decide) d_law_17 (fun q7 H5 hP5 hD5 hS5 => ?_)
  generalize had : (fun k => if k = 7 then q7 else ad k) = ad'
  have g7 : ad' 7 = q7 := by rw [← had]; rfl
  have g0 : ∀ k, k < 7 → ad' k = ad k := fun k hk => by rw [← had]; exact if_neg (by omega)
  have hbwe : bw cA ad s0 = bw cA ad' s0 := by rw [← had]; rfl
  have hbo : va_P D classes (bo cA ad' s0 (fun _ => 0)) H5 := by
    have h1 := hP5.sub (ws' := bw cA ad s0 ++ [(q7, .inl (cA 2, 1, .inr (.inl (fun _ => 0))))]) [0, 1, 2, 3, 4, 5, 6, 15] rfl
    rw [hbwe, ← g7] at h1
    exact h1
  have hmw : va_P D classes (mw cA am m0) H5 := hP5.sub [7, 8, 9, 10, 11, 12, 13, 14] rfl
  have hk16 := kadr_ap (n := 16) rfl hD5
  have hi16 := kadr_in (n := 16) rfl hD5
  have pB : ∀ i, i < 8 → ∃ z, z < 16 ∧ (z = if i = 7 then 15 else i) ∧ ad' i = kadr (bw cA ad s0 ++ mw cA am m0 ++ [(q7, .inl (cA 2, 1, .inr (.inl (fun _ => 0))))]) z := by
    intro i hi
    rcases (show i = 0 ∨ i = 1 ∨ i = 2 ∨ i = 3 ∨ i = 4 ∨ i = 5 ∨ i = 6 ∨ i = 7 by omega) with rfl | rfl | rfl | rfl | rfl | rfl | rfl | rfl
    · exact ⟨0, by decide, rfl, by rw [g0 0 (by decide)]; rfl⟩
    · exact ⟨1, by decide, rfl, by rw [g0 1 (by decide)]; rfl⟩
    · exact ⟨2, by decide, rfl, by rw [g0 2 (by decide)]; rfl⟩
    · exact ⟨3, by decide, rfl, by rw [g0 3 (by decide)]; rfl⟩
    · exact ⟨4, by decide, rfl, by rw [g0 4 (by decide)]; rfl⟩
    · exact ⟨5, by decide, rfl, by rw [g0 5 (by decide)]; rfl⟩
    · exact ⟨6, by decide, rfl, by rw [g0 6 (by decide)]; rfl⟩
    · exact ⟨15, by decide, rfl, by rw [g7]; rfl⟩
  have pM : ∀ i, i < 8 → am i = kadr (bw cA ad s0 ++ mw cA am m0 ++ [(q7, .inl (cA 2, 1, .inr (.inl (fun _ => 0))))]) (7 + i) := by
    intro i hi
    rcases (show i = 0 ∨ i = 1 ∨ i = 2 ∨ i = 3 ∨ i = 4 ∨ i = 5 ∨ i = 6 ∨ i = 7 by omega) with rfl | rfl | rfl | rfl | rfl | rfl | rfl | rfl <;> rfl
  have hap8 : kap 8 ad' := by
    intro i j hi hj h
    obtain ⟨z1, hz1, ez1, er1⟩ := pB i hi
    obtain ⟨z2, hz2, ez2, er2⟩ := pB j hj
    have h9 := hk16 z1 z2 hz1 hz2 (by rw [← er1, ← er2]; exact h)
    rw [ez1, ez2] at h9
    split at h9 <;> split at h9 <;> omega
  have hdis : ∀ i j, i < 8 → j < 8 → ad' i ≠ am j := by
    intro i j hi hj h
    obtain ⟨z1, hz1, ez1, er1⟩ := pB i hi
    have h9 := hk16 z1 (7 + j) hz1 (by omega) (by rw [← er1, ← pM j hj]; exact h)
    rw [ez1] at h9
    split at h9 <;> omega
  have hA1 : ∀ k, k < 8 → lA s (ad' k) := by
    intro i hi
    obtain ⟨z1, hz1, ez1, er1⟩ := pB i hi
    rw [er1]
    exact hi16 z1 hz1
  have hA2 : ∀ k, k < 8 → lA s (am k) := by
    intro i hi
    rw [pM i hi]
    exact hi16 _ (by omega)
  have hC : LC p l s m c b L xs D cA ad' am t := ⟨hx, hb, hml, hown, hT, hX, hbl, hl0, hK, hZ, hXP, hNc, hap8, hapm, hdis, hA1, hA2⟩
  refine lv_astore_n (lv' := [(3, .ref (ad' 7)), (2, .ref (am 0)), (1, .ref (ad' 0)), (0, .ref b)]) hx hb d_law_19 rfl hl (by decide) (by rw [g7, g0 0 (by decide)]; rfl) (fun ls hl => ?_)
  refine lv_iconst (v := (0 : Int32)) hx hb d_law_20 (by decide) ?_
  refine lv_istore (lv' := lvs b ad' am (nI (3 * 0))) hx hb d_law_21 hl (by decide) rfl (fun ls hl => ?_)
  refine W.widen (k := 16 + 0) (n := 480 + 6 * 0) (by decide) (by decide) ?_
  exact q_loop hC hr hlocks hL (L + 1) 0 H5 _ s0 m0 (fun _ => 0) ls (by omega) (by omega) ⟨hbo, hmw, s_init, hS5⟩ hl
