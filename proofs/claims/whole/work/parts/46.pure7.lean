/-! pure: each call, by its roads -/
section S7
variable {σ μ : Nat → Nat → Int32}
theorem nI_of36 {r : Int32} {n : Nat} (hn : n < 2 ^ 31) (h1 : ¬ r < 0) (h2 : r < nI n) : ∃ j : Nat, j < n ∧ r = nI j := kR0 hn h1 h2
theorem s_writeG (h : Rel σ μ) {r v : Int32} (h1 : ¬ r < 0) (h2 : r < (36 : Int32)) (h3 : ¬ v < 0) (h4 : v ≤ (255 : Int32)) : Rel (f_B_write σ r v) (f_M_write μ r v) ∧ f_M_thrown (f_M_write μ r v) = 0 := by
  obtain ⟨r, hr, rfl⟩ := kR0 (n := 36) (by decide) h1 h2
  obtain ⟨v, hv, rfl⟩ := nI_of2 (n := 255) (by decide) h3 h4
  have g1 : ¬ (35 : Int32) < nI r := nI_nlt (a := 35) (by omega) (by decide)
  have g2 : ¬ (255 : Int32) < nI v := nI_nlt (a := 255) (by omega) (by decide)
  rw [f_M_thrown, f_M_write, if_neg h1, if_neg g1, if_neg h3, if_neg g2, f_B_write]
  by_cases h28 : r < 28
  · have g : nI r < (28 : Int32) := nI_lt (b := 28) h28 (by decide)
    rw [if_pos g]
    exact s_store h h28 (by omega)
  · have g : ¬ nI r < (28 : Int32) := nI_nlt (b := 28) (by omega) (by omega)
    have g27 : ¬ nI r ≤ (27 : Int32) := nI_ge (a := 27) (by omega) (by omega)
    have h0 := h.thr 0
    have t0 := thr0 μ 0
    rw [if_neg g, f_M_write_j32, g11a, g11b, if_neg (by decide), if_neg g27]
    generalize kup μ 7 0 0 = μ0 at h0 t0 ⊢
    rw [f_B_strobe, f_M_special]
    by_cases h33 : r = 33
    · subst h33
      have e : nI 33 = (33 : Int32) := rfl
      rw [if_pos e, if_pos (by decide), if_pos e]
      obtain ⟨a, b⟩ := s_move σ μ0 5 0 σ μ0 (by decide) h0
      exact ⟨a, (congrFun b 0).trans t0⟩
    by_cases h34 : r = 34
    · subst h34
      rw [if_neg (by decide), if_pos (by decide), if_pos (by decide), if_neg (by decide), if_pos (by decide)]
      obtain ⟨a, b⟩ := s_stop σ μ0 (nI 34) 5 23 σ μ0 (by decide) (by decide) h0
      exact ⟨a, (congrFun b 0).trans t0⟩
    by_cases h35 : r = 35
    · subst h35
      rw [if_neg (by decide), if_neg (by decide), if_pos (by decide), if_pos (by decide), if_neg (by decide), if_neg (by decide)]
      obtain ⟨a, b⟩ := s_forget h0 (nI 35)
      exact ⟨a, (congrFun b 0).trans t0⟩
    have n33 : ¬ nI r = (33 : Int32) := fun q => h33 ((nI_eq (b := 33) (by omega) (by decide)).mp q)
    have n34 : ¬ nI r = (34 : Int32) := fun q => h34 ((nI_eq (b := 34) (by omega) (by decide)).mp q)
    have n35 : ¬ nI r = (35 : Int32) := fun q => h35 ((nI_eq (b := 35) (by omega) (by decide)).mp q)
    have g33 : ¬ (33 : Int32) ≤ nI r := nI_ge (b := 33) (by omega) (by decide)
    have e : nI r - (28 : Int32) = nI (r - 28) := pk_sub (b := 28) (by omega)
    rw [if_neg n33, if_neg n34, if_neg n35, if_neg g33, e]
    obtain ⟨a, b⟩ := s_put h0 (o := r - 28) (by omega)
    exact ⟨a, (congrFun b 0).trans t0⟩
theorem j32_1 (μ : Nat → Nat → Int32) (r v p2 : Int32) (hp : p2 = 0 ∨ p2 = 1) : f_M_write_j32 μ r v p2 0 = kup μ 7 0 1 := by
  rcases hp with rfl | rfl
  · rw [f_M_write_j32, g00a, g00b, if_pos rfl]
  · rw [f_M_write_j32, g10a, g10b, if_pos rfl]
theorem nlt36 {r : Int32} (h : ¬ r < (36 : Int32)) : (35 : Int32) < r := by
  rw [Int32.lt_iff_toInt_lt] at h ⊢
  have e1 : (36 : Int32).toInt = 36 := by decide
  have e2 : (35 : Int32).toInt = 35 := by decide
  omega
theorem s_writeN (h : Rel σ μ) {r : Int32} (v : Int32) (h1 : r < 0 ∨ ¬ r < (36 : Int32)) : Rel σ (f_M_write μ r v) ∧ f_M_thrown (f_M_write μ r v) = 1 := by
  have e : f_M_write μ r v = kup μ 7 0 1 := by
    rw [f_M_write]
    by_cases q : r < 0
    · rw [if_pos q]
      split
      · exact j32_1 _ _ _ _ (Or.inl rfl)
      · split
        · exact j32_1 _ _ _ _ (Or.inl rfl)
        · exact j32_1 _ _ _ _ (Or.inr rfl)
    · rw [if_neg q, if_pos (nlt36 (h1.resolve_left q))]
      split
      · exact j32_1 _ _ _ _ (Or.inl rfl)
      · split
        · exact j32_1 _ _ _ _ (Or.inl rfl)
        · exact j32_1 _ _ _ _ (Or.inr rfl)
  rw [e, f_M_thrown]
  exact ⟨h.thr 1, thr0 μ 1⟩
theorem nle255 {v : Int32} (h : ¬ v ≤ (255 : Int32)) : (255 : Int32) < v := klt h
theorem s_writeI (h : Rel σ μ) {r v : Int32} (h1 : ¬ r < 0) (h2 : r < (36 : Int32)) (h3 : v < 0 ∨ ¬ v ≤ (255 : Int32)) : Rel σ (f_M_write μ r v) ∧ f_M_thrown (f_M_write μ r v) = 2 := by
  have g1 : ¬ (35 : Int32) < r := by
    rw [Int32.lt_iff_toInt_lt] at h2 ⊢
    have e1 : (36 : Int32).toInt = 36 := by decide
    have e2 : (35 : Int32).toInt = 35 := by decide
    omega
  have e : f_M_write μ r v = kup μ 7 0 2 := by
    rw [f_M_write, if_neg h1, if_neg g1]
    by_cases q : v < 0
    · rw [if_pos q, f_M_write_j32, g20a, g20b, if_pos rfl]
    · rw [if_neg q, if_pos (nle255 (h3.resolve_left q)), f_M_write_j32, g20a, g20b, if_pos rfl]
  rw [e, f_M_thrown]
  exact ⟨h.thr 2, thr0 μ 2⟩
theorem s_drawT (h : RS σ μ) {x : Nat} (hx : x < 160) : f_M_draw μ (nI x) 7 0 = μ 7 0 := by
  obtain ⟨μ1, e1, o1, v1⟩ := m_here hx μ 6 0 μ rfl h
  obtain ⟨μ2, e2, o2, v2⟩ := m_meet (x := x) μ 36 0 μ1 rfl
  have e3 : f_M_draw μ (nI x) = kup (kup μ2 5 x (f_M_colour μ2 (nI x))) 7 5 (μ2 7 5 + 1) := by
    rw [f_M_draw]
    refine e1.trans (e2.trans ?_)
    rw [f_M_draw_lp28_z, nI_clamp (by omega), kup_n (a := 7) (k := 5) (by decide)]
  rw [e3, kup_at, if_neg (by omega), kup_n (by decide), o2 7 (by decide), o1 7 (by decide)]
theorem s_oneT (h : Rel σ μ) : f_M_oneClock μ 7 0 = μ 7 0 := by
  obtain ⟨c, hc, e1, e2⟩ := h.2.ck
  rw [M_one, e2]
  by_cases h6 : c < 68
  · have g : nI c < (68 : Int32) := nI_lt (b := 68) h6 (by decide)
    rw [if_pos g, mstep_7 _ (by decide) (by decide), timer_7 _ (by decide)]
  · have g : ¬ nI c < (68 : Int32) := nI_nlt (b := 68) (by omega) (by omega)
    have e : nI c - (68 : Int32) = nI (c - 68) := pk_sub (b := 68) (by omega)
    rw [if_neg g, e, mstep_7 _ (by decide) (by decide), timer_7 _ (by decide), s_drawT h.1 (by omega)]
theorem s_itT : ∀ (n : Nat) (σ μ : Nat → Nat → Int32), Rel σ μ → itM n μ 7 0 = μ 7 0 := by
  intro n
  induction n with
  | zero => exact fun _ _ _ => rfl
  | succ n ih => exact fun _ _ h => (ih _ _ (s_one h)).trans (s_oneT h)
theorem s_clocksG (h : Rel σ μ) {N : Nat} (hN : N < 2 ^ 31) (h2 : nI N ≤ (2000 : Int32)) : Rel (f_B_clocks σ N).2 (f_M_clocks μ N).2 ∧ (f_B_clocks σ N).1 = (f_M_clocks μ N).1 ∧ f_M_thrown (f_M_clocks μ N).2 = 0 := by
  have g : ¬ (2000 : Int32) < nI N := fun q => by
    rw [Int32.lt_iff_toInt_lt] at q
    rw [Int32.le_iff_toInt_le] at h2
    omega
  have e : f_M_clocks μ N = (itM N (kup μ 7 0 0) 7 3, itM N (kup μ 7 0 0)) := by rw [f_M_clocks, if_neg (nI_pos hN), if_neg g, g11b, m_it]
  have R := s_run (h.thr 0) hN
  obtain ⟨c, hc, e1, e2⟩ := R.2.ck
  rw [e, f_M_thrown, f_B_clocks]
  exact ⟨R, e1.trans e2.symm, (s_itT N _ _ (h.thr 0)).trans (thr0 μ 0)⟩
theorem s_clocksB (h : Rel σ μ) {N : Nat} (h2 : ¬ nI N ≤ (2000 : Int32)) : Rel σ (f_M_clocks μ N).2 ∧ f_M_thrown (f_M_clocks μ N).2 = 1 := by
  have e : (f_M_clocks μ N).2 = kup μ 7 0 1 := by
    rw [f_M_clocks]
    split
    · rw [g10b]
    · rw [if_pos (klt h2), g10b]
  rw [e, f_M_thrown]
  exact ⟨h.thr 1, thr0 μ 1⟩
theorem s_clocksN (h : Rel σ μ) (n : Int32) : Rel σ (f_M_clocksN μ n).2 ∧ f_M_thrown (f_M_clocksN μ n).2 = 1 := by
  have e : (f_M_clocksN μ n).2 = kup μ 7 0 1 := by rw [f_M_clocksN, g10b]
  rw [e, f_M_thrown]
  exact ⟨h.thr 1, thr0 μ 1⟩
theorem s_sync (h : Rel σ μ) : ∃ N : Nat, N < 2 ^ 31 ∧ (228 : Int32) - σ 5 1 = nI N ∧ (228 : Int32) - μ 7 3 = nI N ∧ Rel (f_B_sync σ N).2 (f_M_sync μ N).2 ∧ (f_B_sync σ N).1 = (f_M_sync μ N).1 := by
  obtain ⟨c, hc, e1, e2⟩ := h.2.ck
  have e : (228 : Int32) - nI c = nI (228 - c) := pk_sub (a := 228) (by omega)
  refine ⟨228 - c, by omega, by rw [e1, e], by rw [e2, e], ?_⟩
  rw [f_M_sync, m_itS, f_B_sync]
  exact ⟨s_run (h.thr 0) (by omega), rfl⟩
theorem isPix_of {x : Int32} (h : ¬ f_B_isPixel x = 0) : ∃ j : Nat, j < 160 ∧ x = nI j := by
  rw [f_B_isPixel] at h
  by_cases q : x < 0
  · rw [if_pos q] at h
    exact absurd rfl h
  · by_cases q2 : (160 : Int32) ≤ x
    · rw [if_neg q, if_pos q2] at h
      exact absurd rfl h
    · exact kR0 (n := 160) (by decide) q (klt q2)
theorem isObj_of {x : Int32} (h : ¬ f_B_isObject x = 0) : ∃ j : Nat, j < 6 ∧ x = nI j := by
  rw [f_B_isObject] at h
  by_cases q : x < 0
  · rw [if_pos q] at h
    exact absurd rfl h
  · by_cases q2 : (6 : Int32) ≤ x
    · rw [if_neg q, if_pos q2] at h
      exact absurd rfl h
    · exact kR0 (n := 6) (by decide) q (klt q2)
theorem isObj_no {x : Int32} (h : f_B_isObject x = 0) : x < 0 ∨ (¬ x < 0 ∧ (6 : Int32) ≤ x) := by
  rw [f_B_isObject] at h
  by_cases q : x < 0
  · exact Or.inl q
  · by_cases q2 : (6 : Int32) ≤ x
    · exact Or.inr ⟨q, q2⟩
    · rw [if_neg q, if_neg q2] at h
      exact absurd h (by decide)
theorem s_pixelG (h : Rel σ μ) {x : Int32} (h2 : ¬ f_B_isPixel x = 0) : Rel σ (f_M_pixel μ x).2 ∧ f_B_pixel σ x = (f_M_pixel μ x).1 ∧ f_M_thrown (f_M_pixel μ x).2 = 0 := by
  have hz : f_M_isPixel x = 1 := (z_B_isPixel x).resolve_left h2
  obtain ⟨j, hj, rfl⟩ := isPix_of h2
  have e : f_M_pixel μ (nI j) = (μ 5 j, kup μ 7 0 0) := by rw [f_M_pixel, hz, g11a, g11b, if_neg (by decide), nI_clamp (by omega), kup_n (by decide)]
  rw [e, f_M_thrown, f_B_pixel, nI_clamp (by omega)]
  exact ⟨h.thr 0, h.2.px j hj, thr0 μ 0⟩
theorem s_pixelB (h : Rel σ μ) {x : Int32} (h2 : f_B_isPixel x = 0) : Rel σ (f_M_pixel μ x).2 ∧ f_M_thrown (f_M_pixel μ x).2 = 1 := by
  have hz : f_M_isPixel x = 0 := h2
  have e : (f_M_pixel μ x).2 = kup μ 7 0 1 := by rw [f_M_pixel, hz, g10a, g10b, if_pos rfl]
  rw [e, f_M_thrown]
  exact ⟨h.thr 1, thr0 μ 1⟩
theorem sp_met : ∀ n, n < 64 → ∀ b, b < 6 → ((nI n >>> (nI b &&& 31)) &&& (1 : Int32) = 0 ↔ n.testBit b = false) := by decide +kernel
theorem s_metG (h : Rel σ μ) {a o : Int32} (h2 : ¬ f_B_isObject a = 0) (h3 : ¬ f_B_isObject o = 0) (h4 : ¬ a = o) : Rel σ (f_M_met μ a o).2 ∧ f_B_met σ a o = (f_M_met μ a o).1 ∧ f_M_thrown (f_M_met μ a o).2 = 0 := by
  obtain ⟨i, hi, rfl⟩ := isObj_of h2
  obtain ⟨j, hj, rfl⟩ := isObj_of h3
  have gi : ¬ (6 : Int32) ≤ nI i := nI_ge (b := 6) hi (by decide)
  have gj : ¬ (6 : Int32) ≤ nI j := nI_ge (b := 6) hj (by decide)
  have e6 : (6 : Int32) * nI i + nI j = nI (6 * i + j) := by
    have e : (6 : Int32) * nI i = nI (6 * i) := pk_mul 6 i
    rw [e, nI_add]
  obtain ⟨n, hn, en, eb⟩ := h.2.mt i hi
  have e : f_M_met μ (nI i) (nI j) = (b2i (n.testBit j), kup μ 7 0 0) := by
    rw [f_M_met, if_neg (nI_pos (by omega)), if_neg gi, if_neg (nI_pos (by omega)), if_neg gj, if_neg h4, g11b, e6, nI_clamp (by omega), kup_n (by decide), eb j hj]
    cases n.testBit j <;> rfl
  rw [e, f_M_thrown, f_B_met, nI_clamp (by omega), en]
  refine ⟨h.thr 0, ?_, thr0 μ 0⟩
  have hm := sp_met n hn j hj
  cases hb : n.testBit j with
  | false => rw [if_pos (hm.mpr hb)]; rfl
  | true => rw [if_neg (fun q => by rw [hm.mp q] at hb; cases hb)]; rfl
theorem s_metB (h : Rel σ μ) {a o : Int32} (h2 : f_B_isObject a = 0 ∨ f_B_isObject o = 0 ∨ a = o) : Rel σ (f_M_met μ a o).2 ∧ f_M_thrown (f_M_met μ a o).2 = 1 := by
  have e : (f_M_met μ a o).2 = kup μ 7 0 1 := by
    rw [f_M_met]
    split
    · rw [g10b]
    · split
      · rw [g10b]
      · split
        · rw [g10b]
        · split
          · rw [g10b]
          · split
            · rw [g10b]
            · rename_i q1 q2 q3 q4 q5
              rcases h2 with h2 | h2 | h2
              · rcases isObj_no h2 with q | q
                · exact absurd q q1
                · exact absurd q.2 q2
              · rcases isObj_no h2 with q | q
                · exact absurd q q3
                · exact absurd q.2 q4
              · exact absurd h2 q5
  rw [e, f_M_thrown]
  exact ⟨h.thr 1, thr0 μ 1⟩
theorem s_placeG (h : Rel σ μ) {o : Int32} (h1 : ¬ o < 0) (h2 : o < (5 : Int32)) : Rel σ (f_M_place μ o).2 ∧ f_B_place σ o = (f_M_place μ o).1 ∧ f_M_thrown (f_M_place μ o).2 = 0 := by
  obtain ⟨j, hj, rfl⟩ := kR0 (n := 5) (by decide) h1 h2
  have g : ¬ (5 : Int32) ≤ nI j := nI_ge (b := 5) hj (by decide)
  have e : f_M_place μ (nI j) = (μ 1 j, kup μ 7 0 0) := by rw [f_M_place, if_neg h1, if_neg g, g11b, nI_clamp (by omega), kup_n (by decide)]
  rw [e, f_M_thrown, f_B_place, nI_clamp (by omega)]
  exact ⟨h.thr 0, (h.1.pl j hj).symm, thr0 μ 0⟩
theorem s_placeB (h : Rel σ μ) {o : Int32} (h1 : o < 0 ∨ ¬ o < (5 : Int32)) : Rel σ (f_M_place μ o).2 ∧ f_M_thrown (f_M_place μ o).2 = 1 := by
  have e : (f_M_place μ o).2 = kup μ 7 0 1 := by
    rw [f_M_place]
    split
    · rw [g10b]
    · rename_i q
      rw [if_pos (kle (h1.resolve_left q)), g10b]
  rw [e, f_M_thrown]
  exact ⟨h.thr 1, thr0 μ 1⟩
theorem s_thereG (h : Rel σ μ) {o x : Int32} (h2 : ¬ f_B_isObject o = 0) (h3 : ¬ f_B_isPixel x = 0) : Rel σ (f_M_there μ o x).2 ∧ f_B_there σ o x = (f_M_there μ o x).1 ∧ f_M_thrown (f_M_there μ o x).2 = 0 := by
  have hz : ¬ f_M_isPixel x = 0 := h3
  obtain ⟨i, hi, rfl⟩ := isObj_of h2
  obtain ⟨j, hj, rfl⟩ := isPix_of h3
  have gi : ¬ (6 : Int32) ≤ nI i := nI_ge (b := 6) hi (by decide)
  have s := s_at (h.thr 0).1 hi hj
  have e : f_M_there μ (nI i) (nI j) = (f_B_isAt σ (nI i) (nI j), kup μ 7 0 0) := by
    rw [f_M_there, if_neg (nI_pos (by omega)), if_neg gi, if_neg hz, g11b, ← s]
    rcases z_B_isAt σ (nI i) (nI j) with z | z
    · rw [z, if_pos rfl]
    · rw [z, if_neg (by decide)]
  rw [e, f_M_thrown, f_B_there]
  exact ⟨h.thr 0, rfl, thr0 μ 0⟩
theorem s_thereB (h : Rel σ μ) {o x : Int32} (h2 : f_B_isObject o = 0 ∨ f_B_isPixel x = 0) : Rel σ (f_M_there μ o x).2 ∧ f_M_thrown (f_M_there μ o x).2 = 1 := by
  have e : (f_M_there μ o x).2 = kup μ 7 0 1 := by
    rw [f_M_there]
    split
    · rw [g10b]
    · split
      · rw [g10b]
      · rename_i q1 q2
        have hz : f_M_isPixel x = 0 := by
          rcases h2 with h2 | h2
          · rcases isObj_no h2 with q | q
            · exact absurd q q1
            · exact absurd q.2 q2
          · exact h2
        rw [if_pos hz, g10b]
  rw [e, f_M_thrown]
  exact ⟨h.thr 1, thr0 μ 1⟩
theorem s_start (h : Rel σ μ) {I v : Nat} (hv : v < 256) (i1 : 1 ≤ I) (i2 : I ≤ 1024) : Rel (f_T_start σ (nI I) (nI v)) (kup (kup (kup (kup μ 7 6 (nI v)) 7 7 (nI I)) 7 8 0) 7 9 0) := by
  have b : ∀ a, a ≠ 5 → f_T_start σ (nI I) (nI v) a = σ a := fun a ha => by simp only [f_T_start, kup_n ha]
  have b5 : ∀ j, j < 4 → f_T_start σ (nI I) (nI v) 5 j = σ 5 j := fun j hj => by
    have h4 : j ≠ 4 := by omega
    have h5 : j ≠ 5 := by omega
    have h6 : j ≠ 6 := by omega
    have h7 : j ≠ 7 := by omega
    simp [f_T_start, kup_at, h4, h5, h6, h7]
  have m7 : ∀ j, j < 6 → kup (kup (kup (kup μ 7 6 (nI v)) 7 7 (nI I)) 7 8 0) 7 9 0 7 j = μ 7 j := fun j hj => by
    have h4 : j ≠ 6 := by omega
    have h5 : j ≠ 7 := by omega
    have h6 : j ≠ 8 := by omega
    have h7 : j ≠ 9 := by omega
    simp [kup_at, h4, h5, h6, h7]
  have m : ∀ a, a ≠ 7 → kup (kup (kup (kup μ 7 6 (nI v)) 7 7 (nI I)) 7 8 0) 7 9 0 a = μ a := fun a ha => by simp only [kup_n ha]
  refine ⟨(h.1.congr (m 0 (by decide)) (m 1 (by decide)) (m 2 (by decide)) (m 3 (by decide)) (m7 1 (by decide)) (m7 2 (by decide))).congrB (b 0 (by decide)) (b 1 (by decide)) (b 2 (by decide)) (b5 0 (by decide)), ?_⟩
  unfold RD
  rw [b 3 (by decide), b 4 (by decide), m 4 (by decide), m 5 (by decide), b5 1 (by decide), b5 2 (by decide), b5 3 (by decide), m7 3 (by decide), m7 4 (by decide), m7 5 (by decide)]
  refine ⟨h.2.px, h.2.mt, h.2.ck, h.2.ln, h.2.dr, ⟨v, hv, ?_, ?_⟩, ⟨I, 0, i1, i2, by omega, ?_, ?_, ?_, ?_⟩, ?_⟩
  · simp [f_T_start, kup_at]
  · simp [kup_at]
  · simp [f_T_start, kup_at]
  · simp [kup_at]
  · simp [kup_at]
    decide
  · rw [Nat.sub_zero, Nat.mul_comm, ← pk_mul]
    simp [f_T_start, kup_at]
    rfl
  · simp [f_T_start, kup_at]
theorem s_setG (h : Rel σ μ) {q v : Int32} (h1 : ¬ q < 0) (h2 : q < (4 : Int32)) (h3 : ¬ v < 0) (h4 : v ≤ (255 : Int32)) : Rel (f_B_set σ q v).2 (f_M_set μ q v).2 ∧ (f_B_set σ q v).1 = (f_M_set μ q v).1 ∧ f_M_thrown (f_M_set μ q v).2 = 0 := by
  obtain ⟨q, hq, rfl⟩ := kR0 (n := 4) (by decide) h1 h2
  obtain ⟨v, hv, rfl⟩ := nI_of2 (n := 255) (by decide) h3 h4
  have g1 : ¬ (3 : Int32) < nI q := nI_nlt (a := 3) (by omega) (by decide)
  have g2 : ¬ (255 : Int32) < nI v := nI_nlt (a := 255) (by omega) (by decide)
  have h0 := h.thr 0
  have t0 := thr0 μ 0
  rw [f_M_thrown, f_M_set, if_neg h1, if_neg g1, if_neg h3, if_neg g2, f_B_set, f_M_set_j31, g11a, g11b, if_neg (by decide), nI_clamp (by omega)]
  generalize kup μ 7 0 0 = μ0 at h0 t0 ⊢
  obtain ⟨w, hw, e1, e2⟩ := h0.2.vl
  have e : σ 5 4 = μ0 7 6 := e1.trans e2.symm
  rcases (show q = 0 ∨ q = 1 ∨ q = 2 ∨ q = 3 by omega) with rfl | rfl | rfl | rfl
  · rw [if_neg (by decide), if_neg (by decide), if_neg (by decide)]
    exact ⟨s_start h0 (I := 1) (by omega) (by decide) (by decide), e, by simp [kup_at, t0]⟩
  · rw [if_neg (by decide), if_neg (by decide), if_pos (by decide)]
    exact ⟨s_start h0 (I := 8) (by omega) (by decide) (by decide), e, by simp [kup_at, t0]⟩
  · rw [if_neg (by decide), if_pos (by decide)]
    exact ⟨s_start h0 (I := 64) (by omega) (by decide) (by decide), e, by simp [kup_at, t0]⟩
  · rw [if_pos (by decide)]
    exact ⟨s_start h0 (I := 1024) (by omega) (by decide) (by decide), e, by simp [kup_at, t0]⟩
theorem j31_1 (μ : Nat → Nat → Int32) (r v p2 : Int32) (hp : p2 = 0 ∨ p2 = 1) : (f_M_set_j31 μ r v p2 0).2 = kup μ 7 0 1 := by
  rcases hp with rfl | rfl
  · rw [f_M_set_j31, g00a, g00b, if_pos rfl]
  · rw [f_M_set_j31, g10a, g10b, if_pos rfl]
theorem nlt4 {r : Int32} (h : ¬ r < (4 : Int32)) : (3 : Int32) < r := by
  rw [Int32.lt_iff_toInt_lt] at h ⊢
  have e1 : (4 : Int32).toInt = 4 := by decide
  have e2 : (3 : Int32).toInt = 3 := by decide
  omega
theorem s_setN (h : Rel σ μ) {q : Int32} (v : Int32) (h1 : q < 0 ∨ ¬ q < (4 : Int32)) : Rel σ (f_M_set μ q v).2 ∧ f_M_thrown (f_M_set μ q v).2 = 1 := by
  have e : (f_M_set μ q v).2 = kup μ 7 0 1 := by
    rw [f_M_set]
    by_cases z : q < 0
    · rw [if_pos z]
      split
      · exact j31_1 _ _ _ _ (Or.inl rfl)
      · split
        · exact j31_1 _ _ _ _ (Or.inl rfl)
        · exact j31_1 _ _ _ _ (Or.inr rfl)
    · rw [if_neg z, if_pos (nlt4 (h1.resolve_left z))]
      split
      · exact j31_1 _ _ _ _ (Or.inl rfl)
      · split
        · exact j31_1 _ _ _ _ (Or.inl rfl)
        · exact j31_1 _ _ _ _ (Or.inr rfl)
  rw [e, f_M_thrown]
  exact ⟨h.thr 1, thr0 μ 1⟩
theorem s_setI (h : Rel σ μ) {q v : Int32} (h1 : ¬ q < 0) (h2 : q < (4 : Int32)) (h3 : v < 0 ∨ ¬ v ≤ (255 : Int32)) : Rel σ (f_M_set μ q v).2 ∧ f_M_thrown (f_M_set μ q v).2 = 2 := by
  have g1 : ¬ (3 : Int32) < q := by
    rw [Int32.lt_iff_toInt_lt] at h2 ⊢
    have e1 : (4 : Int32).toInt = 4 := by decide
    have e2 : (3 : Int32).toInt = 3 := by decide
    omega
  have e : (f_M_set μ q v).2 = kup μ 7 0 2 := by
    rw [f_M_set, if_neg h1, if_neg g1]
    by_cases z : v < 0
    · rw [if_pos z, f_M_set_j31, g20a, g20b, if_pos rfl]
    · rw [if_neg z, if_pos (nle255 (h3.resolve_left z)), f_M_set_j31, g20a, g20b, if_pos rfl]
  rw [e, f_M_thrown]
  exact ⟨h.thr 2, thr0 μ 2⟩
/-! count -/
def pop (n : Nat) : Nat := (n.testBit 0).toNat + (n.testBit 1).toNat + (n.testBit 2).toNat + (n.testBit 3).toNat + (n.testBit 4).toNat + (n.testBit 5).toNat
theorem sp_pop : ∀ n, n < 64 → f_J_bitCount (nI n) = nI (pop n) := by decide +kernel
theorem b2i_n (b : Bool) : b2i b = nI b.toNat := by cases b <;> decide
theorem m_cstep (μ0 μ : Nat → Nat → Int32) (wh : Int32) (n k A : Nat) (t : Bool) (hk : k < 36) (e : μ 4 k = b2i t) : f_M_count_lp28 μ0 wh (n + 1) (nI k) (nI A) μ = f_M_count_lp28 μ0 wh n (nI (k + 1)) (nI (A + t.toNat)) μ := by
  rw [f_M_count_lp28_s, nI_1, nI_clamp (by omega), e]
  cases t with
  | false => rw [if_pos (by decide)]; rfl
  | true => rw [if_neg (by decide), nI_1]; rfl
theorem m_cblock (h : RD σ μ) (μ0 : Nat → Nat → Int32) (wh : Int32) (n a A : Nat) (ha : a < 6) : ∃ q, q < 64 ∧ σ 4 a = nI q ∧ f_M_count_lp28 μ0 wh (n + 6) (nI (6 * a)) (nI A) μ = f_M_count_lp28 μ0 wh n (nI (6 * a + 6)) (nI (A + pop q)) μ := by
  obtain ⟨q, hq, e, eb⟩ := h.mt a ha
  refine ⟨q, hq, e, ?_⟩
  rw [m_cstep μ0 μ wh (n + 5) (6 * a) A (q.testBit 0) (by omega) (eb 0 (by decide)), m_cstep μ0 μ wh (n + 4) (6 * a + 1) _ (q.testBit 1) (by omega) (eb 1 (by decide)), m_cstep μ0 μ wh (n + 3) (6 * a + 1 + 1) _ (q.testBit 2) (by omega) (eb 2 (by decide)), m_cstep μ0 μ wh (n + 2) (6 * a + 1 + 1 + 1) _ (q.testBit 3) (by omega) (eb 3 (by decide)), m_cstep μ0 μ wh (n + 1) (6 * a + 1 + 1 + 1 + 1) _ (q.testBit 4) (by omega) (eb 4 (by decide)), m_cstep μ0 μ wh n (6 * a + 1 + 1 + 1 + 1 + 1) _ (q.testBit 5) (by omega) (eb 5 (by decide))]
  unfold pop
  congr 2
  omega
theorem s_cnt (h : RD σ μ) (μ0 : Nat → Nat → Int32) (wh : Int32) : ∃ A : Nat, f_B_countMeetings σ = nI A / (2 : Int32) ∧ f_M_count_lp28 μ0 wh 36 0 0 μ = f_M_count_lp28 μ0 wh 0 (nI 36) (nI A) μ := by
  obtain ⟨q0, h0, e0, b0⟩ := m_cblock h μ0 wh 30 0 0 (by decide)
  obtain ⟨q1, h1, e1, b1⟩ := m_cblock h μ0 wh 24 1 (0 + pop q0) (by decide)
  obtain ⟨q2, h2, e2, b2⟩ := m_cblock h μ0 wh 18 2 (0 + pop q0 + pop q1) (by decide)
  obtain ⟨q3, h3, e3, b3⟩ := m_cblock h μ0 wh 12 3 (0 + pop q0 + pop q1 + pop q2) (by decide)
  obtain ⟨q4, h4, e4, b4⟩ := m_cblock h μ0 wh 6 4 (0 + pop q0 + pop q1 + pop q2 + pop q3) (by decide)
  obtain ⟨q5, h5, e5, b5⟩ := m_cblock h μ0 wh 0 5 (0 + pop q0 + pop q1 + pop q2 + pop q3 + pop q4) (by decide)
  refine ⟨0 + pop q0 + pop q1 + pop q2 + pop q3 + pop q4 + pop q5, ?_, b0.trans (b1.trans (b2.trans (b3.trans (b4.trans b5))))⟩
  have st : ∀ (n k A : Nat) (q : Nat), k < 6 → q < 64 → σ 4 k = nI q → f_B_countMeetings_lp13 σ (n + 1) (nI k) (nI A) = f_B_countMeetings_lp13 σ n (nI (k + 1)) (nI (A + pop q)) := by
    intro n k A q hk hq e
    rw [f_B_countMeetings_lp13_s, nI_1, nI_clamp (by omega), e, sp_pop q hq, nI_add]
  rw [f_B_countMeetings]
  refine (st 5 0 0 q0 (by decide) h0 e0).trans ?_
  rw [st 4 1 _ q1 (by decide) h1 e1, st 3 2 _ q2 (by decide) h2 e2, st 2 3 _ q3 (by decide) h3 e3, st 1 4 _ q4 (by decide) h4 e4, st 0 5 _ q5 (by decide) h5 e5, f_B_countMeetings_lp13_z]
theorem s_countG (h : Rel σ μ) {w : Int32} (h1 : vp_in w 6) : Rel σ (f_M_count μ w).2 ∧ f_B_count σ w = (f_M_count μ w).1 ∧ f_M_thrown (f_M_count μ w).2 = 0 := by
  obtain ⟨j, hj, rfl⟩ := vp_in_of h1 (by decide)
  have g1 : ¬ (5 : Int32) < nI j := nI_nlt (a := 5) (by omega) (by decide)
  have h0 := h.thr 0
  have t0 := thr0 μ 0
  obtain ⟨A, eA, eM⟩ := s_cnt h0.2 μ (nI j)
  obtain ⟨c, hc, k1, k2⟩ := h0.2.ck
  obtain ⟨v, hv, v1, v2⟩ := h0.2.vl
  have hl := h0.2.ln
  have hd := h0.2.dr
  have hr := h0.2.rg
  rw [f_M_thrown, f_M_count, if_neg (nI_pos (by omega)), if_neg g1, g11b, eM, f_M_count_lp28_z, f_B_count]
  generalize kup μ 7 0 0 = μ0 at h0 t0 k1 k2 v1 v2 hl hd hr ⊢
  rcases (show j = 0 ∨ j = 1 ∨ j = 2 ∨ j = 3 ∨ j = 4 ∨ j = 5 by omega) with rfl | rfl | rfl | rfl | rfl | rfl
  · rw [if_pos (by decide), if_pos (by decide)]
    exact ⟨h0, k1.trans k2.symm, t0⟩
  · rw [if_neg (by decide), if_pos (by decide), if_neg (by decide), if_pos (by decide)]
    exact ⟨h0, hl, t0⟩
  · rw [if_neg (by decide), if_neg (by decide), if_pos (by decide), if_neg (by decide), if_neg (by decide), if_pos (by decide)]
    exact ⟨h0, v1.trans v2.symm, t0⟩
  · by_cases z : μ0 7 9 = 0
    · rw [if_neg (by decide), if_neg (by decide), if_neg (by decide), if_pos (by decide), if_pos z, if_neg (by decide), if_neg (by decide), if_neg (by decide), if_pos (by decide), hr, if_pos z]
      exact ⟨h0, rfl, t0⟩
    · rw [if_neg (by decide), if_neg (by decide), if_neg (by decide), if_pos (by decide), if_neg z, if_neg (by decide), if_neg (by decide), if_neg (by decide), if_pos (by decide), hr, if_neg z]
      exact ⟨h0, rfl, t0⟩
  · rw [if_neg (by decide), if_neg (by decide), if_neg (by decide), if_neg (by decide), if_pos (by decide), if_neg (by decide), if_neg (by decide), if_neg (by decide), if_neg (by decide), if_pos (by decide)]
    exact ⟨h0, eA, t0⟩
  · rw [if_neg (by decide), if_neg (by decide), if_neg (by decide), if_neg (by decide), if_neg (by decide), if_neg (by decide), if_neg (by decide), if_neg (by decide), if_neg (by decide), if_neg (by decide), if_pos (by decide)]
    exact ⟨h0, hd, t0⟩
theorem s_countB (h : Rel σ μ) {w : Int32} (n0 : ¬ w = (0 : Int32)) (n1 : ¬ w = (1 : Int32)) (n2 : ¬ w = (2 : Int32)) (n3 : ¬ w = (3 : Int32)) (n4 : ¬ w = (4 : Int32)) (n5 : ¬ w = (5 : Int32)) : Rel σ (f_M_count μ w).2 ∧ f_M_thrown (f_M_count μ w).2 = 1 := by
  have e : (f_M_count μ w).2 = kup μ 7 0 1 := by
    rw [f_M_count]
    by_cases q : w < 0
    · rw [if_pos q, g10b]
    · rw [if_neg q]
      by_cases q2 : (5 : Int32) < w
      · rw [if_pos q2, g10b]
      · exfalso
        have q3 : w < (6 : Int32) := by
          rw [Int32.lt_iff_toInt_lt] at q2 ⊢
          have e1 : (5 : Int32).toInt = 5 := by decide
          have e2 : (6 : Int32).toInt = 6 := by decide
          omega
        exact kdead6 (kRin (n := 6) (by decide) q q3) n0 n1 n2 n3 n4 n5
  rw [e, f_M_thrown]
  exact ⟨h.thr 1, thr0 μ 1⟩
theorem s_init : Rel s0 m0 := by
  have z : ∀ j, s0 0 j = 0 := fun _ => rfl
  refine ⟨⟨fun _ _ => rfl, fun _ _ => ⟨0, by decide, rfl⟩, rfl, rfl, fun _ _ => rfl, fun _ _ => ⟨0, by decide, rfl⟩, fun _ _ => rfl, fun _ _ => ⟨0, by decide, rfl⟩, by decide, by decide, ⟨0, by decide, rfl⟩⟩, ⟨fun _ _ => rfl, fun _ _ => ⟨0, by decide, rfl, fun b _ => by rw [Nat.zero_testBit]; rfl⟩, ⟨0, by decide, rfl, rfl⟩, rfl, rfl, ⟨0, by decide, rfl, rfl⟩, ⟨1024, 0, by decide, by decide, by decide, rfl, rfl, rfl, rfl⟩, rfl⟩⟩
theorem Rel.bclk (h : Rel σ μ) : kClk σ := by
  obtain ⟨c, hc, e1, -⟩ := h.2.ck
  rw [kClk, e1]
  exact vp_in_nI hc (by decide)
theorem Rel.mclk (h : Rel σ μ) : mClk μ := by
  obtain ⟨c, hc, -, e1⟩ := h.2.ck
  rw [mClk, e1]
  exact vp_in_nI hc (by decide)
theorem Rel.bl (h : Rel σ μ) : μ 7 1 = 0 ∨ μ 7 1 = 1 := by
  rw [h.1.ba]
  exact sBit01 ..
end S7
