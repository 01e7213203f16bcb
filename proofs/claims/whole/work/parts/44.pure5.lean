/-! pure: the timer, the clock, the run -/
def Rel (σ μ : Nat → Nat → Int32) : Prop := RS σ μ ∧ RD σ μ
theorem nI_pr {n : Nat} (h : 1 ≤ n) : nI n - 1 = nI (n - 1) := pk_sub (b := 1) h
theorem tick_out (σ : Nat → Nat → Int32) {a : Nat} (h : a ≠ 5) : f_T_tick σ a = σ a := by
  unfold f_T_tick
  split
  · split <;> simp only [kup_n h]
  · simp only [kup_n h]
theorem tick_5 (σ : Nat → Nat → Int32) {j : Nat} (h : j < 4) : f_T_tick σ 5 j = σ 5 j := by
  have h4 : j ≠ 4 := by omega
  have h5 : j ≠ 5 := by omega
  have h6 : j ≠ 6 := by omega
  have h7 : j ≠ 7 := by omega
  unfold f_T_tick
  split
  · split <;> simp [kup_at, h4, h5, h6, h7]
  · simp [kup_at, h6]
theorem timer_out (μ : Nat → Nat → Int32) {a : Nat} (h : a ≠ 7) : f_M_timer μ a = μ a := by
  unfold f_M_timer
  split
  · split <;> simp only [kup_n h]
  · simp only [kup_n h]
theorem timer_7 (μ : Nat → Nat → Int32) {j : Nat} (h : j < 6) : f_M_timer μ 7 j = μ 7 j := by
  have h6 : j ≠ 6 := by omega
  have h7 : j ≠ 7 := by omega
  have h8 : j ≠ 8 := by omega
  have h9 : j ≠ 9 := by omega
  unfold f_M_timer
  split
  · split <;> simp [kup_at, h6, h7, h8, h9]
  · simp [kup_at, h8]
theorem tick_run {σ : Nat → Nat → Int32} (h : ¬ σ 5 6 - 1 ≤ 0) : f_T_tick σ = kup σ 5 6 (σ 5 6 - 1) := by rw [f_T_tick, if_neg h]
theorem s_tick {σ μ : Nat → Nat → Int32} (h : Rel σ μ) : Rel (f_T_tick σ) (f_M_timer μ) := by
  obtain ⟨hs, hd⟩ := h
  refine ⟨(hs.congr (timer_out μ (by decide)) (timer_out μ (by decide)) (timer_out μ (by decide)) (timer_out μ (by decide)) (timer_7 μ (by decide)) (timer_7 μ (by decide))).congrB (tick_out σ (by decide)) (tick_out σ (by decide)) (tick_out σ (by decide)) (tick_5 σ (by decide)), ?_⟩
  unfold RD
  rw [tick_out σ (a := 3) (by decide), tick_out σ (a := 4) (by decide), timer_out μ (a := 5) (by decide), timer_out μ (a := 4) (by decide), tick_5 σ (j := 1) (by decide), tick_5 σ (j := 2) (by decide), tick_5 σ (j := 3) (by decide), timer_7 μ (j := 3) (by decide), timer_7 μ (j := 4) (by decide), timer_7 μ (j := 5) (by decide)]
  obtain ⟨v, hv, e1, e2⟩ := hd.vl
  obtain ⟨I, P, i1, i2, hP, e3, e4, e5, e6⟩ := hd.iv
  have a1 : σ 5 6 - 1 = nI (3 * I - P - 1) := by rw [e6, nI_pr (by omega)]
  have a2 : μ 7 8 + 1 = nI (P + 1) := by rw [e5, nI_1]
  have a3 : (3 : Int32) * μ 7 7 = nI (3 * I) := by
    rw [e4]
    exact pk_mul 3 I
  have k77 : ∀ v, kup μ 7 8 v 7 7 = μ 7 7 := fun v => by rw [kup_at, if_neg (by omega)]
  have k54 : ∀ v, kup σ 5 6 v 5 4 = σ 5 4 := fun v => by rw [kup_at, if_neg (by omega)]
  by_cases hx : P + 1 = 3 * I
  · have c1 : σ 5 6 - 1 ≤ 0 := by
      rw [a1, show 3 * I - P - 1 = 0 by omega]
      decide
    have c2 : (3 : Int32) * kup μ 7 8 (μ 7 8 + 1) 7 7 ≤ μ 7 8 + 1 := by
      rw [k77, a3, a2, hx]
      exact nI_le (Nat.le_refl _) (by omega)
    have k76 : kup (kup μ 7 8 (μ 7 8 + 1)) 7 8 0 7 6 = μ 7 6 := by rw [kup_at, if_neg (by omega), kup_at, if_neg (by omega)]
    rw [f_T_tick, if_pos c1, f_M_timer, if_pos c2, k54, k76]
    by_cases hv0 : v = 0
    · subst hv0
      have d1 : ¬ 0 ≤ σ 5 4 - 1 := by rw [e1]; decide
      have d2 : ¬ 0 ≤ μ 7 6 - 1 := by rw [e2]; decide
      rw [if_neg d1, if_neg d2]
      refine ⟨hd.px, hd.mt, hd.ck, hd.ln, hd.dr, ⟨255, by decide, ?_, ?_⟩, ⟨1, 0, by decide, by decide, by decide, ?_, ?_, ?_, ?_⟩, ?_⟩ <;> simp [kup_at] <;> decide
    · have d1 : 0 ≤ σ 5 4 - 1 := by rw [e1, nI_pr (by omega)]; exact nI_pos' (by omega)
      have d2 : 0 ≤ μ 7 6 - 1 := by rw [e2, nI_pr (by omega)]; exact nI_pos' (by omega)
      rw [if_pos d1, if_pos d2]
      refine ⟨hd.px, hd.mt, hd.ck, hd.ln, hd.dr, ⟨v - 1, by omega, ?_, ?_⟩, ⟨I, 0, i1, i2, by omega, ?_, ?_, ?_, ?_⟩, ?_⟩
      · rw [← nI_pr (by omega), ← e1]
        simp [kup_at]
      · rw [← nI_pr (by omega), ← e2]
        simp [kup_at]
      · rw [← e3]
        simp [kup_at]
      · rw [← e4]
        simp [kup_at]
      · simp [kup_at]
        decide
      · rw [Nat.sub_zero, Nat.mul_comm, ← pk_mul, ← e3]
        simp [kup_at]
        rfl
      · have := hd.rg
        simp [kup_at, this]
  · have c1 : ¬ σ 5 6 - 1 ≤ 0 := by
      rw [a1]
      exact nI_nle (by omega) (by omega)
    have c2 : ¬ (3 : Int32) * kup μ 7 8 (μ 7 8 + 1) 7 7 ≤ μ 7 8 + 1 := by
      rw [k77, a3, a2]
      exact nI_ge (by omega) (by omega)
    rw [f_T_tick, if_neg c1, f_M_timer, if_neg c2]
    refine ⟨hd.px, hd.mt, hd.ck, hd.ln, hd.dr, ⟨v, hv, ?_, ?_⟩, ⟨I, P + 1, i1, i2, by omega, ?_, ?_, ?_, ?_⟩, ?_⟩
    · rw [← e1]
      simp [kup_at]
    · rw [← e2]
      simp [kup_at]
    · rw [← e3]
      simp [kup_at]
    · rw [← e4]
      simp [kup_at]
    · rw [← a2]
      simp [kup_at]
    · rw [kup_at, if_pos ⟨rfl, rfl⟩, a1]
      congr 1
    · have := hd.rg
      simp [kup_at, this]
def M_step (μ : Nat → Nat → Int32) : Nat → Nat → Int32 := if (μ 7 3 + (1 : Int32)) = (228 : Int32) then (kup (kup (kup μ 7 3 (μ 7 3 + (1 : Int32))) 7 3 (0 : Int32)) 7 4 ((kup (kup μ 7 3 (μ 7 3 + (1 : Int32))) 7 3 (0 : Int32)) 7 4 + (1 : Int32))) else kup μ 7 3 (μ 7 3 + (1 : Int32))
theorem M_one (μ : Nat → Nat → Int32) : f_M_oneClock μ = if μ 7 3 < (68 : Int32) then M_step (f_M_timer μ) else M_step (f_M_timer (f_M_draw μ (μ 7 3 - (68 : Int32)))) := rfl
theorem step_out (σ : Nat → Nat → Int32) {a : Nat} (h : a ≠ 5) : f_B_stepClock σ a = σ a := by
  unfold f_B_stepClock
  split <;> simp only [kup_n h]
theorem step_5 (σ : Nat → Nat → Int32) {j : Nat} (h1 : j ≠ 1) (h2 : j ≠ 2) : f_B_stepClock σ 5 j = σ 5 j := by
  unfold f_B_stepClock
  split <;> simp [kup_at, h1, h2]
theorem mstep_out (μ : Nat → Nat → Int32) {a : Nat} (h : a ≠ 7) : M_step μ a = μ a := by
  unfold M_step
  split <;> simp only [kup_n h]
theorem mstep_7 (μ : Nat → Nat → Int32) {j : Nat} (h1 : j ≠ 3) (h2 : j ≠ 4) : M_step μ 7 j = μ 7 j := by
  unfold M_step
  split <;> simp [kup_at, h1, h2]
theorem step_ck {σ : Nat → Nat → Int32} {c : Nat} (hc : c < 228) (e : σ 5 1 = nI c) : f_B_stepClock σ 5 1 = nI ((c + 1) % 228) := by
  unfold f_B_stepClock
  rw [e, nI_1]
  by_cases h : c + 1 = 228
  · rw [h, if_pos (by decide)]
    simp [kup_at]
    decide
  · have g : ¬ nI (c + 1) = (228 : Int32) := fun q => h ((nI_eq (b := 228) (by omega) (by decide)).mp q)
    rw [if_neg g, kup_at, if_pos ⟨rfl, rfl⟩, Nat.mod_eq_of_lt (by omega)]
theorem s_step {σ μ : Nat → Nat → Int32} (h : Rel σ μ) : Rel (f_B_stepClock σ) (M_step μ) := by
  obtain ⟨hs, hd⟩ := h
  refine ⟨(hs.congr (mstep_out μ (by decide)) (mstep_out μ (by decide)) (mstep_out μ (by decide)) (mstep_out μ (by decide)) (mstep_7 μ (by decide) (by decide)) (mstep_7 μ (by decide) (by decide))).congrB (step_out σ (by decide)) (step_out σ (by decide)) (step_out σ (by decide)) (step_5 σ (by decide) (by decide)), ?_⟩
  unfold RD
  rw [step_out σ (a := 3) (by decide), step_out σ (a := 4) (by decide), mstep_out μ (a := 5) (by decide), mstep_out μ (a := 4) (by decide), step_5 σ (j := 3) (by decide) (by decide), step_5 σ (j := 4) (by decide) (by decide), step_5 σ (j := 5) (by decide) (by decide), step_5 σ (j := 6) (by decide) (by decide), step_5 σ (j := 7) (by decide) (by decide), mstep_7 μ (j := 5) (by decide) (by decide), mstep_7 μ (j := 6) (by decide) (by decide), mstep_7 μ (j := 7) (by decide) (by decide), mstep_7 μ (j := 8) (by decide) (by decide), mstep_7 μ (j := 9) (by decide) (by decide)]
  obtain ⟨c, hc, e1, e2⟩ := hd.ck
  have hl := hd.ln
  refine ⟨hd.px, hd.mt, ⟨(c + 1) % 228, Nat.mod_lt _ (by decide), step_ck hc e1, ?_⟩, ?_, hd.dr, hd.vl, hd.iv, hd.rg⟩
  · unfold M_step
    rw [e2, nI_1]
    by_cases h : c + 1 = 228
    · rw [h, if_pos (by decide)]
      simp [kup_at]
      decide
    · have g : ¬ nI (c + 1) = (228 : Int32) := fun q => h ((nI_eq (b := 228) (by omega) (by decide)).mp q)
      rw [if_neg g, kup_at, if_pos ⟨rfl, rfl⟩, Nat.mod_eq_of_lt (by omega)]
  · unfold M_step f_B_stepClock
    rw [e1, e2]
    split
    · simp [kup_at, hl]
    · simp [kup_at, hl]
/-- one clock of the class, always drawing -/
def B_one (σ : Nat → Nat → Int32) : Nat → Nat → Int32 := if σ 5 1 < (68 : Int32) then f_B_stepClock (f_T_tick σ) else f_B_stepClock (f_T_tick (kup (f_B_draw σ (σ 5 1 - (68 : Int32))) 5 3 (f_B_draw σ (σ 5 1 - (68 : Int32)) 5 3 + (1 : Int32))))
theorem s_one {σ μ : Nat → Nat → Int32} (h : Rel σ μ) : Rel (B_one σ) (f_M_oneClock μ) := by
  obtain ⟨c, hc, e1, e2⟩ := h.2.ck
  rw [M_one, B_one, e1, e2]
  by_cases h6 : c < 68
  · have g : nI c < (68 : Int32) := nI_lt (b := 68) h6 (by decide)
    rw [if_pos g, if_pos g]
    exact s_step (s_tick h)
  · have g : ¬ nI c < (68 : Int32) := nI_nlt (b := 68) (by omega) (by omega)
    have e : nI c - (68 : Int32) = nI (c - 68) := pk_sub (b := 68) (by omega)
    rw [if_neg g, if_neg g, e]
    exact s_step (s_tick (s_draw h.1 h.2 (by omega)))
def itB : Nat → (Nat → Nat → Int32) → Nat → Nat → Int32
  | 0, σ => σ
  | n + 1, σ => itB n (B_one σ)
def itM : Nat → (Nat → Nat → Int32) → Nat → Nat → Int32
  | 0, μ => μ
  | n + 1, μ => itM n (f_M_oneClock μ)
theorem s_it : ∀ (n : Nat) (σ μ : Nat → Nat → Int32), Rel σ μ → Rel (itB n σ) (itM n μ) := by
  intro n
  induction n with
  | zero => exact fun _ _ h => h
  | succ n ih => exact fun _ _ h => ih _ _ (s_one h)
theorem m_it (σ0 : Nat → Nat → Int32) (N : Nat) : ∀ (n : Nat) (i : Int32) (μ : Nat → Nat → Int32), f_M_clocks_lp28 σ0 N n i μ = (itM n μ 7 3, itM n μ) := by
  intro n
  induction n with
  | zero => exact fun _ _ => rfl
  | succ n ih => exact fun i μ => by rw [f_M_clocks_lp28_s, ih]; rfl
theorem m_itS (σ0 : Nat → Nat → Int32) (N : Nat) : ∀ (n : Nat) (i : Int32) (μ : Nat → Nat → Int32), f_M_sync_lp16 σ0 N n i μ = (nI N, itM n μ) := by
  intro n
  induction n with
  | zero => exact fun _ _ => rfl
  | succ n ih => exact fun i μ => by rw [f_M_sync_lp16_s, ih]; rfl
/-- what was passed within this run was drawn with what stands -/
def RI (c0 i : Nat) (σ : Nat → Nat → Int32) : Prop := σ 5 1 = nI ((c0 + i) % 228) ∧ ∀ k, k < i → 68 ≤ (c0 + k) % 228 → Dr σ ((c0 + k) % 228 - 68)
theorem Dr.rest {σ : Nat → Nat → Int32} {x : Nat} (h : Dr σ x) : Dr (f_B_stepClock (f_T_tick σ)) x :=
  h.congr (by rw [step_out _ (by decide), tick_out _ (by decide)]) (by rw [step_out _ (by decide), tick_out _ (by decide)]) (by rw [step_out _ (by decide), tick_out _ (by decide)]) (by rw [step_out _ (by decide), tick_out _ (by decide)]) (by rw [step_out _ (by decide), tick_out _ (by decide)]) (by rw [step_5 _ (by decide) (by decide), tick_5 _ (by decide)])
theorem Dr.cnt {σ : Nat → Nat → Int32} {x : Nat} {v : Int32} (h : Dr σ x) : Dr (kup σ 5 3 v) x :=
  h.congr (kup_n (by decide)) (kup_n (by decide)) (kup_n (by decide)) (kup_n (by decide)) (kup_n (by decide)) (by rw [kup_at, if_neg (by omega)])
theorem RI.one {c0 i : Nat} {σ : Nat → Nat → Int32} (h : RI c0 i σ) : RI c0 (i + 1) (B_one σ) := by
  obtain ⟨e, hD⟩ := h
  have hc : (c0 + i) % 228 < 228 := Nat.mod_lt _ (by decide)
  have hn : ((c0 + i) % 228 + 1) % 228 = (c0 + (i + 1)) % 228 := by omega
  unfold B_one
  rw [e]
  by_cases h6 : (c0 + i) % 228 < 68
  · have g : nI ((c0 + i) % 228) < (68 : Int32) := nI_lt (b := 68) h6 (by decide)
    rw [if_pos g]
    refine ⟨?_, fun k hk h68 => ?_⟩
    · rw [← hn]
      exact step_ck hc (by rw [tick_5 _ (by decide), e])
    · have hki : k ≠ i := fun q => by rw [q] at h68; omega
      exact (hD k (by omega) h68).rest
  · have g : ¬ nI ((c0 + i) % 228) < (68 : Int32) := nI_nlt (b := 68) (by omega) (by omega)
    have e2 : nI ((c0 + i) % 228) - (68 : Int32) = nI ((c0 + i) % 228 - 68) := pk_sub (b := 68) (by omega)
    have hx : (c0 + i) % 228 - 68 < 160 := by omega
    rw [if_neg g, e2]
    refine ⟨?_, fun k hk h68 => ?_⟩
    · rw [← hn]
      exact step_ck hc (by rw [tick_5 _ (by decide), kup_at, if_neg (by omega), d_out σ hx (by decide) (by decide), e])
    · by_cases hki : k = i
      · subst hki
        exact (Dr.self σ hx).cnt.rest
      · exact (Dr.other (hD k (by omega) h68) hx).cnt.rest
theorem b_it (σ0 : Nat → Nat → Int32) (N c0 : Nat) : ∀ (n i : Nat) (σ : Nat → Nat → Int32), i + n < 2 ^ 31 → RI c0 i σ → f_B_run_lp2 σ0 N n (nI i) σ = itB n σ := by
  intro n
  induction n with
  | zero => exact fun _ _ _ _ => rfl
  | succ n ih =>
    intro i σ hi h
    have e := h.1
    have hc : (c0 + i) % 228 < 228 := Nat.mod_lt _ (by decide)
    have key : f_B_run_lp2 σ0 N (n + 1) (nI i) σ = f_B_run_lp2 σ0 N n (nI (i + 1)) (B_one σ) := by
      rw [f_B_run_lp2_s, nI_1]
      unfold B_one
      rw [e]
      by_cases h6 : (c0 + i) % 228 < 68
      · have g : nI ((c0 + i) % 228) < (68 : Int32) := nI_lt (b := 68) h6 (by decide)
        rw [if_pos g, if_pos g]
      · have g : ¬ nI ((c0 + i) % 228) < (68 : Int32) := nI_nlt (b := 68) (by omega) (by omega)
        rw [if_neg g, if_neg g]
        by_cases h2 : 228 ≤ i
        · have g2 : (228 : Int32) ≤ nI i := nI_le (a := 228) h2 (by omega)
          have e2 : nI ((c0 + i) % 228) - (68 : Int32) = nI ((c0 + i) % 228 - 68) := pk_sub (b := 68) (by omega)
          have hk : (c0 + (i - 228)) % 228 = (c0 + i) % 228 := by omega
          have hD := h.2 (i - 228) (by omega) (by rw [hk]; omega)
          rw [hk] at hD
          rw [if_pos g2, e2, hD.no (by omega)]
        · have g2 : ¬ (228 : Int32) ≤ nI i := nI_ge (b := 228) (by omega) (by decide)
          rw [if_neg g2]
    rw [key, ih (i + 1) _ (by omega) h.one]
    rfl
theorem s_run {σ μ : Nat → Nat → Int32} (h : Rel σ μ) {N : Nat} (hN : N < 2 ^ 31) : Rel (f_B_run σ N) (itM N μ) := by
  obtain ⟨c, hc, e1, e2⟩ := h.2.ck
  have hb : f_B_run σ N = itB N σ := b_it σ N c N 0 σ (by omega) ⟨by rw [e1, Nat.add_zero, Nat.mod_eq_of_lt hc], fun k hk => by omega⟩
  rw [hb]
  exact s_it N σ μ h
