/-! pure: the reference's draw, and both at one clock -/
theorem sp_c48 : ∀ m, m < 64 → ((nI m &&& (48 : Int32) = 0) ↔ (m.testBit 4 || m.testBit 5) = false) := by decide +kernel
theorem sp_c5 : ∀ m, m < 64 → ((nI m &&& (5 : Int32) = 0) ↔ (m.testBit 0 || m.testBit 2) = false) := by decide +kernel
theorem sp_c10 : ∀ m, m < 64 → ((nI m &&& (10 : Int32) = 0) ↔ (m.testBit 1 || m.testBit 3) = false) := by decide +kernel
theorem sp_c32 : ∀ m, m < 64 → ((nI m &&& (32 : Int32) = 0) ↔ m.testBit 5 = false) := by decide +kernel
def b2i (b : Bool) : Int32 := if b = true then 1 else 0
theorem b2i0 (b : Bool) : (b2i b = 0) ↔ b = false := by cases b <;> decide
theorem s_col {σ μ : Nat → Nat → Int32} (h : RS σ μ) {m : Nat} (hm : m < 64) (hh : ∀ k, k < 6 → μ 6 k = b2i (m.testBit k)) (x : Int32) : f_B_colourAt σ x (nI m) = f_M_colour μ x := by
  have c0 : (0 : Int32).toNatClampNeg = 0 := by decide
  have c1 : (1 : Int32).toNatClampNeg = 1 := by decide
  have c2 : (2 : Int32).toNatClampNeg = 2 := by decide
  have c3 : (3 : Int32).toNatClampNeg = 3 := by decide
  have c4 : (4 : Int32).toNatClampNeg = 4 := by decide
  have c5 : (5 : Int32).toNatClampNeg = 5 := by decide
  rw [f_B_colourAt, f_B_fieldColour, f_M_colour, c0, c1, c2, c3, c4, c5, sb h (r := 4) 4 0 (K := 1) (kk := 0) (by decide) (by decide) (by decide) rfl rfl, sb h (r := 8) 8 2 (K := 4) (kk := 2) (by decide) (by decide) (by decide) rfl rfl, sb h (r := 8) 8 1 (K := 2) (kk := 1) (by decide) (by decide) (by decide) rfl rfl, h.reg 0 (by decide), h.reg 1 (by decide), h.reg 2 (by decide), h.reg 3 (by decide), hh 0 (by decide), hh 1 (by decide), hh 2 (by decide), hh 3 (by decide), hh 4 (by decide), hh 5 (by decide)]
  simp only [sp_c48 m hm, sp_c5 m hm, sp_c10 m hm, sp_c32 m hm, b2i0]
  generalize m.testBit 0 = t0
  generalize m.testBit 1 = t1
  generalize m.testBit 2 = t2
  generalize m.testBit 3 = t3
  generalize m.testBit 4 = t4
  generalize m.testBit 5 = t5
  generalize f_M_bit μ 4 0 = B4
  generalize f_M_bit μ 8 2 = B82
  generalize f_M_bit μ 8 1 = B81
  by_cases hb4 : B4 = 0
  · by_cases hb82 : B82 = 0
    · cases t4 <;> cases t5 <;> cases t0 <;> cases t2 <;> cases t1 <;> cases t3 <;> simp [hb4, hb82]
    · cases t4 <;> cases t5 <;> cases t0 <;> cases t2 <;> cases t1 <;> cases t3 <;> simp [hb4, hb82]
  · cases t4 <;> cases t5 <;> simp [hb4]
theorem nar01 {v : Int32} (h : v = 0 ∨ v = 1) : vp_nar .boolean v = v := by rcases h with rfl | rfl <;> decide
theorem m_here {σ : Nat → Nat → Int32} {x : Nat} (hx : x < 160) (μ : Nat → Nat → Int32) : ∀ (n k : Nat) (μ1 : Nat → Nat → Int32), k + n = 6 → RS σ μ1 → ∃ μ', f_M_draw_lp2 μ (nI x) n (nI k) μ1 = f_M_draw_lp28 μ (nI x) 36 0 μ' ∧ (∀ a, a ≠ 6 → μ' a = μ1 a) ∧ ∀ j, j < 6 → μ' 6 j = if k ≤ j then f_B_isAt σ (nI j) (nI x) else μ1 6 j := by
  intro n
  induction n with
  | zero =>
    intro k μ1 hk _
    exact ⟨μ1, f_M_draw_lp2_z .., fun _ _ => rfl, fun j hj => by rw [if_neg (by omega)]⟩
  | succ n ih =>
    intro k μ1 hk h
    have e := s_at h (o := k) (by omega) hx
    have hR : RS σ (kup μ1 6 k (f_B_isAt σ (nI k) (nI x))) := h.congr (kup_n (by decide)) (kup_n (by decide)) (kup_n (by decide)) (kup_n (by decide)) (congrFun (kup_n (by decide)) 1) (congrFun (kup_n (by decide)) 2)
    obtain ⟨μ', e1, e2, e3⟩ := ih (k + 1) _ (by omega) hR
    refine ⟨μ', ?_, fun a ha => ?_, fun j hj => ?_⟩
    · rw [f_M_draw_lp2_s, nI_1, nI_clamp (by omega), ← e, nar01 (z_B_isAt ..)]
      exact e1
    · rw [e2 a ha]
      exact kup_n ha
    · rw [e3 j hj, kup_at]
      by_cases hjk : j = k
      · subst hjk
        rw [if_neg (by omega), if_pos ⟨rfl, rfl⟩, if_pos (Nat.le_refl _)]
      · rw [if_neg (c := 6 = 6 ∧ j = k) (fun q => hjk q.2)]
        by_cases hj2 : k ≤ j
        · rw [if_pos (by omega), if_pos hj2]
        · rw [if_neg (by omega), if_neg hj2]
def mvv (o p q : Int32) (k : Nat) : Int32 := if o = 0 then (if k / 6 = k % 6 then 0 else if p = 0 then 0 else if q = 0 then 0 else 1) else 1
theorem m_meet {x : Nat} (μ : Nat → Nat → Int32) : ∀ (n k : Nat) (μ1 : Nat → Nat → Int32), k + n = 36 → ∃ μ', f_M_draw_lp28 μ (nI x) n (nI k) μ1 = f_M_draw_lp28 μ (nI x) 0 (nI 36) μ' ∧ (∀ a, a ≠ 4 → μ' a = μ1 a) ∧ ∀ j, j < 36 → μ' 4 j = if k ≤ j then mvv (μ1 4 j) (μ1 6 (j / 6)) (μ1 6 (j % 6)) j else μ1 4 j := by
  intro n
  induction n with
  | zero =>
    intro k μ1 hk
    obtain rfl : k = 36 := by omega
    exact ⟨μ1, rfl, fun _ _ => rfl, fun j hj => by rw [if_neg (by omega)]⟩
  | succ n ih =>
    intro k μ1 hk
    obtain ⟨μ', e1, e2, e3⟩ := ih (k + 1) (kup μ1 4 k (mvv (μ1 4 k) (μ1 6 (k / 6)) (μ1 6 (k % 6)) k)) (by omega)
    refine ⟨μ', ?_, fun a ha => ?_, fun j hj => ?_⟩
    · have ed : nI k / (6 : Int32) = nI (k / 6) := pk_div (d := 6) (by omega) (by decide) (by decide)
      have er : nI k - nI k / (6 : Int32) * (6 : Int32) = nI (k % 6) := pk_rem (d := 6) (by omega) (by decide) (by decide)
      have n0 : vp_nar .boolean 0 = 0 := by decide
      have n1 : vp_nar .boolean 1 = 1 := by decide
      have hq : (nI (k / 6) = nI (k % 6)) ↔ k / 6 = k % 6 := nI_eq (by omega) (by omega)
      rw [← e1, f_M_draw_lp28_s, er, ed, nI_1, nI_clamp (n := k) (by omega), nI_clamp (n := k / 6) (by omega), nI_clamp (n := k % 6) (by omega), n0, n1]
      unfold mvv
      by_cases ha : μ1 4 k = 0
      · rw [if_pos ha, if_pos ha]
        by_cases hb : k / 6 = k % 6
        · rw [if_pos hb, if_pos (hq.mpr hb)]
        · rw [if_neg hb, if_neg (fun z => hb (hq.mp z))]
          by_cases hc1 : μ1 6 (k / 6) = 0
          · rw [if_pos hc1, if_pos hc1]
          · rw [if_neg hc1, if_neg hc1]
            by_cases hd : μ1 6 (k % 6) = 0
            · rw [if_pos hd, if_pos hd]
            · rw [if_neg hd, if_neg hd]
      · rw [if_neg ha, if_neg ha]
    · rw [e2 a ha]
      exact kup_n ha
    · rw [e3 j hj, kup_n (a := 6) (by decide), kup_at]
      by_cases hjk : j = k
      · subst hjk
        rw [if_neg (by omega), if_pos ⟨rfl, rfl⟩, if_pos (Nat.le_refl _)]
      · rw [if_neg (c := 4 = 4 ∧ j = k) (fun q => hjk q.2)]
        by_cases hj2 : k ≤ j
        · rw [if_pos (by omega), if_pos hj2]
        · rw [if_neg (by omega), if_neg hj2]
def RD (σ μ : Nat → Nat → Int32) : Prop := (∀ j, j < 160 → σ 3 j = μ 5 j) ∧ (∀ a, a < 6 → ∃ n : Nat, n < 64 ∧ σ 4 a = nI n ∧ ∀ b, b < 6 → μ 4 (6 * a + b) = b2i (n.testBit b)) ∧ (∃ c : Nat, c < 228 ∧ σ 5 1 = nI c ∧ μ 7 3 = nI c) ∧ (σ 5 2 = μ 7 4) ∧ (σ 5 3 = μ 7 5) ∧ (∃ v : Nat, v < 256 ∧ σ 5 4 = nI v ∧ μ 7 6 = nI v) ∧ (∃ I P : Nat, 1 ≤ I ∧ I ≤ 1024 ∧ P < 3 * I ∧ σ 5 5 = nI I ∧ μ 7 7 = nI I ∧ μ 7 8 = nI P ∧ σ 5 6 = nI (3 * I - P)) ∧ (σ 5 7 = μ 7 9)
theorem RD.px {σ μ : Nat → Nat → Int32} (h : RD σ μ) : ∀ j, j < 160 → σ 3 j = μ 5 j := h.1
theorem RD.mt {σ μ : Nat → Nat → Int32} (h : RD σ μ) : ∀ a, a < 6 → ∃ n : Nat, n < 64 ∧ σ 4 a = nI n ∧ ∀ b, b < 6 → μ 4 (6 * a + b) = b2i (n.testBit b) := h.2.1
theorem RD.ck {σ μ : Nat → Nat → Int32} (h : RD σ μ) : ∃ c : Nat, c < 228 ∧ σ 5 1 = nI c ∧ μ 7 3 = nI c := h.2.2.1
theorem RD.ln {σ μ : Nat → Nat → Int32} (h : RD σ μ) : σ 5 2 = μ 7 4 := h.2.2.2.1
theorem RD.dr {σ μ : Nat → Nat → Int32} (h : RD σ μ) : σ 5 3 = μ 7 5 := h.2.2.2.2.1
theorem RD.vl {σ μ : Nat → Nat → Int32} (h : RD σ μ) : ∃ v : Nat, v < 256 ∧ σ 5 4 = nI v ∧ μ 7 6 = nI v := h.2.2.2.2.2.1
theorem RD.iv {σ μ : Nat → Nat → Int32} (h : RD σ μ) : ∃ I P : Nat, 1 ≤ I ∧ I ≤ 1024 ∧ P < 3 * I ∧ σ 5 5 = nI I ∧ μ 7 7 = nI I ∧ μ 7 8 = nI P ∧ σ 5 6 = nI (3 * I - P) := h.2.2.2.2.2.2.1
theorem RD.rg {σ μ : Nat → Nat → Int32} (h : RD σ μ) : σ 5 7 = μ 7 9 := h.2.2.2.2.2.2.2
theorem sp_or : ∀ n, n < 64 → ∀ m, m < 64 → nI n ||| nI m = nI (n ||| m) := by decide +kernel
theorem sp_m2 : ∀ m, m < 64 → ∀ a, a < 6 → m.testBit a = true → m - 2 ^ a < 64 ∧ ∀ b, b < 6 → (m - 2 ^ a).testBit b = (m.testBit b && b != a) := by decide +kernel
theorem sp_mm : ∀ a, a < 6 → ∀ b, b < 6 → (6 * a + b) / 6 = a ∧ (6 * a + b) % 6 = b := by decide
theorem sp_mvv : ∀ o a b : Bool, ∀ i, i < 6 → ∀ j, j < 6 → mvv (b2i o) (b2i a) (b2i b) (6 * i + j) = b2i (o || (a && b && j != i)) := by decide +kernel
theorem s_draw {σ μ : Nat → Nat → Int32} (h : RS σ μ) (hd : RD σ μ) {x : Nat} (hx : x < 160) : RS (kup (f_B_draw σ (nI x)) 5 3 (f_B_draw σ (nI x) 5 3 + 1)) (f_M_draw μ (nI x)) ∧ RD (kup (f_B_draw σ (nI x)) 5 3 (f_B_draw σ (nI x) 5 3 + 1)) (f_M_draw μ (nI x)) := by
  obtain ⟨μ1, e1, o1, v1⟩ := m_here hx μ 6 0 μ rfl h
  obtain ⟨μ2, e2, o2, v2⟩ := m_meet (x := x) μ 36 0 μ1 rfl
  have e3 : f_M_draw μ (nI x) = kup (kup μ2 5 x (f_M_colour μ2 (nI x))) 7 5 (μ2 7 5 + 1) := by
    rw [f_M_draw]
    refine e1.trans (e2.trans ?_)
    rw [f_M_draw_lp28_z, nI_clamp (by omega), kup_n (a := 7) (k := 5) (by decide)]
  have q : ∀ a, a ≠ 6 → a ≠ 4 → μ2 a = μ a := fun a ha hb => (o2 a hb).trans (o1 a ha)
  have hm := mk6_lt fun k => decide (f_B_isAt σ (nI k) (nI x) ≠ 0)
  have hh1 : ∀ k, k < 6 → μ1 6 k = b2i ((Ms σ x).testBit k) := by
    intro k hk
    rw [v1 k hk, if_pos (Nat.zero_le _), Ms, mk6_bit _ k hk]
    rcases z_B_isAt σ (nI k) (nI x) with z | z <;> rw [z] <;> decide
  have hh : ∀ k, k < 6 → μ2 6 k = b2i ((Ms σ x).testBit k) := fun k hk => by rw [o2 6 (by decide)]; exact hh1 k hk
  have h2 : RS σ μ2 := h.congr (q 0 (by decide) (by decide)) (q 1 (by decide) (by decide)) (q 2 (by decide) (by decide)) (q 3 (by decide) (by decide)) (congrFun (q 7 (by decide) (by decide)) 1) (congrFun (q 7 (by decide) (by decide)) 2)
  have hcol := s_col h2 hm hh (nI x)
  have q7 := q 7 (by decide) (by decide)
  have d5 := d_out σ hx (a := 5) (by decide) (by decide)
  have M7 : ∀ j, j ≠ 5 → f_M_draw μ (nI x) 7 j = μ 7 j := by
    intro j hj
    rw [e3, kup_at, if_neg (fun z => hj z.2), kup_n (by decide), q7]
  have B5 : ∀ j, j ≠ 3 → kup (f_B_draw σ (nI x)) 5 3 (f_B_draw σ (nI x) 5 3 + 1) 5 j = σ 5 j := by
    intro j hj
    rw [kup_at, if_neg (fun z => hj z.2), d5]
  constructor
  · refine RS.congrB (σ := σ) ?_ ?_ ?_ ?_ (B5 0 (by decide))
    · refine h.congr ?_ ?_ ?_ ?_ (M7 1 (by decide)) (M7 2 (by decide))
      · rw [e3, kup_n (by decide), kup_n (by decide)]
        exact q 0 (by decide) (by decide)
      · rw [e3, kup_n (by decide), kup_n (by decide)]
        exact q 1 (by decide) (by decide)
      · rw [e3, kup_n (by decide), kup_n (by decide)]
        exact q 2 (by decide) (by decide)
      · rw [e3, kup_n (by decide), kup_n (by decide)]
        exact q 3 (by decide) (by decide)
    · rw [kup_n (by decide)]
      exact d_out σ hx (by decide) (by decide)
    · rw [kup_n (by decide)]
      exact d_out σ hx (by decide) (by decide)
    · rw [kup_n (by decide)]
      exact d_out σ hx (by decide) (by decide)
  · unfold RD
    rw [B5 1 (by decide), B5 2 (by decide), B5 4 (by decide), B5 5 (by decide), B5 6 (by decide), B5 7 (by decide), M7 3 (by decide), M7 4 (by decide), M7 6 (by decide), M7 7 (by decide), M7 8 (by decide), M7 9 (by decide)]
    refine ⟨?_, ?_, hd.ck, hd.ln, ?_, hd.vl, hd.iv, hd.rg⟩
    · intro j hj
      rw [e3, kup_n (a := 3) (by decide), kup_n (a := 5) (k := 7) (by decide), kup_at, d_at σ hx, if_neg (by omega)]
      by_cases hjx : j = x
      · rw [if_pos ⟨rfl, hjx⟩, if_pos ⟨rfl, hjx⟩]
        exact hcol
      · rw [if_neg (fun z => hjx z.2), if_neg (fun z => hjx z.2), q 5 (by decide) (by decide)]
        exact hd.px j hj
    · intro a ha
      obtain ⟨n, hn, en, eb⟩ := hd.mt a ha
      have K : ∀ b, b < 6 → f_M_draw μ (nI x) 4 (6 * a + b) = b2i (n.testBit b || ((Ms σ x).testBit a && (Ms σ x).testBit b && b != a)) := by
        intro b hb
        rw [e3, kup_n (by decide), kup_n (by decide), v2 _ (by omega), if_pos (Nat.zero_le _), (sp_mm a ha b hb).1, (sp_mm a ha b hb).2, hh1 a ha, hh1 b hb, o1 4 (by decide), eb b hb]
        exact sp_mvv _ _ _ a ha b hb
      rw [kup_n (by decide), d_at σ hx]
      by_cases hb : (Ms σ x).testBit a = true
      · have g := sp_m2 (Ms σ x) hm a ha hb
        rw [if_pos ⟨rfl, ha, hb⟩, en, sp_or n hn _ g.1]
        refine ⟨_, Nat.or_lt_two_pow (n := 6) hn g.1, rfl, fun b hb2 => ?_⟩
        rw [K b hb2, hb, Nat.testBit_or, g.2 b hb2]
        rfl
      · rw [if_neg (fun z => hb z.2.2), if_neg (by omega)]
        refine ⟨n, hn, en, fun b hb2 => ?_⟩
        rw [K b hb2, (Bool.not_eq_true _).mp hb, Bool.false_and, Bool.false_and, Bool.or_false]
    · rw [kup_at, if_pos ⟨rfl, rfl⟩, e3, kup_at, if_pos ⟨rfl, rfl⟩, d5, q7, hd.dr]
