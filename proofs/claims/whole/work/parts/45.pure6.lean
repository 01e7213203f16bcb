/-! pure: the calls -/
theorem RD.congr {σ μ σ' μ' : Nat → Nat → Int32} (h : RD σ μ) (h3 : σ' 3 = σ 3) (h4 : σ' 4 = σ 4) (h5 : ∀ j, 1 ≤ j → σ' 5 j = σ 5 j) (m4 : μ' 4 = μ 4) (m5 : μ' 5 = μ 5) (m7 : ∀ j, 3 ≤ j → μ' 7 j = μ 7 j) : RD σ' μ' := by
  unfold RD
  rw [h3, h4, m4, m5, h5 1 (by decide), h5 2 (by decide), h5 3 (by decide), h5 4 (by decide), h5 5 (by decide), h5 6 (by decide), h5 7 (by decide), m7 3 (by decide), m7 4 (by decide), m7 5 (by decide), m7 6 (by decide), m7 7 (by decide), m7 8 (by decide), m7 9 (by decide)]
  exact h
theorem Rel.thr {σ μ : Nat → Nat → Int32} (h : Rel σ μ) (v : Int32) : Rel σ (kup μ 7 0 v) :=
  ⟨h.1.congr (kup_n (by decide)) (kup_n (by decide)) (kup_n (by decide)) (kup_n (by decide)) (by rw [kup_at, if_neg (by omega)]) (by rw [kup_at, if_neg (by omega)]), h.2.congr rfl rfl (fun _ _ => rfl) (kup_n (by decide)) (kup_n (by decide)) (fun j hj => by rw [kup_at, if_neg (by omega)])⟩
theorem g10 (μ : Nat → Nat → Int32) : f_M_goes μ 0 1 = (0, kup μ 7 0 1) := by rw [f_M_goes, if_pos rfl]
theorem g00 (μ : Nat → Nat → Int32) : f_M_goes μ 0 0 = (0, kup μ 7 0 1) := by rw [f_M_goes, if_pos rfl]
theorem g20 (μ : Nat → Nat → Int32) : f_M_goes μ 1 0 = (0, kup μ 7 0 2) := by rw [f_M_goes, if_neg (by decide), if_pos rfl]
theorem g11 (μ : Nat → Nat → Int32) : f_M_goes μ 1 1 = (1, kup μ 7 0 0) := by rw [f_M_goes, if_neg (by decide), if_neg (by decide)]
theorem g11a (μ : Nat → Nat → Int32) : (f_M_goes μ 1 1).1 = 1 := by rw [g11]
theorem g11b (μ : Nat → Nat → Int32) : (f_M_goes μ 1 1).2 = kup μ 7 0 0 := by rw [g11]
theorem g10a (μ : Nat → Nat → Int32) : (f_M_goes μ 0 1).1 = 0 := by rw [g10]
theorem g10b (μ : Nat → Nat → Int32) : (f_M_goes μ 0 1).2 = kup μ 7 0 1 := by rw [g10]
theorem g00a (μ : Nat → Nat → Int32) : (f_M_goes μ 0 0).1 = 0 := by rw [g00]
theorem g00b (μ : Nat → Nat → Int32) : (f_M_goes μ 0 0).2 = kup μ 7 0 1 := by rw [g00]
theorem g20a (μ : Nat → Nat → Int32) : (f_M_goes μ 1 0).1 = 0 := by rw [g20]
theorem g20b (μ : Nat → Nat → Int32) : (f_M_goes μ 1 0).2 = kup μ 7 0 2 := by rw [g20]
theorem thr0 (μ : Nat → Nat → Int32) (v : Int32) : kup μ 7 0 v 7 0 = v := by rw [kup_at, if_pos ⟨rfl, rfl⟩]
section S6
variable {σ μ : Nat → Nat → Int32}
theorem RSw {σ' μ' : Nat → Nat → Int32} (h : RS σ μ) {j v : Nat} (hv : v < 256) (r : ∀ i, i < 28 → μ' 0 i = if i = j then nI v else μ 0 i) (r2 : ∀ i, i < 28 → σ' 0 i = if i = j then nI v else σ 0 i) (a0 : μ' 2 0 = σ' 0 9) (a1 : μ' 2 1 = σ' 0 10) (o : ∀ i, i < 2 → μ' 3 i = σ' 1 i) (ob : ∀ i, i < 2 → sByte (σ' 1 i)) (p : μ' 1 = μ 1) (p2 : σ' 2 = σ 2) (b1 : μ' 7 1 = sBit (σ' 0 13) 1) (b2 : μ' 7 2 = sBit (σ' 5 0) 1) (b3 : sByte (σ' 5 0)) : RS σ' μ' := by
  refine ⟨fun i hi => ?_, fun i hi => ?_, a0, a1, o, ob, ?_, ?_, b1, b2, b3⟩
  · rw [r i hi, r2 i hi, h.reg i hi]
  · rw [r2 i hi]
    split
    · exact ⟨v, hv, rfl⟩
    · exact h.byt i hi
  · rw [p, p2]
    exact h.pl
  · rw [p2]
    exact h.plb
/-- a plain register -/
theorem s_reg (h : Rel σ μ) {j v : Nat} (hv : v < 256) (h9 : j ≠ 9) (h10 : j ≠ 10) (h13 : j ≠ 13) : Rel (kup σ 0 j (nI v)) (kup μ 0 j (nI v)) := by
  refine ⟨RSw (σ := σ) (μ := μ) h.1 (j := j) hv ?_ ?_ ?_ ?_ ?_ ?_ ?_ ?_ ?_ ?_ ?_, h.2.congr (kup_n (by decide)) (kup_n (by decide)) (fun _ _ => by rw [kup_n (by decide)]) (kup_n (by decide)) (kup_n (by decide)) (fun _ _ => by rw [kup_n (by decide)])⟩
  · intro i _
    rw [kup_at]
    simp
  · intro i _
    rw [kup_at]
    simp
  · rw [kup_n (by decide), kup_at, if_neg (by omega)]
    exact h.1.sh0
  · rw [kup_n (by decide), kup_at, if_neg (by omega)]
    exact h.1.sh1
  · intro i hi
    rw [kup_n (by decide), kup_n (by decide)]
    exact h.1.old i hi
  · intro i hi
    rw [kup_n (by decide)]
    exact h.1.oldb i hi
  · exact kup_n (by decide)
  · exact kup_n (by decide)
  · rw [kup_n (by decide), kup_at, if_neg (by omega)]
    exact h.1.ba
  · rw [kup_n (by decide), kup_n (by decide)]
    exact h.1.ob
  · rw [kup_n (by decide)]
    exact h.1.obb
/-- a place -/
theorem s_pl (h : Rel σ μ) {j v : Nat} (hv : v < 160) : Rel (kup σ 2 j (nI v)) (kup μ 1 j (nI v)) := by
  refine ⟨⟨?_, ?_, ?_, ?_, ?_, ?_, ?_, ?_, ?_, ?_, ?_⟩, h.2.congr (kup_n (by decide)) (kup_n (by decide)) (fun _ _ => by rw [kup_n (by decide)]) (kup_n (by decide)) (kup_n (by decide)) (fun _ _ => by rw [kup_n (by decide)])⟩
  · rw [kup_n (by decide), kup_n (by decide)]
    exact h.1.reg
  · rw [kup_n (by decide)]
    exact h.1.byt
  · rw [kup_n (by decide), kup_n (by decide)]
    exact h.1.sh0
  · rw [kup_n (by decide), kup_n (by decide)]
    exact h.1.sh1
  · rw [kup_n (by decide), kup_n (by decide)]
    exact h.1.old
  · rw [kup_n (by decide)]
    exact h.1.oldb
  · intro i hi
    rw [kup_at, kup_at]
    by_cases q : i = j
    · rw [if_pos ⟨rfl, q⟩, if_pos ⟨rfl, q⟩]
    · rw [if_neg (fun z => q z.2), if_neg (fun z => q z.2)]
      exact h.1.pl i hi
  · intro i hi
    rw [kup_at]
    by_cases q : i = j
    · rw [if_pos ⟨rfl, q⟩]
      exact ⟨v, hv, rfl⟩
    · rw [if_neg (fun z => q z.2)]
      exact h.1.plb i hi
  · rw [kup_n (by decide), kup_n (by decide)]
    exact h.1.ba
  · rw [kup_n (by decide), kup_n (by decide)]
    exact h.1.ob
  · rw [kup_n (by decide)]
    exact h.1.obb
theorem s_w9 (h : Rel σ μ) {v : Nat} (hv : v < 256) : Rel (kup (kup σ 1 1 (σ 0 10)) 0 9 (nI v)) (kup (kup (kup μ 2 0 (nI v)) 3 1 (μ 2 1)) 0 9 (nI v)) := by
  refine ⟨RSw (σ := σ) (μ := μ) h.1 (j := 9) hv ?_ ?_ ?_ ?_ ?_ ?_ ?_ ?_ ?_ ?_ ?_, h.2.congr ?_ ?_ ?_ ?_ ?_ ?_⟩
  · intro i _
    simp [kup_at]
  · intro i _
    simp [kup_at]
  · simp [kup_at]
  · simp [kup_at, h.1.sh1]
  · intro i hi
    rcases (show i = 0 ∨ i = 1 by omega) with rfl | rfl
    · simp [kup_at, h.1.old 0 (by decide)]
    · simp [kup_at, h.1.sh1]
  · intro i hi
    rcases (show i = 0 ∨ i = 1 by omega) with rfl | rfl
    · simp [kup_at, h.1.oldb 0 (by decide)]
    · simp [kup_at, h.1.byt 10 (by decide)]
  · simp [kup_n]
  · simp [kup_n]
  · simp [kup_at, h.1.ba]
  · simp [kup_at, h.1.ob]
  · simp [kup_at, h.1.obb]
  · simp [kup_n]
  · simp [kup_n]
  · simp [kup_n]
  · simp [kup_n]
  · simp [kup_n]
  · simp [kup_n]
theorem s_w10 (h : Rel σ μ) {v : Nat} (hv : v < 256) : Rel (kup (kup (kup σ 1 0 (σ 0 9)) 5 0 (σ 0 13)) 0 10 (nI v)) (kup (kup (kup (kup μ 2 1 (nI v)) 3 0 (μ 2 0)) 7 2 (μ 7 1)) 0 10 (nI v)) := by
  refine ⟨RSw (σ := σ) (μ := μ) h.1 (j := 10) hv ?_ ?_ ?_ ?_ ?_ ?_ ?_ ?_ ?_ ?_ ?_, h.2.congr ?_ ?_ ?_ ?_ ?_ ?_⟩
  · intro i _
    simp [kup_at]
  · intro i _
    simp [kup_at]
  · simp [kup_at, h.1.sh0]
  · simp [kup_at]
  · intro i hi
    rcases (show i = 0 ∨ i = 1 by omega) with rfl | rfl
    · simp [kup_at, h.1.sh0]
    · simp [kup_at, h.1.old 1 (by decide)]
  · intro i hi
    rcases (show i = 0 ∨ i = 1 by omega) with rfl | rfl
    · simp [kup_at, h.1.byt 9 (by decide)]
    · simp [kup_at, h.1.oldb 1 (by decide)]
  · simp [kup_n]
  · simp [kup_n]
  · simp [kup_at, h.1.ba]
  · simp [kup_at, h.1.ba]
  · simp [kup_at, h.1.byt 13 (by decide)]
  · simp [kup_n]
  · simp [kup_n]
  · intro j hj
    have : j ≠ 0 := by omega
    simp [kup_at, this]
  · simp [kup_n]
  · simp [kup_n]
  · intro j hj
    have : j ≠ 2 := by omega
    simp [kup_at, this]
theorem s_w13 (h : Rel σ μ) {v : Nat} (hv : v < 256) : Rel (kup σ 0 13 (nI v)) (kup (kup μ 7 1 (sBit (nI v) 1)) 0 13 (nI v)) := by
  refine ⟨RSw (σ := σ) (μ := μ) h.1 (j := 13) hv ?_ ?_ ?_ ?_ ?_ ?_ ?_ ?_ ?_ ?_ ?_, h.2.congr ?_ ?_ ?_ ?_ ?_ ?_⟩
  · intro i _
    simp [kup_at]
  · intro i _
    simp [kup_at]
  · simp [kup_at, h.1.sh0]
  · simp [kup_at, h.1.sh1]
  · intro i hi
    simp [kup_at, h.1.old i hi]
  · intro i hi
    simp [kup_at, h.1.oldb i hi]
  · simp [kup_n]
  · simp [kup_n]
  · simp [kup_at]
  · simp [kup_at, h.1.ob]
  · simp [kup_at, h.1.obb]
  · simp [kup_n]
  · simp [kup_n]
  · simp [kup_n]
  · simp [kup_n]
  · simp [kup_n]
  · intro j hj
    have : j ≠ 1 := by omega
    simp [kup_at, this]
theorem sp_mid : ∀ c, c < 8 → (4 : Int32) <<< (tab1 c &&& 31) = nI (4 * wd c) := by decide +kernel
theorem s_unlock (h : Rel σ μ) {s v : Nat} (hs : s < 2) (hv : v < 256) (q1 : ¬ f_B_hasBit σ (nI (21 + s)) 2 = 0) (q2 : nI v &&& 2 = 0) : f_M_lock μ (nI s) (nI v) 7 = μ 7 ∧ Rel (f_B_unlock σ (nI s)) (f_M_lock μ (nI s) (nI v)) := by
  have c17 : ((17 : Int32) + nI s).toNatClampNeg = 17 + s := sdc 17 (by decide) (by omega)
  have c2 : ((2 : Int32) + nI s).toNatClampNeg = 2 + s := sdc 2 (by decide) (by omega)
  have cs : (nI s).toNatClampNeg = s := nI_clamp (by omega)
  obtain ⟨c, hc8, e1, e2⟩ := s_cp h.1 (side := nI s) s c17 hs
  obtain ⟨p, hp, ep⟩ := h.1.plb s (by omega)
  have cc : (nI c).toNatClampNeg = c := nI_clamp (by omega)
  have hwd : f_M_wide μ (nI s) = nI (wd c) := by
    show wdG (f_M_copiesOf μ (nI s)) = _
    rw [e2]
    exact sp_wdG c hc8
  have hw0 : wd c < 5 := by
    rw [wd]
    split
    · omega
    · split <;> omega
  have b1 : ¬ f_M_bit μ ((21 : Int32) + nI s) 1 = 0 := by
    have e : (21 : Int32) + nI s = nI (21 + s) := nI_add 21 s
    rw [e, ← sb h.1 (21 + s) 1 (K := 2) (kk := 1) (nI_clamp (by omega)) (by omega) (by decide) rfl rfl]
    exact q1
  have b2 : ((nI v >>> ((1 : Int32) &&& 31)) &&& (1 : Int32)) = 0 := by
    have k : ∀ v, v < 256 → nI v &&& 2 = 0 → ((nI v >>> ((1 : Int32) &&& 31)) &&& (1 : Int32)) = 0 := by decide +kernel
    exact k v hv q2
  have em : (4 : Int32) * nI (wd c) = nI (4 * wd c) := pk_mul 4 (wd c)
  have er : nI (p + 4 * wd c) - nI (p + 4 * wd c) / (160 : Int32) * (160 : Int32) = nI ((p + 4 * wd c) % 160) := pk_rem (d := 160) (by omega) (by decide) (by decide)
  have M : f_M_lock μ (nI s) (nI v) = kup μ 1 (2 + s) (nI ((p + 4 * wd c) % 160)) := by
    rw [f_M_lock, if_neg b1, if_pos b2, c2, cs, h.1.pl s (by omega), ep, hwd, em, nI_add, er]
  have B : f_B_unlock σ (nI s) = kup σ 2 (2 + s) (nI ((p + 4 * wd c) % 160)) := by
    rw [f_B_unlock, c2, cs, e1, cc, ep, sp_mid c hc8, nI_add, er]
  rw [M, B]
  exact ⟨kup_n (by decide), s_pl h (Nat.mod_lt _ (by decide))⟩
theorem s_lock0 (h : Rel σ μ) {s v : Nat} (hs : s < 2) (hv : v < 256) (q : f_B_hasBit σ (nI (21 + s)) 2 = 0 ∨ ¬ nI v &&& 2 = 0) : f_M_lock μ (nI s) (nI v) = μ := by
  have e : (21 : Int32) + nI s = nI (21 + s) := nI_add 21 s
  rw [f_M_lock, e, ← sb h.1 (21 + s) 1 (K := 2) (kk := 1) (nI_clamp (by omega)) (by omega) (by decide) rfl rfl]
  rcases q with q | q
  · rw [if_pos q]
  · have k : ∀ v, v < 256 → ¬ nI v &&& 2 = 0 → ¬ ((nI v >>> ((1 : Int32) &&& 31)) &&& (1 : Int32)) = 0 := by decide +kernel
    rw [if_neg (k v hv q)]
    split <;> rfl
theorem s_store (h : Rel σ μ) {r v : Nat} (hr : r < 28) (hv : v < 256) : Rel (f_B_store σ (nI r) (nI v)) (f_M_write_j32 μ (nI r) (nI v) 1 1) ∧ f_M_write_j32 μ (nI r) (nI v) 1 1 7 0 = 0 := by
  have c0 : (0 : Int32).toNatClampNeg = 0 := by decide
  have c1 : (1 : Int32).toNatClampNeg = 1 := by decide
  have c9 : (9 : Int32).toNatClampNeg = 9 := by decide
  have c10 : (10 : Int32).toNatClampNeg = 10 := by decide
  have c13 : (13 : Int32).toNatClampNeg = 13 := by decide
  have cr : (nI r).toNatClampNeg = r := nI_clamp (by omega)
  have g27 : nI r ≤ (27 : Int32) := nI_le (b := 27) (by omega) (by decide)
  have ne : ∀ k : Nat, k < 100 → r ≠ k → ¬ nI r = nI k := fun k hk hn q => hn ((nI_eq (by omega) (by omega)).mp q)
  have h0 : Rel σ (kup μ 7 0 0) := h.thr 0
  have t0 : kup μ 7 0 0 7 0 = 0 := thr0 μ 0
  rw [f_M_write_j32, g11a, g11b, if_neg (by decide), if_pos g27, f_B_store, cr, c0, c1, c9, c10, c13]
  generalize kup μ 7 0 0 = μ0 at h0 t0 ⊢
  by_cases h9 : r = 9
  · subst h9
    have e : nI 9 = (9 : Int32) := rfl
    have k2 : kup μ0 2 0 (nI v) 2 1 = μ0 2 1 := by rw [kup_at, if_neg (by omega)]
    rw [if_pos e, if_pos e, k2]
    refine ⟨s_w9 h0 hv, ?_⟩
    rw [kup_n (by decide), kup_n (by decide), kup_n (by decide), t0]
  have n9 : ¬ nI r = (9 : Int32) := ne 9 (by decide) h9
  rw [if_neg n9, if_neg n9]
  by_cases h10 : r = 10
  · subst h10
    have e : nI 10 = (10 : Int32) := rfl
    have k2 : kup μ0 2 1 (nI v) 2 0 = μ0 2 0 := by rw [kup_at, if_neg (by omega)]
    have k3 : kup σ 1 0 (σ 0 9) 0 13 = σ 0 13 := by rw [kup_n (by decide)]
    have k4 : ∀ z, kup (kup μ0 2 1 (nI v)) 3 0 z 7 1 = μ0 7 1 := fun z => by rw [kup_n (by decide), kup_n (by decide)]
    rw [if_pos e, if_pos e, k2, k3, k4]
    refine ⟨s_w10 h0 hv, ?_⟩
    rw [kup_n (by decide), kup_at, if_neg (by omega), kup_n (by decide), kup_n (by decide), t0]
  have n10 : ¬ nI r = (10 : Int32) := ne 10 (by decide) h10
  rw [if_neg n10, if_neg n10]
  by_cases h13 : r = 13
  · subst h13
    have e : nI 13 = (13 : Int32) := rfl
    rw [if_neg (by decide), if_neg (by decide), if_pos e]
    have k : (if ((nI v >>> ((1 : Int32) &&& 31)) &&& (1 : Int32)) = (1 : Int32) then kup (kup μ0 7 1 1) 0 13 (nI v) else kup (kup μ0 7 1 0) 0 13 (nI v)) = kup (kup μ0 7 1 (sBit (nI v) 1)) 0 13 (nI v) := by
      rw [sBit]
      split <;> rfl
    rw [k]
    refine ⟨s_w13 h0 hv, ?_⟩
    rw [kup_n (by decide), kup_at, if_neg (by omega), t0]
  have n13 : ¬ nI r = (13 : Int32) := ne 13 (by decide) h13
  rw [if_neg n13]
  have LK : ∀ s, s < 2 → r = 21 + s → Rel (if f_B_hasBit σ (nI r) 2 = 0 then kup σ 0 r (nI v) else if nI v &&& (2 : Int32) = 0 then kup (f_B_unlock σ (nI s)) 0 r (nI v) else kup σ 0 r (nI v)) (kup (f_M_lock μ0 (nI s) (nI v)) 0 r (nI v)) ∧ kup (f_M_lock μ0 (nI s) (nI v)) 0 r (nI v) 7 0 = 0 := by
    intro s hs hrs
    subst hrs
    by_cases q1 : f_B_hasBit σ (nI (21 + s)) 2 = 0
    · rw [if_pos q1, s_lock0 h0 hs hv (Or.inl q1)]
      exact ⟨s_reg h0 hv (by omega) (by omega) (by omega), by rw [kup_n (by decide), t0]⟩
    · rw [if_neg q1]
      by_cases q2 : nI v &&& 2 = 0
      · rw [if_pos q2]
        obtain ⟨u1, u2⟩ := s_unlock h0 hs hv q1 q2
        exact ⟨s_reg u2 hv (by omega) (by omega) (by omega), by rw [kup_n (by decide), u1, t0]⟩
      · rw [if_neg q2, s_lock0 h0 hs hv (Or.inr q2)]
        exact ⟨s_reg h0 hv (by omega) (by omega) (by omega), by rw [kup_n (by decide), t0]⟩
  by_cases h21 : r = 21
  · have e : nI r = (21 : Int32) := by rw [h21]; rfl
    have e2 : nI r - (21 : Int32) = nI 0 := by rw [h21]; rfl
    rw [if_pos e, if_pos e, e2]
    exact LK 0 (by decide) h21
  have n21 : ¬ nI r = (21 : Int32) := ne 21 (by decide) h21
  rw [if_neg n21, if_neg n21]
  by_cases h22 : r = 22
  · have e : nI r = (22 : Int32) := by rw [h22]; rfl
    have e2 : nI r - (21 : Int32) = nI 1 := by rw [h22]; rfl
    rw [if_pos e, if_pos e, e2]
    exact LK 1 (by decide) h22
  have n22 : ¬ nI r = (22 : Int32) := ne 22 (by decide) h22
  rw [if_neg n22, if_neg n22]
  exact ⟨s_reg h0 hv h9 h10 h13, by rw [kup_n (by decide), t0]⟩
/-! move, stop, forget, put -/
def mvp (p u : Nat) : Nat := if u < 8 then (p + 160 - u) % 160 else (p + 176 - u) % 160
theorem mvp_lt (p u : Nat) : mvp p u < 160 := by
  unfold mvp
  split <;> exact Nat.mod_lt _ (by decide)
theorem sp_mvB : ∀ p, p < 160 → ∀ u, u < 16 → f_J_floorMod (nI p - (if (8 : Int32) ≤ nI u then nI u - (16 : Int32) else nI u)) 160 = nI (mvp p u) := by decide +kernel
theorem sp_mvM : ∀ p, p < 160 → ∀ u, u < 16 → (if nI u ≤ (7 : Int32) then ((nI p - nI u) + (160 : Int32)) - ((nI p - nI u) + (160 : Int32)) / (160 : Int32) * (160 : Int32) else ((nI p - (nI u - (16 : Int32))) + (160 : Int32)) - ((nI p - (nI u - (16 : Int32))) + (160 : Int32)) / (160 : Int32) * (160 : Int32)) = nI (mvp p u) := by decide +kernel
theorem sp_sh4 : ∀ n, n < 256 → nI n >>> ((4 : Int32) &&& 31) = nI (n / 16) := by decide +kernel
theorem s_move (σ0 μ0 : Nat → Nat → Int32) : ∀ (n k : Nat) (σ μ : Nat → Nat → Int32), k + n ≤ 5 → Rel σ μ → Rel (f_B_moveAll_lp2 σ0 n (nI k) σ) (f_M_move_lp2 μ0 n (nI k) μ) ∧ f_M_move_lp2 μ0 n (nI k) μ 7 = μ 7 := by
  intro n
  induction n with
  | zero => exact fun _ _ _ _ h => ⟨h, rfl⟩
  | succ n ih =>
    intro k σ μ hk h
    obtain ⟨p, hp, ep⟩ := h.1.plb k (by omega)
    obtain ⟨b, hb, eb⟩ := h.1.byt (23 + k) (by omega)
    have ck : (nI k).toNatClampNeg = k := nI_clamp (by omega)
    have c23 : ((23 : Int32) + nI k).toNatClampNeg = 23 + k := sdc 23 (by decide) (by omega)
    have ed : nI b / (16 : Int32) = nI (b / 16) := pk_div (d := 16) (by omega) (by decide) (by decide)
    have B : f_B_moveAll_lp2 σ0 (n + 1) (nI k) σ = f_B_moveAll_lp2 σ0 n (nI (k + 1)) (kup σ 2 k (nI (mvp p (b / 16)))) := by
      rw [f_B_moveAll_lp2_s, nI_1, ck, f_B_motionOf, c23, ep, eb, sp_sh4 b hb, sp_mvB p hp (b / 16) (by omega)]
    have M : f_M_move_lp2 μ0 (n + 1) (nI k) μ = f_M_move_lp2 μ0 n (nI (k + 1)) (kup μ 1 k (nI (mvp p (b / 16)))) := by
      rw [f_M_move_lp2_s, nI_1, ck, c23, h.1.pl k (by omega), h.1.reg (23 + k) (by omega), ep, eb, ed, ← sp_mvM p hp (b / 16) (by omega)]
      split <;> rfl
    rw [B, M]
    obtain ⟨a1, a2⟩ := ih (k + 1) _ _ (by omega) (s_pl h (j := k) (mvp_lt p (b / 16)))
    exact ⟨a1, by rw [a2]; exact kup_n (by decide)⟩
theorem s_stop (σ0 μ0 : Nat → Nat → Int32) (r : Int32) : ∀ (n k : Nat) (σ μ : Nat → Nat → Int32), 23 ≤ k → k + n ≤ 28 → Rel σ μ → Rel (f_J_fill4_lp10 σ0 n (nI k) σ) (f_M_special_lp39 μ0 r n (nI k) μ) ∧ f_M_special_lp39 μ0 r n (nI k) μ 7 = μ 7 := by
  intro n
  induction n with
  | zero => exact fun _ _ _ _ _ h => ⟨h, rfl⟩
  | succ n ih =>
    intro k σ μ hk0 hk h
    rw [f_J_fill4_lp10_s, f_M_special_lp39_s, nI_1, nI_clamp (by omega)]
    obtain ⟨a1, a2⟩ := ih (k + 1) _ _ (by omega) (by omega) (s_reg h (j := k) (v := 0) (by decide) (by omega) (by omega) (by omega))
    exact ⟨a1, a2.trans (kup_n (by decide))⟩
theorem f2_at (σ0 : Nat → Nat → Int32) : ∀ (n k : Nat) (σ : Nat → Nat → Int32), k + n ≤ 6 → ∀ a j, f_J_fill2_lp5 σ0 n (nI k) σ a j = if a = 4 ∧ k ≤ j ∧ j < k + n then 0 else σ a j := by
  intro n
  induction n with
  | zero =>
    intro k σ _ a j
    rw [if_neg (by omega)]
    rfl
  | succ n ih =>
    intro k σ hk a j
    rw [f_J_fill2_lp5_s, nI_1, nI_clamp (by omega), ih (k + 1) _ (by omega), kup_at]
    by_cases q : a = 4 ∧ k ≤ j ∧ j < k + (n + 1)
    · rw [if_pos q]
      by_cases q2 : j = k
      · rw [if_neg (by omega), if_pos ⟨q.1, q2⟩]
      · rw [if_pos (by omega)]
    · rw [if_neg q, if_neg (by omega), if_neg (by omega)]
theorem l63_at (μ0 : Nat → Nat → Int32) (r : Int32) : ∀ (n k : Nat) (μ : Nat → Nat → Int32), k + n ≤ 36 → ∀ a j, f_M_special_lp63 μ0 r n (nI k) μ a j = if a = 4 ∧ k ≤ j ∧ j < k + n then 0 else μ a j := by
  intro n
  induction n with
  | zero =>
    intro k σ _ a j
    rw [if_neg (by omega)]
    rfl
  | succ n ih =>
    intro k σ hk a j
    have n0 : vp_nar .boolean 0 = 0 := by decide
    rw [f_M_special_lp63_s, nI_1, nI_clamp (by omega), n0, ih (k + 1) _ (by omega), kup_at]
    by_cases q : a = 4 ∧ k ≤ j ∧ j < k + (n + 1)
    · rw [if_pos q]
      by_cases q2 : j = k
      · rw [if_neg (by omega), if_pos ⟨q.1, q2⟩]
      · rw [if_pos (by omega)]
    · rw [if_neg q, if_neg (by omega), if_neg (by omega)]
theorem s_forget (h : Rel σ μ) (r : Int32) : Rel (f_J_fill2 σ) (f_M_special_lp63 μ r 36 0 μ) ∧ f_M_special_lp63 μ r 36 0 μ 7 = μ 7 := by
  have B : ∀ a j, f_J_fill2 σ a j = if a = 4 ∧ 0 ≤ j ∧ j < 0 + 6 then 0 else σ a j := fun a j => f2_at σ 6 0 σ (by decide) a j
  have M : ∀ a j, f_M_special_lp63 μ r 36 0 μ a j = if a = 4 ∧ 0 ≤ j ∧ j < 0 + 36 then 0 else μ a j := fun a j => l63_at μ r 36 0 μ (by decide) a j
  have b : ∀ a, a ≠ 4 → f_J_fill2 σ a = σ a := fun a ha => funext fun j => by rw [B, if_neg (fun z => ha z.1)]
  have m : ∀ a, a ≠ 4 → f_M_special_lp63 μ r 36 0 μ a = μ a := fun a ha => funext fun j => by rw [M, if_neg (fun z => ha z.1)]
  refine ⟨⟨(h.1.congr (m 0 (by decide)) (m 1 (by decide)) (m 2 (by decide)) (m 3 (by decide)) (by rw [m 7 (by decide)]) (by rw [m 7 (by decide)])).congrB (b 0 (by decide)) (b 1 (by decide)) (b 2 (by decide)) (by rw [b 5 (by decide)]), ?_⟩, m 7 (by decide)⟩
  unfold RD
  rw [b 3 (by decide), b 5 (by decide), m 5 (by decide), m 7 (by decide)]
  refine ⟨h.2.px, fun a ha => ⟨0, by decide, ?_, fun c hc => ?_⟩, h.2.ck, h.2.ln, h.2.dr, h.2.vl, h.2.iv, h.2.rg⟩
  · rw [B, if_pos (by omega)]
    rfl
  · rw [M, if_pos (by omega), Nat.zero_testBit]
    rfl
theorem s_put (h : Rel σ μ) {o : Nat} (ho : o < 5) : Rel (f_B_put σ (nI o)) (f_M_reset μ (nI o)) ∧ f_M_reset μ (nI o) 7 = μ 7 := by
  obtain ⟨c, hc, e1, e2⟩ := h.2.ck
  have co : (nI o).toNatClampNeg = o := nI_clamp (by omega)
  have key : ∀ z : Nat, z < 160 → f_B_put σ (nI o) = kup σ 2 o (nI z) → f_M_reset μ (nI o) = kup μ 1 o (nI z) → Rel (f_B_put σ (nI o)) (f_M_reset μ (nI o)) ∧ f_M_reset μ (nI o) 7 = μ 7 := by
    intro z hz a b
    rw [a, b]
    exact ⟨s_pl h hz, kup_n (by decide)⟩
  have kb : ∀ c, 68 ≤ c → c < 228 → (((nI c - (68 : Int32)) + (4 : Int32)) + (0 : Int32)) - (((nI c - (68 : Int32)) + (4 : Int32)) + (0 : Int32)) / (160 : Int32) * (160 : Int32) = nI ((c - 64) % 160) ∧ (((nI c - (68 : Int32)) + (4 : Int32)) + (1 : Int32)) - (((nI c - (68 : Int32)) + (4 : Int32)) + (1 : Int32)) / (160 : Int32) * (160 : Int32) = nI ((c - 63) % 160) ∧ ((nI c - (68 : Int32)) + (4 : Int32)) - ((nI c - (68 : Int32)) + (4 : Int32)) / (160 : Int32) * (160 : Int32) = nI ((c - 64) % 160) ∧ ((nI c - (68 : Int32)) + (5 : Int32)) - ((nI c - (68 : Int32)) + (5 : Int32)) / (160 : Int32) * (160 : Int32) = nI ((c - 63) % 160) := by
    have k : ∀ c, c < 228 → 68 ≤ c → (((nI c - (68 : Int32)) + (4 : Int32)) + (0 : Int32)) - (((nI c - (68 : Int32)) + (4 : Int32)) + (0 : Int32)) / (160 : Int32) * (160 : Int32) = nI ((c - 64) % 160) ∧ (((nI c - (68 : Int32)) + (4 : Int32)) + (1 : Int32)) - (((nI c - (68 : Int32)) + (4 : Int32)) + (1 : Int32)) / (160 : Int32) * (160 : Int32) = nI ((c - 63) % 160) ∧ ((nI c - (68 : Int32)) + (4 : Int32)) - ((nI c - (68 : Int32)) + (4 : Int32)) / (160 : Int32) * (160 : Int32) = nI ((c - 64) % 160) ∧ ((nI c - (68 : Int32)) + (5 : Int32)) - ((nI c - (68 : Int32)) + (5 : Int32)) / (160 : Int32) * (160 : Int32) = nI ((c - 63) % 160) := by decide +kernel
    exact fun c h1 h2 => k c h2 h1
  by_cases h2 : 2 ≤ o
  · have g2 : (2 : Int32) ≤ nI o := nI_le (a := 2) h2 (by omega)
    by_cases h68 : 68 ≤ c
    · have g : (68 : Int32) ≤ nI c := nI_le (a := 68) h68 (by omega)
      have gm : 0 ≤ nI c - (68 : Int32) := by
        have e : nI c - (68 : Int32) = nI (c - 68) := pk_sub (b := 68) h68
        rw [e]
        exact nI_pos' (by omega)
      refine key ((c - 64) % 160) (Nat.mod_lt _ (by decide)) ?_ ?_
      · rw [f_B_put, e1, co, if_pos g2, if_pos g, (kb c h68 hc).1]
      · rw [f_M_reset, e2, co, if_pos g2, if_pos gm, (kb c h68 hc).2.2.1]
    · have g : ¬ (68 : Int32) ≤ nI c := nI_ge (b := 68) (by omega) (by decide)
      have gm : ¬ 0 ≤ nI c - (68 : Int32) := by
        have hn : nI c - (68 : Int32) < 0 := pk_sneg (b := 68) (by decide) (by omega)
        rw [Int32.le_iff_toInt_le]
        rw [Int32.lt_iff_toInt_lt] at hn
        omega
      refine key 2 (by decide) ?_ ?_
      · rw [f_B_put, e1, co, if_pos g2, if_neg g]
        rfl
      · rw [f_M_reset, e2, co, if_pos g2, if_neg gm]
        rfl
  · have g2 : ¬ (2 : Int32) ≤ nI o := nI_ge (b := 2) (by omega) (by decide)
    by_cases h68 : 68 ≤ c
    · have g : (68 : Int32) ≤ nI c := nI_le (a := 68) h68 (by omega)
      have gm : 0 ≤ nI c - (68 : Int32) := by
        have e : nI c - (68 : Int32) = nI (c - 68) := pk_sub (b := 68) h68
        rw [e]
        exact nI_pos' (by omega)
      refine key ((c - 63) % 160) (Nat.mod_lt _ (by decide)) ?_ ?_
      · rw [f_B_put, e1, co, if_neg g2, if_pos g, (kb c h68 hc).2.1]
      · rw [f_M_reset, e2, co, if_neg g2, if_pos gm, (kb c h68 hc).2.2.2]
    · have g : ¬ (68 : Int32) ≤ nI c := nI_ge (b := 68) (by omega) (by decide)
      have gm : ¬ 0 ≤ nI c - (68 : Int32) := by
        have hn : nI c - (68 : Int32) < 0 := pk_sneg (b := 68) (by decide) (by omega)
        rw [Int32.le_iff_toInt_le]
        rw [Int32.lt_iff_toInt_lt] at hn
        omega
      refine key 3 (by decide) ?_ ?_
      · rw [f_B_put, e1, co, if_neg g2, if_neg g]
        rfl
      · rw [f_M_reset, e2, co, if_neg g2, if_neg gm]
        rfl
end S6
