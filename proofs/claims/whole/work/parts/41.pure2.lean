/-! pure: who is where -/
theorem sp_01 (z : Int32) : (if z &&& (1 : Int32) = 0 then (0 : Int32) else 1) = (if z &&& (1 : Int32) = 1 then (1 : Int32) else 0) := by
  obtain ⟨j, hj, e⟩ := pk_andE z (m := 1) 1 (by decide)
  rw [e]
  have h : ∀ j, j < 2 → (if nI j = 0 then (0 : Int32) else 1) = (if nI j = 1 then (1 : Int32) else 0) := by decide +kernel
  exact h j hj
theorem sBit01 (v k : Int32) : sBit v k = 0 ∨ sBit v k = 1 := by
  rw [sBit]
  split
  · exact Or.inr rfl
  · exact Or.inl rfl
theorem sdc {s : Nat} (k : Nat) (hk : k < 100) (hs : s < 100) : (nI k + nI s).toNatClampNeg = k + s := by rw [nI_add, nI_clamp (by omega)]
theorem sp_s1 : ∀ t, t < 8 → (1 : Int32) <<< (nI t &&& 31) = nI (2 ^ t) := by decide +kernel
theorem sp_s16 : ∀ t, t < 4 → (16 : Int32) <<< (nI t &&& 31) = nI (2 ^ (4 + t)) := by decide +kernel
theorem sp_s128 : ∀ t, t < 8 → (128 : Int32) >>> (nI t &&& 31) = nI (2 ^ (7 - t)) := by decide +kernel
theorem sp_c : (5 : Int32).toNatClampNeg = 5 ∧ (6 : Int32).toNatClampNeg = 6 ∧ (7 : Int32).toNatClampNeg = 7 ∧ (8 : Int32).toNatClampNeg = 8 := by decide
section S2
variable {σ μ : Nat → Nat → Int32}
theorem s_fq (h : RS σ μ) {q : Nat} (hq : q < 20) : f_B_hasFieldBit σ (nI q) = (if (4 : Int32) ≤ nI q then (if (12 : Int32) ≤ nI q then f_M_bit μ 7 (nI q - 12) else f_M_bit μ 6 ((11 : Int32) - nI q)) else f_M_bit μ 5 ((4 : Int32) + nI q)) := by
  rw [f_B_hasFieldBit]
  by_cases h4 : 4 ≤ q
  · have g4 : (4 : Int32) ≤ nI q := nI_le (a := 4) h4 (by omega)
    rw [if_pos g4, if_pos g4]
    by_cases h12 : 12 ≤ q
    · have g12 : (12 : Int32) ≤ nI q := nI_le (a := 12) h12 (by omega)
      rw [if_pos g12, if_pos g12]
      have e : nI q - (12 : Int32) = nI (q - 12) := pk_sub (b := 12) h12
      rw [e]
      exact sb h 7 (q - 12) (by decide) (by decide) (by omega) (sp_s1 _ (by omega)) rfl
    · have g12 : ¬ (12 : Int32) ≤ nI q := nI_ge (b := 12) (by omega) (by decide)
      rw [if_neg g12, if_neg g12]
      have e : nI q - (4 : Int32) = nI (q - 4) := pk_sub (b := 4) h4
      have e2 : (11 : Int32) - nI q = nI (11 - q) := pk_sub (a := 11) (by omega)
      rw [e, e2]
      exact sb h 6 (11 - q) (by decide) (by decide) (by omega) (by rw [sp_s128 _ (by omega)]; congr 2; omega) rfl
  · have g4 : ¬ (4 : Int32) ≤ nI q := nI_ge (b := 4) (by omega) (by decide)
    rw [if_neg g4, if_neg g4]
    have e2 : (4 : Int32) + nI q = nI (4 + q) := nI_add 4 q
    rw [e2]
    exact sb h 5 (4 + q) (by decide) (by decide) (by omega) (sp_s16 _ (by omega)) rfl
theorem s_field (h : RS σ μ) {x : Nat} (hx : x < 160) : f_B_isAt σ 5 (nI x) = f_M_isThere μ 5 (nI x) := by
  rw [f_B_isAt, if_pos (by decide), if_pos (by decide), if_pos (by decide), f_M_isThere, if_neg (by decide), if_neg (by decide), if_neg (by decide), if_neg (by decide), if_neg (by decide)]
  have er : nI x - nI x / (80 : Int32) * (80 : Int32) = nI (x % 80) := pk_rem (d := 80) (by omega) (by decide) (by decide)
  have ed : nI (x % 80) / (4 : Int32) = nI (x % 80 / 4) := pk_div (d := 4) (by omega) (by decide) (by decide)
  rw [f_B_isFieldAt, f_M_playfield, er, ed]
  by_cases h8 : x < 80
  · have g : ¬ (80 : Int32) ≤ nI x := nI_ge (b := 80) h8 (by decide)
    have g2 : nI x < (80 : Int32) := nI_lt (b := 80) h8 (by decide)
    have e4 : nI x / (4 : Int32) = nI (x % 80 / 4) := by
      rw [Nat.mod_eq_of_lt h8]
      exact pk_div (d := 4) (by omega) (by decide) (by decide)
    rw [if_neg g, if_pos g2, e4]
    exact s_fq h (by omega)
  · have g : (80 : Int32) ≤ nI x := nI_le (a := 80) (by omega) (by omega)
    have g2 : ¬ nI x < (80 : Int32) := nI_nlt (b := 80) (by omega) (by omega)
    have e4 : (nI x - (80 : Int32)) / (4 : Int32) = nI (x % 80 / 4) := by
      have e5 : nI x - (80 : Int32) = nI (x % 80) := by
        have e6 : nI x - (80 : Int32) = nI (x - 80) := pk_sub (b := 80) (by omega)
        rw [e6]
        congr 1
        omega
      rw [e5]
      exact ed
    have e19 : (19 : Int32) - nI (x % 80 / 4) = nI (19 - x % 80 / 4) := pk_sub (a := 19) (by omega)
    rw [if_pos g, if_neg g2, e4, e19, sb h (r := 8) 8 0 (K := 1) (kk := 0) (by decide) (by decide) (by decide) rfl rfl, s_fq h (q := x % 80 / 4) (by omega), s_fq h (q := 19 - x % 80 / 4) (by omega)]
theorem s_mstep (h : RS σ μ) {s c b w x : Nat} (hs : s < 2) (hc8 : c < 8) (hb : b < 160) (hcp : f_M_copiesOf μ (nI s) = nI c) (hsz : f_M_size (μ 0 (17 + s)) = nI (2 ^ w)) (hw : w < 4) (hbh : ∀ f, f < 160 → f_M_behind (nI x) (μ 1 (2 + s) + nI f) = nI ((b + 160 - f) % 160)) (n k : Nat) (hk : k < 4) (acc : Int32) :
    f_M_missile_lp36 μ (nI s) (nI x) (n + 1) (nI k) 1 acc = f_M_missile_lp36 μ (nI s) (nI x) n (nI (k + 1)) 1 (if acc = 0 then (if (hc c k && decide ((b + 160 - far k) % 160 < 2 ^ w)) = true then 1 else 0) else 1) := by
  have key : f_M_missile_lp36 μ (nI s) (nI x) (n + 1) (nI k) 1 acc = (if acc = 0 then (if f_M_hasCopy μ (nI s) (nI (far k)) = 0 then f_M_missile_lp36 μ (nI s) (nI x) n (nI k + 1) 1 0 else (if f_M_size (μ 0 ((17 : Int32) + nI s).toNatClampNeg) ≤ f_M_behind (nI x) (μ 1 ((2 : Int32) + nI s).toNatClampNeg + nI (far k)) then f_M_missile_lp36 μ (nI s) (nI x) n (nI k + 1) 1 0 else f_M_missile_lp36 μ (nI s) (nI x) n (nI k + 1) 1 1)) else f_M_missile_lp36 μ (nI s) (nI x) n (nI k + 1) 1 1) := by
    rw [f_M_missile_lp36_s, if_neg (by decide)]
    by_cases hk3 : k = 3
    · subst hk3
      have g3 : nI 3 = (3 : Int32) := rfl
      rw [if_pos g3]
      rfl
    · have g3 : ¬ nI k = (3 : Int32) := fun q => hk3 ((nI_eq (b := 3) (by omega) (by decide)).mp q)
      rw [if_neg g3]
      have e : (16 : Int32) * nI k = nI (far k) := by
        rw [far, if_neg hk3]
        exact pk_mul 16 k
      rw [e]
  have c17 : ((17 : Int32) + nI s).toNatClampNeg = 17 + s := sdc 17 (by decide) (by omega)
  have c2 : ((2 : Int32) + nI s).toNatClampNeg = 2 + s := sdc 2 (by decide) (by omega)
  have hhc : f_M_hasCopy μ (nI s) (nI (far k)) = if hc c k then 1 else 0 := by
    show hcG (f_M_copiesOf μ (nI s)) (nI (far k)) = _
    rw [hcp]
    exact sp_hcG c hc8 k hk
  have hfar : far k < 160 := by
    rw [far]
    split <;> omega
  have hpw : 2 ^ w < 2 ^ 31 := Nat.pow_lt_pow_right (by decide) (by omega)
  rw [key, c17, c2, hhc, hsz, hbh _ hfar, nI_1]
  by_cases ha : acc = 0
  · rw [if_pos ha, if_pos ha]
    cases hcc : hc c k with
    | false => simp
    | true =>
      by_cases hlt : (b + 160 - far k) % 160 < 2 ^ w
      · have g : ¬ nI (2 ^ w) ≤ nI ((b + 160 - far k) % 160) := nI_ge hlt hpw
        simp [g, hlt]
      · have g : nI (2 ^ w) ≤ nI ((b + 160 - far k) % 160) := nI_le (by omega) (by omega)
        simp [g, hlt]
  · rw [if_neg ha, if_neg ha]
theorem s_missile (h : RS σ μ) {s x : Nat} (hs : s < 2) (hx : x < 160) : f_B_isMissileAt σ (nI s) (nI x) = f_M_missile μ (nI s) (nI x) := by
  have c17 : ((17 : Int32) + nI s).toNatClampNeg = 17 + s := sdc 17 (by decide) (by omega)
  have c19 : ((19 : Int32) + nI s).toNatClampNeg = 19 + s := sdc 19 (by decide) (by omega)
  have c21 : ((21 : Int32) + nI s).toNatClampNeg = 21 + s := sdc 21 (by decide) (by omega)
  have c2 : ((2 : Int32) + nI s).toNatClampNeg = 2 + s := sdc 2 (by decide) (by omega)
  obtain ⟨c, hc8, e1, e2⟩ := s_cp h (side := nI s) s c17 hs
  obtain ⟨b, hb, e3, -, e4⟩ := s_bp h (o := (2 : Int32) + nI s) (2 + s) c2 (by omega) hx
  obtain ⟨w, hw, e5, e6⟩ := s_wid h (r := (17 : Int32) + nI s) (17 + s) c17 (by omega)
  have hpw : 2 ^ w < 2 ^ 31 := Nat.pow_lt_pow_right (by decide) (by omega)
  have st := s_mstep h hs hc8 hb e2 e6 hw e4
  have z0 : f_M_missile_lp36 μ (nI s) (nI x) 4 (0 : Int32) (0 : Int32) (0 : Int32) = 0 := by rw [f_M_missile_lp36_s, if_pos rfl]
  have z1 : f_M_missile_lp36 μ (nI s) (nI x) 4 (0 : Int32) (1 : Int32) (0 : Int32) = if nI (2 ^ w) ≤ nI (bc c b) then 0 else 1 := by
    refine (st 3 0 (by decide) 0).trans ?_
    rw [st 2 1 (by decide), st 1 2 (by decide), st 0 3 (by decide), f_M_missile_lp36_z]
    have hm := sp_mis c hc8 b hb w hw
    by_cases hle : bc c b < 2 ^ w
    · have g : ¬ nI (2 ^ w) ≤ nI (bc c b) := nI_ge hle hpw
      rw [if_neg g]
      have hm1 := hm.mp hle
      revert hm1
      generalize (hc c 0 && decide ((b + 160 - far 0) % 160 < 2 ^ w)) = a0
      generalize (hc c 1 && decide ((b + 160 - far 1) % 160 < 2 ^ w)) = a1
      generalize (hc c 2 && decide ((b + 160 - far 2) % 160 < 2 ^ w)) = a2
      generalize (hc c 3 && decide ((b + 160 - far 3) % 160 < 2 ^ w)) = a3
      revert a0 a1 a2 a3
      decide
    · have g : nI (2 ^ w) ≤ nI (bc c b) := nI_le (by omega) (by have := bc_lt c hc8 b hb; omega)
      rw [if_pos g]
      have hm1 : ¬ _ := fun q => hle (hm.mpr q)
      revert hm1
      generalize (hc c 0 && decide ((b + 160 - far 0) % 160 < 2 ^ w)) = a0
      generalize (hc c 1 && decide ((b + 160 - far 1) % 160 < 2 ^ w)) = a1
      generalize (hc c 2 && decide ((b + 160 - far 2) % 160 < 2 ^ w)) = a2
      generalize (hc c 3 && decide ((b + 160 - far 3) % 160 < 2 ^ w)) = a3
      revert a0 a1 a2 a3
      decide
  rw [f_B_isMissileAt, f_M_missile, sb h (19 + s) 1 (K := 2) (kk := 1) c19 (by omega) (by decide) rfl rfl, sb h (21 + s) 1 (K := 2) (kk := 1) c21 (by omega) (by decide) rfl rfl, e5, e1, e3, sp_bc c hc8 b hb, z0, z1]
theorem s_pstep (h : RS σ μ) {s c b x : Nat} (hs : s < 2) (hc8 : c < 8) (hb : b < 160) (hcp : f_M_copiesOf μ (nI s) = nI c) (hbh : ∀ f, f < 160 → f_M_behind (nI x) (μ 1 s + nI f) = nI ((b + 160 - f) % 160)) (n k : Nat) (hk : k < 4) (sh acc : Int32) :
    f_M_player_lp34 μ (nI s) (nI x) (n + 1) (nI k) sh acc = f_M_player_lp34 μ (nI s) (nI x) n (nI (k + 1)) sh (if act c b k = true then (if acc = 0 then (if f_M_bit μ ((15 : Int32) + nI s) (3 : Int32) = 0 then sBit sh ((7 : Int32) - nI (fl c b)) else sBit sh (nI (fl c b))) else 1) else acc) := by
  have key : f_M_player_lp34 μ (nI s) (nI x) (n + 1) (nI k) sh acc = (if f_M_hasCopy μ (nI s) (nI (far k)) = 0 then f_M_player_lp34 μ (nI s) (nI x) n (nI k + 1) sh acc else (if (8 : Int32) ≤ (f_M_behind (nI x) (μ 1 (nI s).toNatClampNeg + nI (far k))) / (f_M_wide μ (nI s)) then f_M_player_lp34 μ (nI s) (nI x) n (nI k + 1) sh acc else (if acc = 0 then (if f_M_bit μ ((15 : Int32) + nI s) (3 : Int32) = 0 then (if ((sh >>> (((7 : Int32) - ((f_M_behind (nI x) (μ 1 (nI s).toNatClampNeg + nI (far k))) / (f_M_wide μ (nI s)))) &&& 31)) &&& (1 : Int32)) = (1 : Int32) then f_M_player_lp34 μ (nI s) (nI x) n (nI k + 1) sh 1 else f_M_player_lp34 μ (nI s) (nI x) n (nI k + 1) sh 0) else (if ((sh >>> (((f_M_behind (nI x) (μ 1 (nI s).toNatClampNeg + nI (far k))) / (f_M_wide μ (nI s))) &&& 31)) &&& (1 : Int32)) = (1 : Int32) then f_M_player_lp34 μ (nI s) (nI x) n (nI k + 1) sh 1 else f_M_player_lp34 μ (nI s) (nI x) n (nI k + 1) sh 0)) else f_M_player_lp34 μ (nI s) (nI x) n (nI k + 1) sh 1))) := by
    rw [f_M_player_lp34_s]
    by_cases hk3 : k = 3
    · subst hk3
      have g3 : nI 3 = (3 : Int32) := rfl
      rw [if_pos g3]
      rfl
    · have g3 : ¬ nI k = (3 : Int32) := fun q => hk3 ((nI_eq (b := 3) (by omega) (by decide)).mp q)
      rw [if_neg g3]
      have e : (16 : Int32) * nI k = nI (far k) := by
        rw [far, if_neg hk3]
        exact pk_mul 16 k
      rw [e]
  have cs : (nI s).toNatClampNeg = s := nI_clamp (by omega)
  have hhc : f_M_hasCopy μ (nI s) (nI (far k)) = if hc c k then 1 else 0 := by
    show hcG (f_M_copiesOf μ (nI s)) (nI (far k)) = _
    rw [hcp]
    exact sp_hcG c hc8 k hk
  have hwd : f_M_wide μ (nI s) = nI (wd c) := by
    show wdG (f_M_copiesOf μ (nI s)) = _
    rw [hcp]
    exact sp_wdG c hc8
  have hfar : far k < 160 := by
    rw [far]
    split <;> omega
  have hw0 : 0 < wd c ∧ wd c < 5 := by
    rw [wd]
    split
    · omega
    · split <;> omega
  have hat : nI ((b + 160 - far k) % 160) / nI (wd c) = nI (atk c b k) := pk_div (by omega) hw0.1 (by omega)
  have hat2 : atk c b k < 160 := Nat.lt_of_le_of_lt (Nat.div_le_self _ _) (by omega)
  rw [key, cs, hhc, hwd, hbh _ hfar, hat, nI_1]
  cases hcc : hc c k with
  | false =>
    have ha : act c b k = false := by rw [act, hcc]; rfl
    rw [ha]
    rfl
  | true =>
    rw [if_pos rfl, if_neg (by decide)]
    by_cases h8 : atk c b k < 8
    · have ha : act c b k = true := by rw [act, hcc, decide_eq_true h8]; rfl
      have g8 : ¬ (8 : Int32) ≤ nI (atk c b k) := nI_ge (b := 8) h8 (by decide)
      rw [ha, if_neg g8, if_pos rfl, sp_act c hc8 b hb k hk ha]
      by_cases hz : acc = 0
      · rw [if_pos hz, if_pos hz]
        split
        · rw [sBit]
          split <;> rfl
        · rw [sBit]
          split <;> rfl
      · rw [if_neg hz, if_neg hz]
    · have ha : act c b k = false := by rw [act, hcc, decide_eq_false h8]; rfl
      have g8 : (8 : Int32) ≤ nI (atk c b k) := nI_le (a := 8) (by omega) (by omega)
      rw [ha, if_pos g8]
      rfl
theorem s_ploop (h : RS σ μ) {s c b x : Nat} (hs : s < 2) (hc8 : c < 8) (hb : b < 160) (hcp : f_M_copiesOf μ (nI s) = nI c) (hbh : ∀ f, f < 160 → f_M_behind (nI x) (μ 1 s + nI f) = nI ((b + 160 - f) % 160)) (sh : Int32) :
    f_M_player_lp34 μ (nI s) (nI x) 4 (0 : Int32) sh (0 : Int32) = if nI (fl c b) ≤ (7 : Int32) then (if f_M_bit μ ((15 : Int32) + nI s) (3 : Int32) = 0 then sBit sh ((7 : Int32) - nI (fl c b)) else sBit sh (nI (fl c b))) else 0 := by
  have st := s_pstep h hs hc8 hb hcp hbh
  refine (st 3 0 (by decide) sh 0).trans ?_
  rw [st 2 1 (by decide), st 1 2 (by decide), st 0 3 (by decide), f_M_player_lp34_z]
  have hX : (if f_M_bit μ ((15 : Int32) + nI s) (3 : Int32) = 0 then sBit sh ((7 : Int32) - nI (fl c b)) else sBit sh (nI (fl c b))) = 0 ∨ (if f_M_bit μ ((15 : Int32) + nI s) (3 : Int32) = 0 then sBit sh ((7 : Int32) - nI (fl c b)) else sBit sh (nI (fl c b))) = 1 := by
    split <;> exact sBit01 ..
  have hm := sp_act2 c hc8 b hb
  have hfl : fl c b < 2 ^ 31 := Nat.lt_of_le_of_lt (Nat.div_le_self _ _) (by have := bc_lt c hc8 b hb; omega)
  have hm2 : nI (fl c b) ≤ (7 : Int32) ↔ fl c b ≤ 7 := nI_leI (b := 7) hfl (by decide)
  rw [← hm2] at hm
  revert hX hm
  generalize (if f_M_bit μ ((15 : Int32) + nI s) (3 : Int32) = 0 then sBit sh ((7 : Int32) - nI (fl c b)) else sBit sh (nI (fl c b))) = X
  generalize act c b 0 = a0
  generalize act c b 1 = a1
  generalize act c b 2 = a2
  generalize act c b 3 = a3
  intro hX hm
  simp only [hm]
  clear hm
  rcases hX with rfl | rfl
  · revert a0 a1 a2 a3
    decide
  · revert a0 a1 a2 a3
    decide
theorem s_player (h : RS σ μ) {s x : Nat} (hs : s < 2) (hx : x < 160) : f_B_isPlayerAt σ (nI s) (nI x) = f_M_player μ (nI s) (nI x) := by
  have c17 : ((17 : Int32) + nI s).toNatClampNeg = 17 + s := sdc 17 (by decide) (by omega)
  have c11 : ((11 : Int32) + nI s).toNatClampNeg = 11 + s := sdc 11 (by decide) (by omega)
  have c15 : ((15 : Int32) + nI s).toNatClampNeg = 15 + s := sdc 15 (by decide) (by omega)
  have c9 : ((9 : Int32) + nI s).toNatClampNeg = 9 + s := sdc 9 (by decide) (by omega)
  have cs : (nI s).toNatClampNeg = s := nI_clamp (by omega)
  obtain ⟨c, hc8, e1, e2⟩ := s_cp h (side := nI s) s c17 hs
  obtain ⟨b, hb, e3, -, e4⟩ := s_bp h (o := nI s) s cs (by omega) hx
  have cc : (nI c).toNatClampNeg = c := nI_clamp (by omega)
  have hsh : μ 2 s = σ 0 (9 + s) := by
    rcases (show s = 0 ∨ s = 1 by omega) with rfl | rfl
    · exact h.sh0
    · exact h.sh1
  have hfl : nI (bc c b) >>> (tab1 c &&& 31) = nI (fl c b) := sp_fl c hc8 _ (bc_lt c hc8 b hb)
  have q : ∀ z : Int32, (if z &&& (1 : Int32) = 0 then (0 : Int32) else 1) = (if z &&& (1 : Int32) = 1 then (1 : Int32) else 0) := sp_01
  rw [f_B_isPlayerAt, f_M_player, sb h (11 + s) 0 (K := 1) (kk := 0) c11 (by omega) (by decide) rfl rfl, sb h (15 + s) 3 (K := 8) (kk := 3) c15 (by omega) (by decide) rfl rfl, e1, e3, sp_bc c hc8 b hb, cc, hfl, c9, cs, s_ploop h hs hc8 hb e2 e4, s_ploop h hs hc8 hb e2 e4, h.old s hs, hsh, q, q, q, q]
  rfl
theorem s_at (h : RS σ μ) {o x : Nat} (ho : o < 6) (hx : x < 160) : f_B_isAt σ (nI o) (nI x) = f_M_isThere μ (nI o) (nI x) := by
  rcases (show o = 0 ∨ o = 1 ∨ o = 2 ∨ o = 3 ∨ o = 4 ∨ o = 5 by omega) with rfl | rfl | rfl | rfl | rfl | rfl
  · rw [f_B_isAt, if_neg (by decide), f_M_isThere, if_pos (by decide)]
    exact s_player h (s := 0) (by decide) hx
  · rw [f_B_isAt, if_neg (by decide), f_M_isThere, if_neg (by decide), if_pos (by decide)]
    exact s_player h (s := 1) (by decide) hx
  · have e : nI 2 - (2 : Int32) = nI 0 := by decide
    rw [f_B_isAt, if_pos (by decide), if_neg (by decide), f_M_isThere, if_neg (by decide), if_neg (by decide), if_pos (by decide), e]
    exact s_missile h (s := 0) (by decide) hx
  · have e : nI 3 - (2 : Int32) = nI 1 := by decide
    rw [f_B_isAt, if_pos (by decide), if_neg (by decide), f_M_isThere, if_neg (by decide), if_neg (by decide), if_neg (by decide), if_pos (by decide), e]
    exact s_missile h (s := 1) (by decide) hx
  · have e : nI 4 = (4 : Int32) := by decide
    rw [e]
    exact s_ball h hx
  · have e : nI 5 = (5 : Int32) := by decide
    rw [e]
    exact s_field h hx
end S2
