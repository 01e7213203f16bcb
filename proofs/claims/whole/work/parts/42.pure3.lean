/-! pure: the draw -/
theorem kup_at (σ : Nat → Nat → Int32) (k j : Nat) (v : Int32) (a i : Nat) : kup σ k j v a i = if a = k ∧ i = j then v else σ a i := by
  unfold kup upd
  by_cases h : a = k
  · subst h
    simp
  · simp [h]
theorem kup_n {σ : Nat → Nat → Int32} {k j : Nat} {v : Int32} {a : Nat} (h : a ≠ k) : kup σ k j v a = σ a := if_neg h
theorem RS.congr {σ μ μ' : Nat → Nat → Int32} (h : RS σ μ) (h0 : μ' 0 = μ 0) (h1 : μ' 1 = μ 1) (h2 : μ' 2 = μ 2) (h3 : μ' 3 = μ 3) (h4 : μ' 7 1 = μ 7 1) (h5 : μ' 7 2 = μ 7 2) : RS σ μ' := by
  unfold RS
  rw [h0, h1, h2, h3, h4, h5]
  exact h
theorem RS.congrB {σ μ σ' : Nat → Nat → Int32} (h : RS σ μ) (h0 : σ' 0 = σ 0) (h1 : σ' 1 = σ 1) (h2 : σ' 2 = σ 2) (h5 : σ' 5 0 = σ 5 0) : RS σ' μ := by
  unfold RS
  rw [h0, h1, h2, h5]
  exact h
/-- the mask of who is at x -/
def mk6 (b : Nat → Bool) : Nat := (if b 0 then 1 else 0) + (if b 1 then 2 else 0) + (if b 2 then 4 else 0) + (if b 3 then 8 else 0) + (if b 4 then 16 else 0) + (if b 5 then 32 else 0)
theorem mk6_lt (b : Nat → Bool) : mk6 b < 64 := by
  unfold mk6
  generalize b 0 = b0
  generalize b 1 = b1
  generalize b 2 = b2
  generalize b 3 = b3
  generalize b 4 = b4
  generalize b 5 = b5
  revert b0 b1 b2 b3 b4 b5
  decide
theorem mk6_bit (b : Nat → Bool) : ∀ k, k < 6 → (mk6 b).testBit k = b k := by
  intro k hk
  unfold mk6
  have h : ∀ b0 b1 b2 b3 b4 b5 : Bool, ((if b0 then 1 else 0) + (if b1 then 2 else 0) + (if b2 then 4 else 0) + (if b3 then 8 else 0) + (if b4 then 16 else 0) + (if b5 then 32 else 0)).testBit 0 = b0 ∧ ((if b0 then 1 else 0) + (if b1 then 2 else 0) + (if b2 then 4 else 0) + (if b3 then 8 else 0) + (if b4 then 16 else 0) + (if b5 then 32 else 0)).testBit 1 = b1 ∧ ((if b0 then 1 else 0) + (if b1 then 2 else 0) + (if b2 then 4 else 0) + (if b3 then 8 else 0) + (if b4 then 16 else 0) + (if b5 then 32 else 0)).testBit 2 = b2 ∧ ((if b0 then 1 else 0) + (if b1 then 2 else 0) + (if b2 then 4 else 0) + (if b3 then 8 else 0) + (if b4 then 16 else 0) + (if b5 then 32 else 0)).testBit 3 = b3 ∧ ((if b0 then 1 else 0) + (if b1 then 2 else 0) + (if b2 then 4 else 0) + (if b3 then 8 else 0) + (if b4 then 16 else 0) + (if b5 then 32 else 0)).testBit 4 = b4 ∧ ((if b0 then 1 else 0) + (if b1 then 2 else 0) + (if b2 then 4 else 0) + (if b3 then 8 else 0) + (if b4 then 16 else 0) + (if b5 then 32 else 0)).testBit 5 = b5 := by decide +kernel
  have h6 := h (b 0) (b 1) (b 2) (b 3) (b 4) (b 5)
  rcases (show k = 0 ∨ k = 1 ∨ k = 2 ∨ k = 3 ∨ k = 4 ∨ k = 5 by omega) with rfl | rfl | rfl | rfl | rfl | rfl
  · exact h6.1
  · exact h6.2.1
  · exact h6.2.2.1
  · exact h6.2.2.2.1
  · exact h6.2.2.2.2.1
  · exact h6.2.2.2.2.2
def Ms (σ : Nat → Nat → Int32) (x : Nat) : Nat := mk6 fun k => decide (f_B_isAt σ (nI k) (nI x) ≠ 0)
def ac6 (b : Bool) (k : Nat) (acc : Int32) : Int32 := if b = true then acc ||| ((1 : Int32) <<< (nI k &&& 31)) else acc
theorem ac6_all : ∀ b0 b1 b2 b3 b4 b5 : Bool, ac6 b5 5 (ac6 b4 4 (ac6 b3 3 (ac6 b2 2 (ac6 b1 1 (ac6 b0 0 0))))) = nI ((if b0 then 1 else 0) + (if b1 then 2 else 0) + (if b2 then 4 else 0) + (if b3 then 8 else 0) + (if b4 then 16 else 0) + (if b5 then 32 else 0)) := by decide +kernel
theorem d_step (σ : Nat → Nat → Int32) (x : Nat) (n k : Nat) (acc : Int32) : f_B_draw_lp4 σ (nI x) (n + 1) (nI k) acc σ = f_B_draw_lp4 σ (nI x) n (nI (k + 1)) (ac6 (decide (f_B_isAt σ (nI k) (nI x) ≠ 0)) k acc) σ := by
  rw [f_B_draw_lp4_s, nI_1, ac6]
  by_cases h : f_B_isAt σ (nI k) (nI x) = 0
  · rw [if_pos h, if_neg (by simp [h])]
  · rw [if_neg h, if_pos (by simp [h])]
theorem d_mask (σ : Nat → Nat → Int32) {x : Nat} (hx : x < 160) : f_B_draw σ (nI x) = f_B_keepMeetings (kup σ 3 x (f_B_colourAt σ (nI x) (nI (Ms σ x)))) (nI (Ms σ x)) := by
  rw [f_B_draw]
  refine (d_step σ x 5 0 0).trans ?_
  rw [d_step, d_step, d_step, d_step, d_step, f_B_draw_lp4_z, nI_clamp (by omega), ac6_all]
  rfl
theorem sp_km : ∀ m, m < 64 → ∀ j, j < 6 → (nI m &&& ((1 : Int32) <<< (nI j &&& 31)) = 0 ↔ m.testBit j = false) := by decide +kernel
theorem sp_kx : ∀ m, m < 64 → ∀ j, j < 6 → m.testBit j = true → nI m &&& (((1 : Int32) <<< (nI j &&& 31)) ^^^ (-1 : Int32)) = nI (m - 2 ^ j) := by decide +kernel
theorem k_loop (σ : Nat → Nat → Int32) {m : Nat} (hm : m < 64) : ∀ (n k : Nat) (σ1 : Nat → Nat → Int32), k + n ≤ 6 → ∀ a j, f_B_keepMeetings_lp2 σ (nI m) n (nI k) σ1 a j = if a = 4 ∧ k ≤ j ∧ j < k + n ∧ m.testBit j = true then σ1 4 j ||| nI (m - 2 ^ j) else σ1 a j := by
  intro n
  induction n with
  | zero =>
    intro k σ1 _ a j
    rw [f_B_keepMeetings_lp2_z, if_neg (by omega)]
  | succ n ih =>
    intro k σ1 hk a j
    rw [f_B_keepMeetings_lp2_s, nI_1, nI_clamp (by omega)]
    by_cases hb : m.testBit k = true
    · rw [if_neg (fun q => by rw [(sp_km m hm k (by omega)).mp q] at hb; cases hb), sp_kx m hm k (by omega) hb, ih (k + 1) _ (by omega), kup_at, kup_at]
      by_cases ha : a = 4
      · subst ha
        by_cases hjk : j = k
        · subst hjk
          rw [if_neg (by omega), if_pos ⟨rfl, rfl⟩, if_pos ⟨rfl, by omega, by omega, hb⟩]
        · rw [if_neg (c := 4 = 4 ∧ j = k) (by omega)]
          by_cases hj : k ≤ j ∧ j < k + (n + 1) ∧ m.testBit j = true
          · rw [if_pos ⟨rfl, by omega, by omega, hj.2.2⟩, if_pos ⟨rfl, hj⟩]
          · rw [if_neg (fun q => hj ⟨by omega, by omega, q.2.2.2⟩), if_neg (fun q => hj q.2)]
      · rw [if_neg (fun q => ha q.1), if_neg (fun q => ha q.1), if_neg (fun q => ha q.1)]
    · rw [if_pos ((sp_km m hm k (by omega)).mpr (by simpa using hb)), ih (k + 1) _ (by omega)]
      by_cases hj : a = 4 ∧ k ≤ j ∧ j < k + (n + 1) ∧ m.testBit j = true
      · have hjk : j ≠ k := fun q => hb (q ▸ hj.2.2.2)
        rw [if_pos ⟨hj.1, by omega, by omega, hj.2.2.2⟩, if_pos hj]
      · rw [if_neg (fun q => hj ⟨q.1, by omega, by omega, q.2.2.2⟩), if_neg hj]
theorem d_at (σ : Nat → Nat → Int32) {x : Nat} (hx : x < 160) (a j : Nat) : f_B_draw σ (nI x) a j = if a = 4 ∧ j < 6 ∧ (Ms σ x).testBit j = true then σ 4 j ||| nI (Ms σ x - 2 ^ j) else if a = 3 ∧ j = x then f_B_colourAt σ (nI x) (nI (Ms σ x)) else σ a j := by
  rw [d_mask σ hx, f_B_keepMeetings]
  refine (k_loop _ (mk6_lt _) 6 0 _ (by decide) a j).trans ?_
  rw [kup_at, kup_at]
  by_cases h : a = 4 ∧ j < 6 ∧ (Ms σ x).testBit j = true
  · rw [if_pos ⟨h.1, by omega, by omega, h.2.2⟩, if_pos h, if_neg (by omega)]
    rfl
  · rw [if_neg (fun q => h ⟨q.1, by omega, q.2.2.2⟩), if_neg h]
theorem isAt_congr {σ σ' : Nat → Nat → Int32} (h0 : σ' 0 = σ 0) (h1 : σ' 1 = σ 1) (h2 : σ' 2 = σ 2) (h5 : σ' 5 0 = σ 5 0) (o x : Int32) : f_B_isAt σ' o x = f_B_isAt σ o x := by
  unfold f_B_isAt f_B_isPlayerAt f_B_isMissileAt f_B_isBallAt f_B_isFieldAt f_B_hasFieldBit f_B_hasBit f_B_copiesOf f_B_widthIn f_B_behindPlace
  rw [h0, h1, h2, h5]
theorem Ms_congr {σ σ' : Nat → Nat → Int32} (h0 : σ' 0 = σ 0) (h1 : σ' 1 = σ 1) (h2 : σ' 2 = σ 2) (h5 : σ' 5 0 = σ 5 0) (x : Nat) : Ms σ' x = Ms σ x := by
  unfold Ms
  simp only [isAt_congr h0 h1 h2 h5]
theorem col_congr {σ σ' : Nat → Nat → Int32} (h0 : σ' 0 = σ 0) (x he : Int32) : f_B_colourAt σ' x he = f_B_colourAt σ x he := by
  unfold f_B_colourAt f_B_fieldColour f_B_hasBit
  rw [h0]
/-- x was drawn with what stands: to draw it again changes nothing -/
def Dr (σ : Nat → Nat → Int32) (x : Nat) : Prop := σ 3 x = f_B_colourAt σ (nI x) (nI (Ms σ x)) ∧ ∀ j, j < 6 → (Ms σ x).testBit j = true → σ 4 j ||| nI (Ms σ x - 2 ^ j) = σ 4 j
theorem Dr.no {σ : Nat → Nat → Int32} {x : Nat} (h : Dr σ x) (hx : x < 160) : f_B_draw σ (nI x) = σ := by
  funext a j
  rw [d_at σ hx]
  by_cases h4 : a = 4 ∧ j < 6 ∧ (Ms σ x).testBit j = true
  · rw [if_pos h4, h4.1]
    exact h.2 j h4.2.1 h4.2.2
  · rw [if_neg h4]
    by_cases h3 : a = 3 ∧ j = x
    · rw [if_pos h3, h3.1, h3.2]
      exact h.1.symm
    · rw [if_neg h3]
theorem d_out (σ : Nat → Nat → Int32) {x : Nat} (hx : x < 160) {a : Nat} (h3 : a ≠ 3) (h4 : a ≠ 4) : f_B_draw σ (nI x) a = σ a := by
  funext j
  rw [d_at σ hx, if_neg (fun q => h4 q.1), if_neg (fun q => h3 q.1)]
theorem Dr.self (σ : Nat → Nat → Int32) {x : Nat} (hx : x < 160) : Dr (f_B_draw σ (nI x)) x := by
  have e0 := d_out σ hx (a := 0) (by decide) (by decide)
  have e1 := d_out σ hx (a := 1) (by decide) (by decide)
  have e2 := d_out σ hx (a := 2) (by decide) (by decide)
  have e5 := congrFun (d_out σ hx (a := 5) (by decide) (by decide)) 0
  unfold Dr
  rw [Ms_congr e0 e1 e2 e5, col_congr e0]
  refine ⟨?_, fun j hj hb => ?_⟩
  · rw [d_at σ hx, if_neg (by omega), if_pos ⟨rfl, rfl⟩]
  · rw [d_at σ hx, if_pos ⟨rfl, hj, hb⟩, Int32.or_assoc, Int32.or_self]
theorem Dr.other {σ : Nat → Nat → Int32} {x y : Nat} (h : Dr σ y) (hx : x < 160) : Dr (f_B_draw σ (nI x)) y := by
  by_cases hxy : y = x
  · subst hxy
    exact Dr.self σ hx
  · have e0 := d_out σ hx (a := 0) (by decide) (by decide)
    have e1 := d_out σ hx (a := 1) (by decide) (by decide)
    have e2 := d_out σ hx (a := 2) (by decide) (by decide)
    have e5 := congrFun (d_out σ hx (a := 5) (by decide) (by decide)) 0
    unfold Dr
    rw [Ms_congr e0 e1 e2 e5, col_congr e0]
    refine ⟨?_, fun j hj hb => ?_⟩
    · rw [d_at σ hx, if_neg (by omega), if_neg (by omega)]
      exact h.1
    · rw [d_at σ hx]
      split
      · rw [Int32.or_assoc, Int32.or_comm (nI (Ms σ x - 2 ^ j)), ← Int32.or_assoc, h.2 j hj hb]
      · rw [if_neg (by omega)]
        exact h.2 j hj hb
theorem Dr.congr {σ σ' : Nat → Nat → Int32} {x : Nat} (h : Dr σ x) (h0 : σ' 0 = σ 0) (h1 : σ' 1 = σ 1) (h2 : σ' 2 = σ 2) (h3 : σ' 3 = σ 3) (h4 : σ' 4 = σ 4) (h5 : σ' 5 0 = σ 5 0) : Dr σ' x := by
  unfold Dr
  rw [Ms_congr h0 h1 h2 h5, col_congr h0, h3, h4]
  exact h
