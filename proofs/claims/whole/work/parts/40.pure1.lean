/-! pure: numbers -/
def sByte (v : Int32) : Prop := ∃ n : Nat, n < 256 ∧ v = nI n
def sBit (v k : Int32) : Int32 := if ((v >>> (k &&& 31)) &&& (1 : Int32)) = (1 : Int32) then (1 : Int32) else (0 : Int32)
theorem sp_bit : ∀ n, n < 256 → ∀ k, k < 8 → (if (nI n &&& nI (2 ^ k)) = 0 then (0 : Int32) else 1) = sBit (nI n) (nI k) := by decide +kernel
theorem sp_fm : ∀ d, d < 400 → f_J_floorMod (nI d - 160) 160 = nI (d % 160) := by decide +kernel
def bc (cp b : Nat) : Nat := if cp = 5 ∨ cp = 7 then b else if ([1, 3, 5, 7, 17, 1, 21, 1].getD cp 0).testBit (b / 16) then b % 16 else 160
theorem sp_bc : ∀ cp, cp < 8 → ∀ b, b < 160 → f_B_behindCopy (nI cp) (nI b) = nI (bc cp b) := by decide +kernel
def far (k : Nat) : Nat := if k = 3 then 64 else 16 * k
def hc (cp k : Nat) : Bool := match k with
  | 0 => true
  | 1 => cp == 1 || cp == 3
  | 2 => cp == 2 || cp == 3 || cp == 6
  | _ => cp == 4 || cp == 6
def wd (cp : Nat) : Nat := if cp = 5 then 2 else if cp = 7 then 4 else 1
def hcG (c f : Int32) : Int32 := (if f = (0 : Int32) then (1 : Int32) else (if f = (16 : Int32) then (if c = (1 : Int32) then (1 : Int32) else (if c = (3 : Int32) then (1 : Int32) else (0 : Int32))) else (if f = (32 : Int32) then (if c = (2 : Int32) then (1 : Int32) else (if c = (3 : Int32) then (1 : Int32) else (if c = (6 : Int32) then (1 : Int32) else (0 : Int32)))) else (if c = (4 : Int32) then (1 : Int32) else (if c = (6 : Int32) then (1 : Int32) else (0 : Int32))))))
theorem sp_hcG : ∀ cp, cp < 8 → ∀ k, k < 4 → hcG (nI cp) (nI (far k)) = if hc cp k then 1 else 0 := by decide +kernel
def wdG (c : Int32) : Int32 := (if c = (5 : Int32) then (2 : Int32) else (if c = (7 : Int32) then (4 : Int32) else (1 : Int32)))
theorem sp_wdG : ∀ cp, cp < 8 → wdG (nI cp) = nI (wd cp) := by decide +kernel
theorem sp_t1 : ∀ cp, cp < 8 → tab1 cp = if cp = 5 then 1 else if cp = 7 then 2 else 0 := by decide +kernel
def fl (cp b : Nat) : Nat := bc cp b / wd cp
theorem sp_fl : ∀ cp, cp < 8 → ∀ q, q < 161 → nI q >>> (tab1 cp &&& 31) = nI (q / wd cp) := by decide +kernel
def atk (cp b k : Nat) : Nat := (b + 160 - far k) % 160 / wd cp
def act (cp b k : Nat) : Bool := hc cp k && decide (atk cp b k < 8)
theorem sp_act : ∀ cp, cp < 8 → ∀ b, b < 160 → ∀ k, k < 4 → act cp b k = true → atk cp b k = fl cp b := by decide +kernel
theorem sp_act2 : ∀ cp, cp < 8 → ∀ b, b < 160 → (fl cp b ≤ 7 ↔ (act cp b 0 || act cp b 1 || act cp b 2 || act cp b 3) = true) := by decide +kernel
theorem sp_mis : ∀ cp, cp < 8 → ∀ b, b < 160 → ∀ w, w < 4 → (bc cp b < 2 ^ w ↔ ((hc cp 0 && decide ((b + 160 - far 0) % 160 < 2 ^ w)) || (hc cp 1 && decide ((b + 160 - far 1) % 160 < 2 ^ w)) || (hc cp 2 && decide ((b + 160 - far 2) % 160 < 2 ^ w)) || (hc cp 3 && decide ((b + 160 - far 3) % 160 < 2 ^ w))) = true) := by decide +kernel
theorem bc_lt : ∀ cp, cp < 8 → ∀ b, b < 160 → bc cp b < 161 := by decide +kernel
theorem sp_wid : ∀ n, n < 256 → f_M_size (nI n) = nI (2 ^ (n / 16 % 4)) := by decide +kernel
theorem sp_and7 : ∀ n, n < 256 → nI n &&& 7 = nI (n % 8) := by decide +kernel
theorem sp_and2 : ∀ n, n < 256 → ((nI n &&& 2) = 0 ↔ sBit (nI n) 1 = 0) := by decide +kernel
theorem sp_sub3 (a q c : Int32) : a - q + c = a + c - q := by
  rw [Int32.sub_eq_add_neg, Int32.sub_eq_add_neg, Int32.add_assoc, Int32.add_comm (-q), ← Int32.add_assoc]
theorem sp_behind {x q : Nat} (_ : x < 160) (hq : q < 320) : f_M_behind (nI x) (nI q) = nI ((x + 320 - q) % 160) := by
  have e : nI x - nI q + (320 : Int32) = nI (x + 320 - q) := by
    rw [sp_sub3]
    show nI x + nI 320 - nI q = _
    rw [nI_add, pk_sub (by omega)]
  rw [f_M_behind, e]
  exact pk_rem (d := 160) (by omega) (by decide) (by decide)
theorem sp_fmP {x q : Nat} (_ : x < 160) (hq : q < 160) : f_J_floorMod (nI x - nI q) 160 = nI ((x + 160 - q) % 160) := by
  have e : nI x - nI q = nI (x + 160 - q) - 160 := by
    rw [← pk_sub (a := x + 160) (b := q) (by omega), ← nI_add]
    show _ = nI x + 160 - nI q - 160
    rw [Int32.sub_eq_add_neg (nI x + 160 - nI q), ← sp_sub3, Int32.add_assoc]
    show _ = nI x - nI q + 0
    rw [Int32.add_zero]
  rw [e]
  exact sp_fm _ (by omega)
def RS (σ μ : Nat → Nat → Int32) : Prop := (∀ j, j < 28 → μ 0 j = σ 0 j) ∧ (∀ j, j < 28 → sByte (σ 0 j)) ∧ (μ 2 0 = σ 0 9) ∧ (μ 2 1 = σ 0 10) ∧ (∀ j, j < 2 → μ 3 j = σ 1 j) ∧ (∀ j, j < 2 → sByte (σ 1 j)) ∧ (∀ j, j < 5 → μ 1 j = σ 2 j) ∧ (∀ j, j < 5 → ∃ n : Nat, n < 160 ∧ σ 2 j = nI n) ∧ (μ 7 1 = sBit (σ 0 13) 1) ∧ (μ 7 2 = sBit (σ 5 0) 1) ∧ (sByte (σ 5 0))
theorem RS.reg {σ μ : Nat → Nat → Int32} (h : RS σ μ) : ∀ j, j < 28 → μ 0 j = σ 0 j := h.1
theorem RS.byt {σ μ : Nat → Nat → Int32} (h : RS σ μ) : ∀ j, j < 28 → sByte (σ 0 j) := h.2.1
theorem RS.sh0 {σ μ : Nat → Nat → Int32} (h : RS σ μ) : μ 2 0 = σ 0 9 := h.2.2.1
theorem RS.sh1 {σ μ : Nat → Nat → Int32} (h : RS σ μ) : μ 2 1 = σ 0 10 := h.2.2.2.1
theorem RS.old {σ μ : Nat → Nat → Int32} (h : RS σ μ) : ∀ j, j < 2 → μ 3 j = σ 1 j := h.2.2.2.2.1
theorem RS.oldb {σ μ : Nat → Nat → Int32} (h : RS σ μ) : ∀ j, j < 2 → sByte (σ 1 j) := h.2.2.2.2.2.1
theorem RS.pl {σ μ : Nat → Nat → Int32} (h : RS σ μ) : ∀ j, j < 5 → μ 1 j = σ 2 j := h.2.2.2.2.2.2.1
theorem RS.plb {σ μ : Nat → Nat → Int32} (h : RS σ μ) : ∀ j, j < 5 → ∃ n : Nat, n < 160 ∧ σ 2 j = nI n := h.2.2.2.2.2.2.2.1
theorem RS.ba {σ μ : Nat → Nat → Int32} (h : RS σ μ) : μ 7 1 = sBit (σ 0 13) 1 := h.2.2.2.2.2.2.2.2.1
theorem RS.ob {σ μ : Nat → Nat → Int32} (h : RS σ μ) : μ 7 2 = sBit (σ 5 0) 1 := h.2.2.2.2.2.2.2.2.2.1
theorem RS.obb {σ μ : Nat → Nat → Int32} (h : RS σ μ) : sByte (σ 5 0) := h.2.2.2.2.2.2.2.2.2.2
section S1
variable {σ μ : Nat → Nat → Int32}
theorem sb (h : RS σ μ) {r : Int32} (j k : Nat) {K kk : Int32} (hr : r.toNatClampNeg = j) (hj : j < 28) (hk : k < 8) (hK : K = nI (2 ^ k)) (hkk : kk = nI k) : f_B_hasBit σ r K = f_M_bit μ r kk := by
  obtain ⟨n, hn, e⟩ := h.byt j hj
  rw [f_B_hasBit, f_M_bit, hr, h.reg j hj, e, hK, hkk]
  exact sp_bit n hn k hk
theorem s_bp (h : RS σ μ) {o : Int32} (j : Nat) {x : Nat} (ho : o.toNatClampNeg = j) (hj : j < 5) (hx : x < 160) : ∃ b : Nat, b < 160 ∧ f_B_behindPlace σ o (nI x) = nI b ∧ f_M_behind (nI x) (μ 1 j) = nI b ∧ ∀ f, f < 160 → f_M_behind (nI x) (μ 1 j + nI f) = nI ((b + 160 - f) % 160) := by
  obtain ⟨p, hp, e⟩ := h.plb j hj
  refine ⟨(x + 160 - p) % 160, Nat.mod_lt _ (by decide), ?_, ?_, ?_⟩
  · rw [f_B_behindPlace, ho, e]
    exact sp_fmP hx hp
  · rw [h.pl j hj, e, sp_behind hx (by omega)]
    congr 1
    omega
  · intro f hf
    rw [h.pl j hj, e, nI_add, sp_behind hx (by omega)]
    congr 1
    omega
theorem s_wid (h : RS σ μ) {r : Int32} (j : Nat) (hr : r.toNatClampNeg = j) (hj : j < 28) : ∃ w : Nat, w < 4 ∧ f_B_widthIn σ r = nI (2 ^ w) ∧ f_M_size (μ 0 j) = nI (2 ^ w) := by
  obtain ⟨n, hn, e⟩ := h.byt j hj
  refine ⟨n / 16 % 4, Nat.mod_lt _ (by decide), ?_, ?_⟩
  · rw [f_B_widthIn, hr, e]
    exact sp_wid n hn
  · rw [h.reg j hj, e]
    exact sp_wid n hn
theorem s_cp (h : RS σ μ) {side : Int32} (s : Nat) (hs : ((17 : Int32) + side).toNatClampNeg = 17 + s) (h2 : s < 2) : ∃ c : Nat, c < 8 ∧ f_B_copiesOf σ side = nI c ∧ f_M_copiesOf μ side = nI c := by
  obtain ⟨n, hn, e⟩ := h.byt (17 + s) (by omega)
  refine ⟨n % 8, Nat.mod_lt _ (by decide), ?_, ?_⟩
  · rw [f_B_copiesOf, hs, e]
    exact sp_and7 n hn
  · rw [f_M_copiesOf, hs, h.reg _ (by omega), e]
    exact sp_and7 n hn
theorem s_ball (h : RS σ μ) {x : Nat} (hx : x < 160) : f_B_isAt σ 4 (nI x) = f_M_isThere μ 4 (nI x) := by
  rw [f_B_isAt, if_pos (by decide), if_pos (by decide), if_neg (by decide), f_M_isThere, if_neg (by decide), if_neg (by decide), if_neg (by decide), if_neg (by decide), if_pos rfl]
  obtain ⟨b, hb, e1, e2, -⟩ := s_bp h (o := 4) 4 (by decide) (by decide) hx
  obtain ⟨w, hw, e3, e4⟩ := s_wid h (r := 8) 8 (by decide) (by decide)
  obtain ⟨n, hn, e5⟩ := h.byt 13 (by decide)
  obtain ⟨n2, hn2, e6⟩ := h.obb
  have c13 : (13 : Int32).toNatClampNeg = 13 := by decide
  have c8 : (8 : Int32).toNatClampNeg = 8 := by decide
  have c4 : (4 : Int32).toNatClampNeg = 4 := by decide
  rw [f_B_isBallAt, sb h (r := 14) 14 0 (K := 1) (kk := 0) (by decide) (by decide) (by decide) rfl rfl, e1, e3, c13, c8, c4, e2, e4, h.ba, h.ob, e5, e6]
  simp only [sp_and2 n hn, sp_and2 n2 hn2]
end S1
