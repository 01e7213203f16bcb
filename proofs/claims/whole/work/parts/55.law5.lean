/-! each call: the helper's contract, the reference's, and what ties them -/
abbrev rmH : Room := { frames := 7, cells := 1, slots := 6, locals := 170 }
section LX
theorem L_write (l : Launch) (hl0 : l.stackTraces = false) (D : va_G) (cA ad t : Nat → Nat) (hap : kap 8 ad) {σ μ : Nat → Nat → Int32} (h : Rel σ μ) (f : Nat → Int64) (r v : Int32) : ∃ (k : Int32) (σ' : Nat → Nat → Int32), Met l y_L_write w_L_write rmH (va_Pc [.ref (ad 0), .int r, .int v] (lPre D cA ad t σ f)) (kQi D (bo cA ad σ' f) (kA 8 ad) k) 1 6 (kA 8 ad) ∧ Rel σ' (f_M_write μ r v) ∧ f_M_thrown (f_M_write μ r v) = k := by
  by_cases h1 : r < 0
  · exact ⟨1, σ, h_write_a l hl0 D cA ad t hap σ f r v h1, s_writeN h v (Or.inl h1)⟩
  by_cases h2 : r < (36 : Int32)
  · by_cases h3 : v < 0
    · exact ⟨2, σ, h_write_c l hl0 D cA ad t hap σ f r v h1 h2 h3, s_writeI h h1 h2 (Or.inl h3)⟩
    · by_cases h4 : v ≤ (255 : Int32)
      · exact ⟨0, _, h_write_g l hl0 D cA ad t hap σ f r v h1 h2 h3 h4, s_writeG h h1 h2 h3 h4⟩
      · exact ⟨2, σ, h_write_d l hl0 D cA ad t hap σ f r v h1 h2 h3 h4, s_writeI h h1 h2 (Or.inr h4)⟩
  · exact ⟨1, σ, h_write_b l hl0 D cA ad t hap σ f r v h1 h2, s_writeN h v (Or.inr h2)⟩
theorem L_clocks (l : Launch) (hl0 : l.stackTraces = false) (D : va_G) (cA ad am t : Nat → Nat) (hap : kap 8 ad) (hapm : kap 8 am) {σ μ : Nat → Nat → Int32} (h : Rel σ μ) (f : Nat → Int64) (n : Int32) : ∃ (k : Int32) (σ' : Nat → Nat → Int32) (f' : Nat → Int64) (z : Int32) (μ' : Nat → Nat → Int32), Met l y_L_clocks w_L_clocks rmH (va_Pc [.ref (ad 0), .int n, .ref (ad 7)] (lPre D cA ad t σ f)) (kQi D (bo cA ad σ' f') (kA 8 ad) k) 1 6 (kA 8 ad) ∧ Met l y_M_clocks w_M_clocks ({ frames := 6, cells := 0, slots := 0, locals := 135 } : Room) (va_Pc [.ref (am 0), .int n] (mPre D cA am μ)) (kQi D (mw cA am μ') (kA 8 am) z) 0 0 (kA 8 am) ∧ Rel σ' μ' ∧ f_M_thrown μ' = k ∧ (k = 0 → f' 0 = z.toInt64) := by
  by_cases h1 : n < 0
  · obtain ⟨a, b⟩ := s_clocksN h n
    exact ⟨1, σ, f, _, _, h_clocks_a l hl0 D cA ad t hap σ f n h1, c_M_clocksN l D cA am hapm μ n h1, a, b, fun q => absurd q (by decide)⟩
  · obtain ⟨N, hN, rfl⟩ := nI_of h1
    by_cases h2 : nI N ≤ (2000 : Int32)
    · obtain ⟨a, b, c⟩ := s_clocksG h hN h2
      exact ⟨0, _, _, _, _, h_clocks_g l hl0 D cA ad t hap σ f N hN h.bclk h1 h2, c_M_clocks l D cA am hapm μ N hN h.mclk, a, c, fun _ => by rw [← b]; exact pk_uLs⟩
    · obtain ⟨a, b⟩ := s_clocksB h h2
      exact ⟨1, σ, f, _, _, h_clocks_b l hl0 D cA ad t hap σ f (nI N) h1 h2, c_M_clocks l D cA am hapm μ N hN h.mclk, a, b, fun q => absurd q (by decide)⟩
theorem L_pixel (l : Launch) (hl0 : l.stackTraces = false) (D : va_G) (cA ad am t : Nat → Nat) (hap : kap 8 ad) (hapm : kap 8 am) {σ μ : Nat → Nat → Int32} (h : Rel σ μ) (f : Nat → Int64) (x : Int32) : ∃ (k : Int32) (σ' : Nat → Nat → Int32) (f' : Nat → Int64) (z : Int32) (μ' : Nat → Nat → Int32), Met l y_L_pixel w_L_pixel rmH (va_Pc [.ref (ad 0), .int x, .ref (ad 7)] (lPre D cA ad t σ f)) (kQi D (bo cA ad σ' f') (kA 8 ad) k) 1 6 (kA 8 ad) ∧ Met l y_M_pixel w_M_pixel ({ frames := 1, cells := 0, slots := 0, locals := 22 } : Room) (va_Pc [.ref (am 0), .int x] (mPre D cA am μ)) (kQi D (mw cA am μ') (kA 8 am) z) 0 0 (kA 8 am) ∧ Rel σ' μ' ∧ f_M_thrown μ' = k ∧ (k = 0 → f' 0 = z.toInt64) := by
  by_cases h1 : f_B_isPixel x = 0
  · obtain ⟨a, b⟩ := s_pixelB h h1
    exact ⟨1, σ, f, _, _, h_pixel_a l hl0 D cA ad t hap σ f x h1, c_M_pixel l D cA am hapm μ x, a, b, fun q => absurd q (by decide)⟩
  · obtain ⟨a, b, c⟩ := s_pixelG h h1
    have hin : vp_in x 160 := by
      obtain ⟨j, hj, rfl⟩ := isPix_of h1
      exact vp_in_nI hj (by decide)
    exact ⟨0, σ, _, _, _, h_pixel_g l hl0 D cA ad t hap σ f x hin h1, c_M_pixel l D cA am hapm μ x, a, c, fun _ => by rw [← b]; exact pk_uLs⟩
theorem L_met (l : Launch) (hl0 : l.stackTraces = false) (D : va_G) (cA ad am t : Nat → Nat) (hap : kap 8 ad) (hapm : kap 8 am) {σ μ : Nat → Nat → Int32} (h : Rel σ μ) (f : Nat → Int64) (a o : Int32) : ∃ (k : Int32) (σ' : Nat → Nat → Int32) (f' : Nat → Int64) (z : Int32) (μ' : Nat → Nat → Int32), Met l y_L_met w_L_met rmH (va_Pc [.ref (ad 0), .int a, .int o, .ref (ad 7)] (lPre D cA ad t σ f)) (kQi D (bo cA ad σ' f') (kA 8 ad) k) 1 6 (kA 8 ad) ∧ Met l y_M_met w_M_met ({ frames := 1, cells := 0, slots := 0, locals := 22 } : Room) (va_Pc [.ref (am 0), .int a, .int o] (mPre D cA am μ)) (kQi D (mw cA am μ') (kA 8 am) z) 0 0 (kA 8 am) ∧ Rel σ' μ' ∧ f_M_thrown μ' = k ∧ (k = 0 → f' 0 = z.toInt64 ∧ (z = 0 ∨ z = 1)) := by
  by_cases h1 : f_B_isObject a = 0
  · obtain ⟨q1, q2⟩ := s_metB h (a := a) (o := o) (Or.inl h1)
    exact ⟨1, σ, f, _, _, h_met_a l hl0 D cA ad t hap σ f a o h1, c_M_met l D cA am hapm μ a o, q1, q2, fun q => absurd q (by decide)⟩
  by_cases h2 : f_B_isObject o = 0
  · obtain ⟨q1, q2⟩ := s_metB h (a := a) (o := o) (Or.inr (Or.inl h2))
    exact ⟨1, σ, f, _, _, h_met_b l hl0 D cA ad t hap σ f a o h1 h2, c_M_met l D cA am hapm μ a o, q1, q2, fun q => absurd q (by decide)⟩
  by_cases h3 : a = o
  · obtain ⟨q1, q2⟩ := s_metB h (a := a) (o := o) (Or.inr (Or.inr h3))
    exact ⟨1, σ, f, _, _, h_met_c l hl0 D cA ad t hap σ f a o h1 h2 h3, c_M_met l D cA am hapm μ a o, q1, q2, fun q => absurd q (by decide)⟩
  · obtain ⟨q1, q2, q3⟩ := s_metG h h1 h2 h3
    have hin : vp_in a 6 := by
      obtain ⟨j, hj, rfl⟩ := isObj_of h1
      exact vp_in_nI hj (by decide)
    exact ⟨0, σ, _, _, _, h_met_g l hl0 D cA ad t hap σ f a o hin h1 h2 h3, c_M_met l D cA am hapm μ a o, q1, q3, fun _ => ⟨by rw [← q2]; exact pk_uLs, by rw [← q2]; exact z_B_met ..⟩⟩
theorem L_place (l : Launch) (hl0 : l.stackTraces = false) (D : va_G) (cA ad am t : Nat → Nat) (hap : kap 8 ad) (hapm : kap 8 am) {σ μ : Nat → Nat → Int32} (h : Rel σ μ) (f : Nat → Int64) (o : Int32) : ∃ (k : Int32) (σ' : Nat → Nat → Int32) (f' : Nat → Int64) (z : Int32) (μ' : Nat → Nat → Int32), Met l y_L_place w_L_place rmH (va_Pc [.ref (ad 0), .int o, .ref (ad 7)] (lPre D cA ad t σ f)) (kQi D (bo cA ad σ' f') (kA 8 ad) k) 1 6 (kA 8 ad) ∧ Met l y_M_place w_M_place ({ frames := 1, cells := 0, slots := 0, locals := 22 } : Room) (va_Pc [.ref (am 0), .int o] (mPre D cA am μ)) (kQi D (mw cA am μ') (kA 8 am) z) 0 0 (kA 8 am) ∧ Rel σ' μ' ∧ f_M_thrown μ' = k ∧ (k = 0 → f' 0 = z.toInt64) := by
  by_cases h1 : o < 0
  · obtain ⟨a, b⟩ := s_placeB h (Or.inl h1)
    exact ⟨1, σ, f, _, _, h_place_a l hl0 D cA ad t hap σ f o h1, c_M_place l D cA am hapm μ o, a, b, fun q => absurd q (by decide)⟩
  by_cases h2 : o < (5 : Int32)
  · obtain ⟨a, b, c⟩ := s_placeG h h1 h2
    exact ⟨0, σ, _, _, _, h_place_g l hl0 D cA ad t hap σ f o (kRin (n := 5) (by decide) h1 h2) h1 h2, c_M_place l D cA am hapm μ o, a, c, fun _ => by rw [← b]; exact pk_uLs⟩
  · obtain ⟨a, b⟩ := s_placeB h (Or.inr h2)
    exact ⟨1, σ, f, _, _, h_place_b l hl0 D cA ad t hap σ f o h1 h2, c_M_place l D cA am hapm μ o, a, b, fun q => absurd q (by decide)⟩
theorem L_there (l : Launch) (hl0 : l.stackTraces = false) (D : va_G) (cA ad am t : Nat → Nat) (hap : kap 8 ad) (hapm : kap 8 am) {σ μ : Nat → Nat → Int32} (h : Rel σ μ) (f : Nat → Int64) (o x : Int32) : ∃ (k : Int32) (σ' : Nat → Nat → Int32) (f' : Nat → Int64) (z : Int32) (μ' : Nat → Nat → Int32), Met l y_L_there w_L_there rmH (va_Pc [.ref (ad 0), .int o, .int x, .ref (ad 7)] (lPre D cA ad t σ f)) (kQi D (bo cA ad σ' f') (kA 8 ad) k) 1 6 (kA 8 ad) ∧ Met l y_M_there w_M_there ({ frames := 4, cells := 0, slots := 0, locals := 93 } : Room) (va_Pc [.ref (am 0), .int o, .int x] (mPre D cA am μ)) (kQi D (mw cA am μ') (kA 8 am) z) 0 0 (kA 8 am) ∧ Rel σ' μ' ∧ f_M_thrown μ' = k ∧ (k = 0 → f' 0 = z.toInt64 ∧ (z = 0 ∨ z = 1)) := by
  by_cases h1 : f_B_isObject o = 0
  · obtain ⟨q1, q2⟩ := s_thereB h (o := o) (x := x) (Or.inl h1)
    exact ⟨1, σ, f, _, _, h_there_a l hl0 D cA ad t hap σ f o x h1, c_M_there l D cA am hapm μ o x, q1, q2, fun q => absurd q (by decide)⟩
  by_cases h2 : f_B_isPixel x = 0
  · obtain ⟨q1, q2⟩ := s_thereB h (o := o) (x := x) (Or.inr h2)
    exact ⟨1, σ, f, _, _, h_there_b l hl0 D cA ad t hap σ f o x h1 h2, c_M_there l D cA am hapm μ o x, q1, q2, fun q => absurd q (by decide)⟩
  · obtain ⟨q1, q2, q3⟩ := s_thereG h h1 h2
    have hin : vp_in o 6 := by
      obtain ⟨j, hj, rfl⟩ := isObj_of h1
      exact vp_in_nI hj (by decide)
    exact ⟨0, σ, _, _, _, h_there_g l hl0 D cA ad t hap σ f o x hin h1 h2, c_M_there l D cA am hapm μ o x, q1, q3, fun _ => ⟨by rw [← q2]; exact pk_uLs, by rw [← q2]; exact z_B_there ..⟩⟩
theorem L_set (l : Launch) (hl0 : l.stackTraces = false) (D : va_G) (cA ad am t : Nat → Nat) (hap : kap 8 ad) (hapm : kap 8 am) {σ μ : Nat → Nat → Int32} (h : Rel σ μ) (f : Nat → Int64) (q v : Int32) : ∃ (k : Int32) (σ' : Nat → Nat → Int32) (f' : Nat → Int64) (z : Int32) (μ' : Nat → Nat → Int32), Met l y_L_set w_L_set rmH (va_Pc [.ref (ad 0), .int q, .int v, .ref (ad 7)] (lPre D cA ad t σ f)) (kQi D (bo cA ad σ' f') (kA 8 ad) k) 1 6 (kA 8 ad) ∧ Met l y_M_set w_M_set ({ frames := 1, cells := 0, slots := 0, locals := 22 } : Room) (va_Pc [.ref (am 0), .int q, .int v] (mPre D cA am μ)) (kQi D (mw cA am μ') (kA 8 am) z) 0 0 (kA 8 am) ∧ Rel σ' μ' ∧ f_M_thrown μ' = k ∧ (k = 0 → f' 0 = z.toInt64) := by
  by_cases h1 : q < 0
  · obtain ⟨a, b⟩ := s_setN h v (Or.inl h1)
    exact ⟨1, σ, f, _, _, h_set_a l hl0 D cA ad t hap σ f q v h1, c_M_set l D cA am hapm μ q v, a, b, fun z => absurd z (by decide)⟩
  by_cases h2 : q < (4 : Int32)
  · by_cases h3 : v < 0
    · obtain ⟨a, b⟩ := s_setI h h1 h2 (Or.inl h3)
      exact ⟨2, σ, f, _, _, h_set_c l hl0 D cA ad t hap σ f q v h1 h2 h3, c_M_set l D cA am hapm μ q v, a, b, fun z => absurd z (by decide)⟩
    · by_cases h4 : v ≤ (255 : Int32)
      · obtain ⟨a, b, c⟩ := s_setG h h1 h2 h3 h4
        exact ⟨0, _, _, _, _, h_set_g l hl0 D cA ad t hap σ f q v (kRin (n := 4) (by decide) h1 h2) h1 h2 h3 h4, c_M_set l D cA am hapm μ q v, a, c, fun _ => by rw [← b]; exact pk_uLs⟩
      · obtain ⟨a, b⟩ := s_setI h h1 h2 (Or.inr h4)
        exact ⟨2, σ, f, _, _, h_set_d l hl0 D cA ad t hap σ f q v h1 h2 h3 h4, c_M_set l D cA am hapm μ q v, a, b, fun z => absurd z (by decide)⟩
  · obtain ⟨a, b⟩ := s_setN h v (Or.inr h2)
    exact ⟨1, σ, f, _, _, h_set_b l hl0 D cA ad t hap σ f q v h1 h2, c_M_set l D cA am hapm μ q v, a, b, fun z => absurd z (by decide)⟩
theorem L_count (l : Launch) (hl0 : l.stackTraces = false) (D : va_G) (cA ad am t : Nat → Nat) (hap : kap 8 ad) (hapm : kap 8 am) {σ μ : Nat → Nat → Int32} (h : Rel σ μ) (f : Nat → Int64) (w : Int32) : ∃ (k : Int32) (σ' : Nat → Nat → Int32) (f' : Nat → Int64) (z : Int32) (μ' : Nat → Nat → Int32), Met l y_L_count w_L_count rmH (va_Pc [.ref (ad 0), .int w, .ref (ad 7)] (lPre D cA ad t σ f)) (kQi D (bo cA ad σ' f') (kA 8 ad) k) 1 6 (kA 8 ad) ∧ Met l y_M_count w_M_count ({ frames := 1, cells := 0, slots := 0, locals := 22 } : Room) (va_Pc [.ref (am 0), .int w] (mPre D cA am μ)) (kQi D (mw cA am μ') (kA 8 am) z) 0 0 (kA 8 am) ∧ Rel σ' μ' ∧ f_M_thrown μ' = k ∧ (k = 0 → f' 0 = z.toInt64) := by
  by_cases hin : vp_in w 6
  · obtain ⟨a, b, c⟩ := s_countG h hin
    exact ⟨0, σ, _, _, _, h_count_g l hl0 D cA ad t hap σ f w hin, c_M_count l D cA am hapm μ w, a, c, fun _ => by rw [← b]; exact pk_uLs⟩
  · have n0 : ¬ w = (0 : Int32) := fun e => hin (by rw [e]; exact vp_in_nI (n := 0) (N := 6) (by decide) (by decide))
    have n1 : ¬ w = (1 : Int32) := fun e => hin (by rw [e]; exact vp_in_nI (n := 1) (N := 6) (by decide) (by decide))
    have n2 : ¬ w = (2 : Int32) := fun e => hin (by rw [e]; exact vp_in_nI (n := 2) (N := 6) (by decide) (by decide))
    have n3 : ¬ w = (3 : Int32) := fun e => hin (by rw [e]; exact vp_in_nI (n := 3) (N := 6) (by decide) (by decide))
    have n4 : ¬ w = (4 : Int32) := fun e => hin (by rw [e]; exact vp_in_nI (n := 4) (N := 6) (by decide) (by decide))
    have n5 : ¬ w = (5 : Int32) := fun e => hin (by rw [e]; exact vp_in_nI (n := 5) (N := 6) (by decide) (by decide))
    obtain ⟨a, b⟩ := s_countB h n0 n1 n2 n3 n4 n5
    exact ⟨1, σ, f, _, _, h_count_a l hl0 D cA ad t hap σ f w n0 n1 n2 n3 n4 n5, c_M_count l D cA am hapm μ w, a, b, fun q => absurd q (by decide)⟩
end LX
