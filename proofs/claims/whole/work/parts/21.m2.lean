def f_M_special_lp63 (σ : Nat → Nat → Int32) (r : Int32) : Nat → Int32 → (Nat → Nat → Int32) → (Nat → Nat → Int32)
  | 0, i, σ1 => σ1
  | n + 1, i, σ1 => (f_M_special_lp63 σ r n (i + 1) (kup σ1 4 (i).toNatClampNeg (vp_nar .boolean (0 : Int32))))
theorem f_M_special_lp63_z (σ : Nat → Nat → Int32) (r : Int32) (i : Int32) (σ1 : Nat → Nat → Int32) : f_M_special_lp63 σ r 0 i σ1 = σ1 := rfl
theorem f_M_special_lp63_s (σ : Nat → Nat → Int32) (r : Int32) (n : Nat) (i : Int32) (σ1 : Nat → Nat → Int32) : f_M_special_lp63 σ r (n + 1) i σ1 = (f_M_special_lp63 σ r n (i + 1) (kup σ1 4 (i).toNatClampNeg (vp_nar .boolean (0 : Int32)))) := rfl

def f_M_special_lp39 (σ : Nat → Nat → Int32) (r : Int32) : Nat → Int32 → (Nat → Nat → Int32) → (Nat → Nat → Int32)
  | 0, i, σ1 => σ1
  | n + 1, i, σ1 => (f_M_special_lp39 σ r n (i + 1) (kup σ1 0 (i).toNatClampNeg (0 : Int32)))
theorem f_M_special_lp39_z (σ : Nat → Nat → Int32) (r : Int32) (i : Int32) (σ1 : Nat → Nat → Int32) : f_M_special_lp39 σ r 0 i σ1 = σ1 := rfl
theorem f_M_special_lp39_s (σ : Nat → Nat → Int32) (r : Int32) (n : Nat) (i : Int32) (σ1 : Nat → Nat → Int32) : f_M_special_lp39 σ r (n + 1) i σ1 = (f_M_special_lp39 σ r n (i + 1) (kup σ1 0 (i).toNatClampNeg (0 : Int32))) := rfl

def f_M_special (σ : Nat → Nat → Int32) (r : Int32) : (Nat → Nat → Int32) := (if (33 : Int32) ≤ r then (if r = (33 : Int32) then (f_M_move σ) else (if r = (34 : Int32) then (f_M_special_lp39 σ r 5 (23 : Int32) σ) else (f_M_special_lp63 σ r 36 (0 : Int32) σ))) else (f_M_reset σ (r - (28 : Int32))))

set_option maxRecDepth 100000 in
set_option maxHeartbeats 4000000 in
theorem c_M_special (l : Launch) (D : va_G) (cA ad : Nat → Nat) (hap : kap 8 ad) (σ : Nat → Nat → Int32) (r : Int32) (h1 : vp_in r 36) (h2 : (28 : Int32) ≤ r) : Met l y_M_special w_M_special ({ frames := 1, cells := 0, slots := 0, locals := 22 } : Room) (va_Pc [.ref (ad 0), .int r] (mPre D cA ad σ)) (kQv D (mw cA ad (f_M_special σ r)) (kA 8 ad)) 0 0 (kA 8 ad) := by
  refine Met.ofW (cc := b_M_special) (maxL := 3) (ret := none) (by decide) rfl ?_
  intro p e s m args below meth c s₁ B hml hv
  obtain ⟨rfl, hv⟩ := hv
  obtain ⟨hP, hK⟩ := hv
  have hx := B.exec
  have hb := B.bytes
  have hr := B.returns
  have hlocks := B.notSynchronized
  have hT : ∀ w ∈ TB, w.before ([.ref (ad 0), .int r] : List Value).toArray s = true := fun w h => atoms_spec (ws := w_M_special) B.pre w (List.mem_cons_of_mem _ h)
  have hown : s.vm.findClass R_M = some m.cls := findClass_of_methodNamed B.named
  have hS : va_S (kA 8 ad) s.heap s.heap [] := va_S.rf
  have hD : ∀ σ, va_D (kA 8 ad) (mw cA ad σ) := fun σ => kD hap rfl
  have hl := lv_entry ([.ref (ad 0), .int r]) (n := 3) (Nat.le_of_ble_eq_true rfl)
  rw [lg_entry_eq]
  generalize (lg_sl ([.ref (ad 0), .int r]) ++ List.replicate (3 - (lg_sl ([.ref (ad 0), .int r])).length) Slot.unset).toArray = ls at hl ⊢
  have hl : lv_has ls 3 [(0, .ref (ad 0)), (1, .int r)] := hl
  have loop63 : ∀ (n i : Nat) (σ1 : Nat → Nat → Int32) (H : Heap) (locs : List Loc) (ls : Array Slot), i + n = 36 → lv_has ls 3 [(2, .int (nI i)), (0, .ref (ad 0)), (1, .int r)] → va_P D classes (mw cA ad σ1) H → va_S (kA 8 ad) s.heap H locs → f_M_special_lp63 σ r n (nI i) σ1 = f_M_special σ r → W p l e (headSpec w_M_special ({ frames := 1, cells := 0, slots := 0, locals := 22 } : Room)).room s m ([.ref (ad 0), .int r] : List Value).toArray below meth c H locs 0 0 (MQ below (kQv D (mw cA ad (f_M_special σ r)) (kA 8 ad)) ([.ref (ad 0), .int r] : List Value).toArray s 0 0 (kA 8 ad)) (F0 m 63 ls []) := by
    intro n
    induction n with
    | zero =>
      intro i σ1 H locs ls hi hl hP hS hg
      refine lv_iload_n hx hb d_M_special_63 rfl (lv_at hl 0 rfl) ?_
      refine lv_bipush (v := (36 : Int32)) hx hb d_M_special_64 (by decide) ?_
      refine lv_icmp_ge (tgt := 82) hx hb d_M_special_66 (by decide) (fun _ => ?_) (fun h9 => absurd (nI_le (a := 36) (b := i) (by omega) (by omega)) h9)
      have e9 : σ1 = f_M_special σ r := by rw [← hg, f_M_special_lp63_z]
      exact W.vret hx hb hr (fun t ht hW => ⟨rfl, by rw [ht, ← e9]; exact hP, hS.F ht⟩) hS.2.2 d_M_special_82
    | succ n ih =>
      intro i σ1 H locs ls hi hl hP hS hg
      refine lv_iload_n hx hb d_M_special_63 rfl (lv_at hl 0 rfl) ?_
      refine lv_bipush (v := (36 : Int32)) hx hb d_M_special_64 (by decide) ?_
      refine lv_icmp_ge (tgt := 82) hx hb d_M_special_66 (by decide) (fun h9 => absurd h9 (nI_ge (a := i) (b := 36) (by omega) (by decide))) (fun _ => ?_)
      refine lv_aload_n hx hb d_M_special_69 rfl (lv_at hl 1 rfl) ?_
      refine va_get (D := D) (ci := 2) (v := .ref (ad 5)) (C := R_M) (T := F_M) (N := 17) hx hb hT in_M hown hK hP 0 rfl rfl 7 (by decide) (hT _ fl_M_22) (fun _ h9 => h9) rfl d_M_special_70 ?_
      refine lv_iload_n hx hb d_M_special_73 rfl (lv_at hl 0 rfl) ?_
      refine lv_iconst (v := (0 : Int32)) hx hb d_M_special_74 (by decide) ?_
      refine va_zast (A := (kA 8 ad)) hx hb hK hP (hD _) hS 5 1 rfl rfl (by first | assumption | exact kin (by decide) | exact vp_in_nI (by omega) (by decide) | exact kin28m h1 h2 (by assumption)) d_M_special_75 (fun H locs hP _ hS => ?_)
      have hP := kst (mw_s5 cA ad σ1 ((nI i)).toNatClampNeg (vp_nar .boolean (0 : Int32))) hP
      refine lv_iinc (v := (nI (i + 1))) (lv' := [(2, .int (nI (i + 1))), (0, .ref (ad 0)), (1, .int r)]) hx hb d_M_special_76 hl (k := 0) rfl (by rw [nI_succ]; rfl) (by decide) rfl (fun ls hl => ?_)
      refine lv_goto (tgt := 63) hx hb d_M_special_79 (by decide) ?_
      exact ih (i + 1) (kup σ1 4 ((nI i)).toNatClampNeg (vp_nar .boolean (0 : Int32))) H locs ls (by omega) (lv_sub hl [0, 1, 2] rfl) hP hS (by rw [← hg, f_M_special_lp63_s, nI_succ])
  have loop39 : ∀ (n i : Nat) (σ1 : Nat → Nat → Int32) (H : Heap) (locs : List Loc) (ls : Array Slot), i + n = 28 → lv_has ls 3 [(2, .int (nI i)), (0, .ref (ad 0)), (1, .int r)] → va_P D classes (mw cA ad σ1) H → va_S (kA 8 ad) s.heap H locs → f_M_special_lp39 σ r n (nI i) σ1 = f_M_special σ r → W p l e (headSpec w_M_special ({ frames := 1, cells := 0, slots := 0, locals := 22 } : Room)).room s m ([.ref (ad 0), .int r] : List Value).toArray below meth c H locs 0 0 (MQ below (kQv D (mw cA ad (f_M_special σ r)) (kA 8 ad)) ([.ref (ad 0), .int r] : List Value).toArray s 0 0 (kA 8 ad)) (F0 m 39 ls []) := by
    intro n
    induction n with
    | zero =>
      intro i σ1 H locs ls hi hl hP hS hg
      refine lv_iload_n hx hb d_M_special_39 rfl (lv_at hl 0 rfl) ?_
      refine lv_bipush (v := (28 : Int32)) hx hb d_M_special_40 (by decide) ?_
      refine lv_icmp_ge (tgt := 58) hx hb d_M_special_42 (by decide) (fun _ => ?_) (fun h9 => absurd (nI_le (a := 28) (b := i) (by omega) (by omega)) h9)
      refine lv_goto (tgt := 82) hx hb d_M_special_58 (by decide) ?_
      have e9 : σ1 = f_M_special σ r := by rw [← hg, f_M_special_lp39_z]
      exact W.vret hx hb hr (fun t ht hW => ⟨rfl, by rw [ht, ← e9]; exact hP, hS.F ht⟩) hS.2.2 d_M_special_82
    | succ n ih =>
      intro i σ1 H locs ls hi hl hP hS hg
      refine lv_iload_n hx hb d_M_special_39 rfl (lv_at hl 0 rfl) ?_
      refine lv_bipush (v := (28 : Int32)) hx hb d_M_special_40 (by decide) ?_
      refine lv_icmp_ge (tgt := 58) hx hb d_M_special_42 (by decide) (fun h9 => absurd h9 (nI_ge (a := i) (b := 28) (by omega) (by decide))) (fun _ => ?_)
      refine lv_aload_n hx hb d_M_special_45 rfl (lv_at hl 1 rfl) ?_
      refine va_get (D := D) (ci := 2) (v := .ref (ad 1)) (C := R_M) (T := F_M) (N := 17) hx hb hT in_M hown hK hP 0 rfl rfl 1 (by decide) (hT _ fl_M_7) (fun _ h9 => h9) rfl d_M_special_46 ?_
      refine lv_iload_n hx hb d_M_special_49 rfl (lv_at hl 0 rfl) ?_
      refine lv_iconst (v := (0 : Int32)) hx hb d_M_special_50 (by decide) ?_
      refine va_iast (A := (kA 8 ad)) hx hb hK hP (hD _) hS 1 0 rfl rfl (by first | assumption | exact kin (by decide) | exact vp_in_nI (by omega) (by decide) | exact kin28m h1 h2 (by assumption)) d_M_special_51 (fun H locs hP _ hS => ?_)
      have hP := kst (mw_s1 cA ad σ1 ((nI i)).toNatClampNeg (0 : Int32)) hP
      refine lv_iinc (v := (nI (i + 1))) (lv' := [(2, .int (nI (i + 1))), (0, .ref (ad 0)), (1, .int r)]) hx hb d_M_special_52 hl (k := 0) rfl (by rw [nI_succ]; rfl) (by decide) rfl (fun ls hl => ?_)
      refine lv_goto (tgt := 39) hx hb d_M_special_55 (by decide) ?_
      exact ih (i + 1) (kup σ1 0 ((nI i)).toNatClampNeg (0 : Int32)) H locs ls (by omega) (lv_sub hl [0, 1, 2] rfl) hP hS (by rw [← hg, f_M_special_lp39_s, nI_succ])
  refine lv_iload_n hx hb d_M_special_0 rfl (lv_at hl 1 rfl) ?_
  refine lv_bipush (v := (33 : Int32)) hx hb d_M_special_1 (by decide) ?_
  refine lv_icmp_ge (tgt := 17) hx hb d_M_special_3 (by decide) (fun q1 => ?_) (fun q1 => ?_)
  · refine lv_iload_n hx hb d_M_special_17 rfl (lv_at hl 1 rfl) ?_
    refine lv_bipush (v := (33 : Int32)) hx hb d_M_special_18 (by decide) ?_
    refine lv_icmp_ne (tgt := 30) hx hb d_M_special_20 (by decide) (fun q2 => ?_) (fun q2 => ?_)
    · refine lv_iload_n hx hb d_M_special_30 rfl (lv_at hl 1 rfl) ?_
      refine lv_bipush (v := (34 : Int32)) hx hb d_M_special_31 (by decide) ?_
      refine lv_icmp_ne (tgt := 61) hx hb d_M_special_33 (by decide) (fun q3 => ?_) (fun q3 => ?_)
      · refine lv_iconst (v := (0 : Int32)) hx hb d_M_special_61 (by decide) ?_
        refine lv_istore_n (lv' := [(2, .int (0 : Int32)), (0, .ref (ad 0)), (1, .int r)]) hx hb d_M_special_62 rfl hl (by decide) rfl (fun ls hl => ?_)
        exact loop63 36 0 σ s.heap [] ls rfl (lv_sub hl [0, 1, 2] rfl) hP hS (by rw [f_M_special, if_pos q1, if_neg q2, if_neg q3]; rfl)
      · refine lv_bipush (v := (23 : Int32)) hx hb d_M_special_36 (by decide) ?_
        refine lv_istore_n (lv' := [(2, .int (23 : Int32)), (0, .ref (ad 0)), (1, .int r)]) hx hb d_M_special_38 rfl hl (by decide) rfl (fun ls hl => ?_)
        exact loop39 5 23 σ s.heap [] ls rfl (lv_sub hl [0, 1, 2] rfl) hP hS (by rw [f_M_special, if_pos q1, if_neg q2, if_pos q3]; rfl)
    · refine lv_aload_n hx hb d_M_special_23 rfl (lv_at hl 0 rfl) ?_
      refine kcv (va_runV (As := []) (rest := []) ⟨hx, hb, hml, hown, hT⟩ (c_M_move l D cA ad hap σ) (kCV 0 hT ml_M_57 mi_M_move ⟨Nat.le_of_ble_eq_true rfl, Nat.le_of_ble_eq_true rfl⟩) (mpreV hK hP) rfl rfl hl.1 rfl (lv_room (Nat.le_of_ble_eq_true rfl)) d_M_special_24 ⟨Nat.le_of_ble_eq_true rfl, Nat.le_of_ble_eq_true rfl⟩) hS (fun H locs hP hS => ?_)
      refine lv_goto (tgt := 82) hx hb d_M_special_27 (by decide) ?_
      have e9 : (f_M_move σ) = f_M_special σ r := by rw [f_M_special, if_pos q1, if_pos q2]
      exact W.vret hx hb hr (fun t ht hW => ⟨rfl, by rw [ht, ← e9]; exact hP, hS.F ht⟩) hS.2.2 d_M_special_82
  · refine lv_aload_n hx hb d_M_special_6 rfl (lv_at hl 0 rfl) ?_
    refine lv_iload_n hx hb d_M_special_7 rfl (lv_at hl 1 rfl) ?_
    refine lv_bipush (v := (28 : Int32)) hx hb d_M_special_8 (by decide) ?_
    refine lv_isub hx hb d_M_special_10 ?_
    refine kcv (va_runV (As := [.int (r - (28 : Int32))]) (rest := []) ⟨hx, hb, hml, hown, hT⟩ (c_M_reset l D cA ad hap σ (r - (28 : Int32)) (by first | assumption | exact kin (by decide) | exact vp_in_nI (by omega) (by decide) | exact kin28m h1 h2 (by assumption))) (kCV 1 hT ml_M_53 mi_M_reset ⟨Nat.le_of_ble_eq_true rfl, Nat.le_of_ble_eq_true rfl⟩) (mpreV hK hP) rfl rfl hl.1 rfl (lv_room (Nat.le_of_ble_eq_true rfl)) d_M_special_11 ⟨Nat.le_of_ble_eq_true rfl, Nat.le_of_ble_eq_true rfl⟩) hS (fun H locs hP hS => ?_)
    refine lv_goto (tgt := 82) hx hb d_M_special_14 (by decide) ?_
    have e9 : (f_M_reset σ (r - (28 : Int32))) = f_M_special σ r := by rw [f_M_special, if_neg q1]
    exact W.vret hx hb hr (fun t ht hW => ⟨rfl, by rw [ht, ← e9]; exact hP, hS.F ht⟩) hS.2.2 d_M_special_82

def f_M_behind (x : Int32) (q : Int32) : Int32 := (((x - q) + (320 : Int32)) - ((x - q) + (320 : Int32)) / (160 : Int32) * (160 : Int32))

set_option maxRecDepth 100000 in
set_option maxHeartbeats 4000000 in
theorem c_M_behind (l : Launch) (D : va_G) (cA ad : Nat → Nat) (hap : kap 8 ad) (σ : Nat → Nat → Int32) (x : Int32) (q : Int32) : Met l y_M_behind w_M_behind ({ frames := 0, cells := 0, slots := 0, locals := 0 } : Room) (va_Pc [.int x, .int q] (mPre D cA ad σ)) (vp_Si (fun v => v = f_M_behind x q)) 0 0 (fun _ => False) := by
  refine Met.ofW (cc := b_M_behind) (maxL := 2) (ret := (some .int)) (by decide) rfl ?_
  intro p e s m args below meth c s₁ B hml hv
  obtain ⟨rfl, hv⟩ := hv
  obtain ⟨hP, hK⟩ := hv
  have hx := B.exec
  have hb := B.bytes
  have hr := B.returns
  have hlocks := B.notSynchronized
  have hT : ∀ w ∈ TB, w.before ([.int x, .int q] : List Value).toArray s = true := fun w h => atoms_spec (ws := w_M_behind) B.pre w (List.mem_cons_of_mem _ h)
  have hown : s.vm.findClass R_M = some m.cls := findClass_of_methodNamed B.named
  have hS : va_S (kA 8 ad) s.heap s.heap [] := va_S.rf
  have hl := lv_entry ([.int x, .int q]) (n := 2) (Nat.le_of_ble_eq_true rfl)
  rw [lg_entry_eq]
  generalize (lg_sl ([.int x, .int q]) ++ List.replicate (2 - (lg_sl ([.int x, .int q])).length) Slot.unset).toArray = ls at hl ⊢
  have hl : lv_has ls 2 [(0, .int x), (1, .int q)] := hl
  refine lv_iload_n hx hb d_M_behind_0 rfl (lv_at hl 0 rfl) ?_
  refine lv_iload_n hx hb d_M_behind_1 rfl (lv_at hl 1 rfl) ?_
  refine lv_isub hx hb d_M_behind_2 ?_
  refine lv_sipush (v := (320 : Int32)) hx hb d_M_behind_3 (by decide) ?_
  refine lv_iadd hx hb d_M_behind_6 ?_
  refine lv_sipush (v := (160 : Int32)) hx hb d_M_behind_7 (by decide) ?_
  refine lv_irem hx hb d_M_behind_10 (by decide) ?_
  have e9 : (((x - q) + (320 : Int32)) - ((x - q) + (320 : Int32)) / (160 : Int32) * (160 : Int32)) = f_M_behind x q := by rw [f_M_behind]
  exact W.iret (v := (((x - q) + (320 : Int32)) - ((x - q) + (320 : Int32)) / (160 : Int32) * (160 : Int32))) hx hb hr (fun t ht hW => ⟨_, rfl, e9, ht⟩) (fun _ h => absurd h List.not_mem_nil) d_M_behind_11

def f_M_hasCopy (σ : Nat → Nat → Int32) (side : Int32) (far : Int32) : Int32 := (if far = (0 : Int32) then (1 : Int32) else (if far = (16 : Int32) then (if (f_M_copiesOf σ side) = (1 : Int32) then (1 : Int32) else (if (f_M_copiesOf σ side) = (3 : Int32) then (1 : Int32) else (0 : Int32))) else (if far = (32 : Int32) then (if (f_M_copiesOf σ side) = (2 : Int32) then (1 : Int32) else (if (f_M_copiesOf σ side) = (3 : Int32) then (1 : Int32) else (if (f_M_copiesOf σ side) = (6 : Int32) then (1 : Int32) else (0 : Int32)))) else (if (f_M_copiesOf σ side) = (4 : Int32) then (1 : Int32) else (if (f_M_copiesOf σ side) = (6 : Int32) then (1 : Int32) else (0 : Int32))))))

theorem z_M_hasCopy (σ : Nat → Nat → Int32) (side : Int32) (far : Int32) : f_M_hasCopy σ side far = 0 ∨ f_M_hasCopy σ side far = 1 := by
  rw [f_M_hasCopy]
  repeat' split
  all_goals first | with_reducible exact Or.inl rfl | with_reducible exact Or.inr rfl

set_option maxRecDepth 100000 in
set_option maxHeartbeats 4000000 in
theorem c_M_hasCopy (l : Launch) (D : va_G) (cA ad : Nat → Nat) (hap : kap 8 ad) (σ : Nat → Nat → Int32) (side : Int32) (far : Int32) (hs : side = 0 ∨ side = 1) : Met l y_M_hasCopy w_M_hasCopy ({ frames := 1, cells := 0, slots := 0, locals := 21 } : Room) (va_Pc [.ref (ad 0), .int side, .int far] (mPre D cA ad σ)) (vp_Si (fun v => v = f_M_hasCopy σ side far)) 0 0 (fun _ => False) := by
  refine Met.ofW (cc := b_M_hasCopy) (maxL := 4) (ret := (some .boolean)) (by decide) rfl ?_
  intro p e s m args below meth c s₁ B hml hv
  obtain ⟨rfl, hv⟩ := hv
  obtain ⟨hP, hK⟩ := hv
  have hx := B.exec
  have hb := B.bytes
  have hr := B.returns
  have hlocks := B.notSynchronized
  have hT : ∀ w ∈ TB, w.before ([.ref (ad 0), .int side, .int far] : List Value).toArray s = true := fun w h => atoms_spec (ws := w_M_hasCopy) B.pre w (List.mem_cons_of_mem _ h)
  have hown : s.vm.findClass R_M = some m.cls := findClass_of_methodNamed B.named
  have hS : va_S (kA 8 ad) s.heap s.heap [] := va_S.rf
  have hl := lv_entry ([.ref (ad 0), .int side, .int far]) (n := 4) (Nat.le_of_ble_eq_true rfl)
  rw [lg_entry_eq]
  generalize (lg_sl ([.ref (ad 0), .int side, .int far]) ++ List.replicate (4 - (lg_sl ([.ref (ad 0), .int side, .int far])).length) Slot.unset).toArray = ls at hl ⊢
  have hl : lv_has ls 4 [(0, .ref (ad 0)), (1, .int side), (2, .int far)] := hl
  refine lv_aload_n hx hb d_M_hasCopy_0 rfl (lv_at hl 0 rfl) ?_
  refine lv_iload_n hx hb d_M_hasCopy_1 rfl (lv_at hl 1 rfl) ?_
  refine vp_callSi (va_Run.run (va_runV (As := [.int side]) (rest := []) ⟨hx, hb, hml, hown, hT⟩ (c_M_copiesOf l D cA ad hap σ side (by first | assumption | exact kin (by decide))) (kCV 1 hT ml_M_39 mi_M_copiesOf ⟨Nat.le_of_ble_eq_true rfl, Nat.le_of_ble_eq_true rfl⟩) (mpreV hK hP) rfl rfl hl.1 rfl (lv_room (Nat.le_of_ble_eq_true rfl)) d_M_hasCopy_2 ⟨Nat.le_of_ble_eq_true rfl, Nat.le_of_ble_eq_true rfl⟩)) (fun r9 e9 => ?_)
  subst e9
  refine lv_istore_n (lv' := [(3, .int (f_M_copiesOf σ side)), (0, .ref (ad 0)), (1, .int side), (2, .int far)]) hx hb d_M_hasCopy_5 rfl hl (by decide) rfl (fun ls hl => ?_)
  refine lv_iload_n hx hb d_M_hasCopy_6 rfl (lv_at hl 3 rfl) ?_
  by_cases q1 : far = (0 : Int32)
  · refine lv_lookup (tgt := 40) (off := 33) hx hb d_M_hasCopy_7 (by decide) (by rw [q1]; decide) (by decide) ?_
    refine lv_iconst (v := (1 : Int32)) hx hb d_M_hasCopy_40 (by decide) ?_
    have e9 : (1 : Int32) = f_M_hasCopy σ side far := by rw [f_M_hasCopy, if_pos q1]
    exact W.zret (v := (1 : Int32)) hx hb hr (by decide) (fun t ht hW => ⟨_, rfl, e9, ht⟩) (fun _ h => absurd h List.not_mem_nil) d_M_hasCopy_41
  by_cases q2 : far = (16 : Int32)
  · refine lv_lookup (tgt := 42) (off := 35) hx hb d_M_hasCopy_7 (by decide) (by rw [q2]; decide) (by decide) ?_
    refine lv_iload_n hx hb d_M_hasCopy_42 rfl (lv_at hl 0 rfl) ?_
    refine lv_iconst (v := (1 : Int32)) hx hb d_M_hasCopy_43 (by decide) ?_
    refine lv_icmp_eq (tgt := 52) hx hb d_M_hasCopy_44 (by decide) (fun q3 => ?_) (fun q3 => ?_)
    · refine lv_iconst (v := (1 : Int32)) hx hb d_M_hasCopy_52 (by decide) ?_
      refine lv_goto (tgt := 57) hx hb d_M_hasCopy_53 (by decide) ?_
      have e9 : (1 : Int32) = f_M_hasCopy σ side far := by rw [f_M_hasCopy, if_neg q1, if_pos q2, if_pos q3]
      exact W.zret (v := (1 : Int32)) hx hb hr (by decide) (fun t ht hW => ⟨_, rfl, e9, ht⟩) (fun _ h => absurd h List.not_mem_nil) d_M_hasCopy_57
    · refine lv_iload_n hx hb d_M_hasCopy_47 rfl (lv_at hl 0 rfl) ?_
      refine lv_iconst (v := (3 : Int32)) hx hb d_M_hasCopy_48 (by decide) ?_
      refine lv_icmp_ne (tgt := 56) hx hb d_M_hasCopy_49 (by decide) (fun q4 => ?_) (fun q4 => ?_)
      · refine lv_iconst (v := (0 : Int32)) hx hb d_M_hasCopy_56 (by decide) ?_
        have e9 : (0 : Int32) = f_M_hasCopy σ side far := by rw [f_M_hasCopy, if_neg q1, if_pos q2, if_neg q3, if_neg q4]
        exact W.zret (v := (0 : Int32)) hx hb hr (by decide) (fun t ht hW => ⟨_, rfl, e9, ht⟩) (fun _ h => absurd h List.not_mem_nil) d_M_hasCopy_57
      · refine lv_iconst (v := (1 : Int32)) hx hb d_M_hasCopy_52 (by decide) ?_
        refine lv_goto (tgt := 57) hx hb d_M_hasCopy_53 (by decide) ?_
        have e9 : (1 : Int32) = f_M_hasCopy σ side far := by rw [f_M_hasCopy, if_neg q1, if_pos q2, if_neg q3, if_pos q4]
        exact W.zret (v := (1 : Int32)) hx hb hr (by decide) (fun t ht hW => ⟨_, rfl, e9, ht⟩) (fun _ h => absurd h List.not_mem_nil) d_M_hasCopy_57
  by_cases q5 : far = (32 : Int32)
  · refine lv_lookup (tgt := 58) (off := 51) hx hb d_M_hasCopy_7 (by decide) (by rw [q5]; decide) (by decide) ?_
    refine lv_iload_n hx hb d_M_hasCopy_58 rfl (lv_at hl 0 rfl) ?_
    refine lv_iconst (v := (2 : Int32)) hx hb d_M_hasCopy_59 (by decide) ?_
    refine lv_icmp_eq (tgt := 74) hx hb d_M_hasCopy_60 (by decide) (fun q6 => ?_) (fun q6 => ?_)
    · refine lv_iconst (v := (1 : Int32)) hx hb d_M_hasCopy_74 (by decide) ?_
      refine lv_goto (tgt := 79) hx hb d_M_hasCopy_75 (by decide) ?_
      have e9 : (1 : Int32) = f_M_hasCopy σ side far := by rw [f_M_hasCopy, if_neg q1, if_neg q2, if_pos q5, if_pos q6]
      exact W.zret (v := (1 : Int32)) hx hb hr (by decide) (fun t ht hW => ⟨_, rfl, e9, ht⟩) (fun _ h => absurd h List.not_mem_nil) d_M_hasCopy_79
    · refine lv_iload_n hx hb d_M_hasCopy_63 rfl (lv_at hl 0 rfl) ?_
      refine lv_iconst (v := (3 : Int32)) hx hb d_M_hasCopy_64 (by decide) ?_
      refine lv_icmp_eq (tgt := 74) hx hb d_M_hasCopy_65 (by decide) (fun q7 => ?_) (fun q7 => ?_)
      · refine lv_iconst (v := (1 : Int32)) hx hb d_M_hasCopy_74 (by decide) ?_
        refine lv_goto (tgt := 79) hx hb d_M_hasCopy_75 (by decide) ?_
        have e9 : (1 : Int32) = f_M_hasCopy σ side far := by rw [f_M_hasCopy, if_neg q1, if_neg q2, if_pos q5, if_neg q6, if_pos q7]
        exact W.zret (v := (1 : Int32)) hx hb hr (by decide) (fun t ht hW => ⟨_, rfl, e9, ht⟩) (fun _ h => absurd h List.not_mem_nil) d_M_hasCopy_79
      · refine lv_iload_n hx hb d_M_hasCopy_68 rfl (lv_at hl 0 rfl) ?_
        refine lv_bipush (v := (6 : Int32)) hx hb d_M_hasCopy_69 (by decide) ?_
        refine lv_icmp_ne (tgt := 78) hx hb d_M_hasCopy_71 (by decide) (fun q8 => ?_) (fun q8 => ?_)
        · refine lv_iconst (v := (0 : Int32)) hx hb d_M_hasCopy_78 (by decide) ?_
          have e9 : (0 : Int32) = f_M_hasCopy σ side far := by rw [f_M_hasCopy, if_neg q1, if_neg q2, if_pos q5, if_neg q6, if_neg q7, if_neg q8]
          exact W.zret (v := (0 : Int32)) hx hb hr (by decide) (fun t ht hW => ⟨_, rfl, e9, ht⟩) (fun _ h => absurd h List.not_mem_nil) d_M_hasCopy_79
        · refine lv_iconst (v := (1 : Int32)) hx hb d_M_hasCopy_74 (by decide) ?_
          refine lv_goto (tgt := 79) hx hb d_M_hasCopy_75 (by decide) ?_
          have e9 : (1 : Int32) = f_M_hasCopy σ side far := by rw [f_M_hasCopy, if_neg q1, if_neg q2, if_pos q5, if_neg q6, if_neg q7, if_pos q8]
          exact W.zret (v := (1 : Int32)) hx hb hr (by decide) (fun t ht hW => ⟨_, rfl, e9, ht⟩) (fun _ h => absurd h List.not_mem_nil) d_M_hasCopy_79
  refine lv_lookup (tgt := 80) (off := 73) hx hb d_M_hasCopy_7 (by decide) (by simp only [List.toList_toArray]; rw [lv_osw q1 (k := (0 : Int32)) (a := 0) rfl, lv_osw q2 (k := (16 : Int32)) (a := 16) rfl, lv_osw q5 (k := (32 : Int32)) (a := 32) rfl]; rfl) (by decide) ?_
  refine lv_iload_n hx hb d_M_hasCopy_80 rfl (lv_at hl 0 rfl) ?_
  refine lv_iconst (v := (4 : Int32)) hx hb d_M_hasCopy_81 (by decide) ?_
  refine lv_icmp_eq (tgt := 91) hx hb d_M_hasCopy_82 (by decide) (fun q9 => ?_) (fun q9 => ?_)
  · refine lv_iconst (v := (1 : Int32)) hx hb d_M_hasCopy_91 (by decide) ?_
    refine lv_goto (tgt := 96) hx hb d_M_hasCopy_92 (by decide) ?_
    have e9 : (1 : Int32) = f_M_hasCopy σ side far := by rw [f_M_hasCopy, if_neg q1, if_neg q2, if_neg q5, if_pos q9]
    exact W.zret (v := (1 : Int32)) hx hb hr (by decide) (fun t ht hW => ⟨_, rfl, e9, ht⟩) (fun _ h => absurd h List.not_mem_nil) d_M_hasCopy_96
  · refine lv_iload_n hx hb d_M_hasCopy_85 rfl (lv_at hl 0 rfl) ?_
    refine lv_bipush (v := (6 : Int32)) hx hb d_M_hasCopy_86 (by decide) ?_
    refine lv_icmp_ne (tgt := 95) hx hb d_M_hasCopy_88 (by decide) (fun q10 => ?_) (fun q10 => ?_)
    · refine lv_iconst (v := (0 : Int32)) hx hb d_M_hasCopy_95 (by decide) ?_
      have e9 : (0 : Int32) = f_M_hasCopy σ side far := by rw [f_M_hasCopy, if_neg q1, if_neg q2, if_neg q5, if_neg q9, if_neg q10]
      exact W.zret (v := (0 : Int32)) hx hb hr (by decide) (fun t ht hW => ⟨_, rfl, e9, ht⟩) (fun _ h => absurd h List.not_mem_nil) d_M_hasCopy_96
    · refine lv_iconst (v := (1 : Int32)) hx hb d_M_hasCopy_91 (by decide) ?_
      refine lv_goto (tgt := 96) hx hb d_M_hasCopy_92 (by decide) ?_
      have e9 : (1 : Int32) = f_M_hasCopy σ side far := by rw [f_M_hasCopy, if_neg q1, if_neg q2, if_neg q5, if_neg q9, if_pos q10]
      exact W.zret (v := (1 : Int32)) hx hb hr (by decide) (fun t ht hW => ⟨_, rfl, e9, ht⟩) (fun _ h => absurd h List.not_mem_nil) d_M_hasCopy_96

def f_M_size (x : Int32) : Int32 := ((1 : Int32) <<< (((x >>> ((4 : Int32) &&& 31)) &&& (3 : Int32)) &&& 31))

set_option maxRecDepth 100000 in
set_option maxHeartbeats 4000000 in
theorem c_M_size (l : Launch) (D : va_G) (cA ad : Nat → Nat) (hap : kap 8 ad) (σ : Nat → Nat → Int32) (x : Int32) : Met l y_M_size w_M_size ({ frames := 0, cells := 0, slots := 0, locals := 0 } : Room) (va_Pc [.int x] (mPre D cA ad σ)) (vp_Si (fun v => v = f_M_size x)) 0 0 (fun _ => False) := by
  refine Met.ofW (cc := b_M_size) (maxL := 1) (ret := (some .int)) (by decide) rfl ?_
  intro p e s m args below meth c s₁ B hml hv
  obtain ⟨rfl, hv⟩ := hv
  obtain ⟨hP, hK⟩ := hv
  have hx := B.exec
  have hb := B.bytes
  have hr := B.returns
  have hlocks := B.notSynchronized
  have hT : ∀ w ∈ TB, w.before ([.int x] : List Value).toArray s = true := fun w h => atoms_spec (ws := w_M_size) B.pre w (List.mem_cons_of_mem _ h)
  have hown : s.vm.findClass R_M = some m.cls := findClass_of_methodNamed B.named
  have hS : va_S (kA 8 ad) s.heap s.heap [] := va_S.rf
  have hl := lv_entry ([.int x]) (n := 1) (Nat.le_of_ble_eq_true rfl)
  rw [lg_entry_eq]
  generalize (lg_sl ([.int x]) ++ List.replicate (1 - (lg_sl ([.int x])).length) Slot.unset).toArray = ls at hl ⊢
  have hl : lv_has ls 1 [(0, .int x)] := hl
  refine lv_iconst (v := (1 : Int32)) hx hb d_M_size_0 (by decide) ?_
  refine lv_iload_n hx hb d_M_size_1 rfl (lv_at hl 0 rfl) ?_
  refine lv_iconst (v := (4 : Int32)) hx hb d_M_size_2 (by decide) ?_
  refine lv_ishr hx hb d_M_size_3 ?_
  refine lv_iconst (v := (3 : Int32)) hx hb d_M_size_4 (by decide) ?_
  refine lv_iand hx hb d_M_size_5 ?_
  refine lv_ishl hx hb d_M_size_6 ?_
  have e9 : ((1 : Int32) <<< (((x >>> ((4 : Int32) &&& 31)) &&& (3 : Int32)) &&& 31)) = f_M_size x := by rw [f_M_size]
  exact W.iret (v := ((1 : Int32) <<< (((x >>> ((4 : Int32) &&& 31)) &&& (3 : Int32)) &&& 31))) hx hb hr (fun t ht hW => ⟨_, rfl, e9, ht⟩) (fun _ h => absurd h List.not_mem_nil) d_M_size_7

def f_M_playfield (σ : Nat → Nat → Int32) (x : Int32) : Int32 := (if x < (80 : Int32) then (if (4 : Int32) ≤ ((x - x / (80 : Int32) * (80 : Int32)) / (4 : Int32)) then (if (12 : Int32) ≤ ((x - x / (80 : Int32) * (80 : Int32)) / (4 : Int32)) then (f_M_bit σ (7 : Int32) (((x - x / (80 : Int32) * (80 : Int32)) / (4 : Int32)) - (12 : Int32))) else (f_M_bit σ (6 : Int32) ((11 : Int32) - ((x - x / (80 : Int32) * (80 : Int32)) / (4 : Int32))))) else (f_M_bit σ (5 : Int32) ((4 : Int32) + ((x - x / (80 : Int32) * (80 : Int32)) / (4 : Int32))))) else (if (f_M_bit σ (8 : Int32) (0 : Int32)) = 0 then (if (4 : Int32) ≤ ((x - x / (80 : Int32) * (80 : Int32)) / (4 : Int32)) then (if (12 : Int32) ≤ ((x - x / (80 : Int32) * (80 : Int32)) / (4 : Int32)) then (f_M_bit σ (7 : Int32) (((x - x / (80 : Int32) * (80 : Int32)) / (4 : Int32)) - (12 : Int32))) else (f_M_bit σ (6 : Int32) ((11 : Int32) - ((x - x / (80 : Int32) * (80 : Int32)) / (4 : Int32))))) else (f_M_bit σ (5 : Int32) ((4 : Int32) + ((x - x / (80 : Int32) * (80 : Int32)) / (4 : Int32))))) else (if (4 : Int32) ≤ ((19 : Int32) - ((x - x / (80 : Int32) * (80 : Int32)) / (4 : Int32))) then (if (12 : Int32) ≤ ((19 : Int32) - ((x - x / (80 : Int32) * (80 : Int32)) / (4 : Int32))) then (f_M_bit σ (7 : Int32) (((19 : Int32) - ((x - x / (80 : Int32) * (80 : Int32)) / (4 : Int32))) - (12 : Int32))) else (f_M_bit σ (6 : Int32) ((11 : Int32) - ((19 : Int32) - ((x - x / (80 : Int32) * (80 : Int32)) / (4 : Int32)))))) else (f_M_bit σ (5 : Int32) ((4 : Int32) + ((19 : Int32) - ((x - x / (80 : Int32) * (80 : Int32)) / (4 : Int32))))))))

theorem z_M_playfield (σ : Nat → Nat → Int32) (x : Int32) : f_M_playfield σ x = 0 ∨ f_M_playfield σ x = 1 := by
  rw [f_M_playfield]
  repeat' split
  all_goals first | with_reducible exact Or.inl rfl | with_reducible exact Or.inr rfl | with_reducible exact z_M_bit ..

set_option maxRecDepth 100000 in
set_option maxHeartbeats 4000000 in
theorem c_M_playfield (l : Launch) (D : va_G) (cA ad : Nat → Nat) (hap : kap 8 ad) (σ : Nat → Nat → Int32) (x : Int32) : Met l y_M_playfield w_M_playfield ({ frames := 1, cells := 0, slots := 0, locals := 22 } : Room) (va_Pc [.ref (ad 0), .int x] (mPre D cA ad σ)) (vp_Si (fun v => v = f_M_playfield σ x)) 0 0 (fun _ => False) := by
  refine Met.ofW (cc := b_M_playfield) (maxL := 3) (ret := (some .boolean)) (by decide) rfl ?_
  intro p e s m args below meth c s₁ B hml hv
  obtain ⟨rfl, hv⟩ := hv
  obtain ⟨hP, hK⟩ := hv
  have hx := B.exec
  have hb := B.bytes
  have hr := B.returns
  have hlocks := B.notSynchronized
  have hT : ∀ w ∈ TB, w.before ([.ref (ad 0), .int x] : List Value).toArray s = true := fun w h => atoms_spec (ws := w_M_playfield) B.pre w (List.mem_cons_of_mem _ h)
  have hown : s.vm.findClass R_M = some m.cls := findClass_of_methodNamed B.named
  have hS : va_S (kA 8 ad) s.heap s.heap [] := va_S.rf
  have hl := lv_entry ([.ref (ad 0), .int x]) (n := 3) (Nat.le_of_ble_eq_true rfl)
  rw [lg_entry_eq]
  generalize (lg_sl ([.ref (ad 0), .int x]) ++ List.replicate (3 - (lg_sl ([.ref (ad 0), .int x])).length) Slot.unset).toArray = ls at hl ⊢
  have hl : lv_has ls 3 [(0, .ref (ad 0)), (1, .int x)] := hl
  refine lv_iload_n hx hb d_M_playfield_0 rfl (lv_at hl 1 rfl) ?_
  refine lv_bipush (v := (80 : Int32)) hx hb d_M_playfield_1 (by decide) ?_
  refine lv_irem hx hb d_M_playfield_3 (by decide) ?_
  refine lv_iconst (v := (4 : Int32)) hx hb d_M_playfield_4 (by decide) ?_
  refine lv_idiv hx hb d_M_playfield_5 (by decide) ?_
  refine lv_istore_n (lv' := [(2, .int ((x - x / (80 : Int32) * (80 : Int32)) / (4 : Int32))), (0, .ref (ad 0)), (1, .int x)]) hx hb d_M_playfield_6 rfl hl (by decide) rfl (fun ls hl => ?_)
  refine lv_iload_n hx hb d_M_playfield_7 rfl (lv_at hl 2 rfl) ?_
  refine lv_bipush (v := (80 : Int32)) hx hb d_M_playfield_8 (by decide) ?_
  refine lv_icmp_lt (tgt := 30) hx hb d_M_playfield_10 (by decide) (fun q1 => ?_) (fun q1 => ?_)
  · refine lv_iload_n hx hb d_M_playfield_30 rfl (lv_at hl 0 rfl) ?_
    refine lv_istore_n (lv' := [(2, .int ((x - x / (80 : Int32) * (80 : Int32)) / (4 : Int32))), (0, .ref (ad 0)), (1, .int x)]) hx hb d_M_playfield_31 rfl hl (by decide) rfl (fun ls hl => ?_)
    refine lv_iload_n hx hb d_M_playfield_32 rfl (lv_at hl 0 rfl) ?_
    refine lv_iconst (v := (4 : Int32)) hx hb d_M_playfield_33 (by decide) ?_
    refine lv_icmp_ge (tgt := 48) hx hb d_M_playfield_34 (by decide) (fun q2 => ?_) (fun q2 => ?_)
    · refine lv_iload_n hx hb d_M_playfield_48 rfl (lv_at hl 0 rfl) ?_
      refine lv_bipush (v := (12 : Int32)) hx hb d_M_playfield_49 (by decide) ?_
      refine lv_icmp_ge (tgt := 67) hx hb d_M_playfield_51 (by decide) (fun q3 => ?_) (fun q3 => ?_)
      · refine lv_aload_n hx hb d_M_playfield_67 rfl (lv_at hl 1 rfl) ?_
        refine lv_bipush (v := (7 : Int32)) hx hb d_M_playfield_68 (by decide) ?_
        refine lv_iload_n hx hb d_M_playfield_70 rfl (lv_at hl 0 rfl) ?_
        refine lv_bipush (v := (12 : Int32)) hx hb d_M_playfield_71 (by decide) ?_
        refine lv_isub hx hb d_M_playfield_73 ?_
        refine vp_callSi (va_Run.run (va_runV (As := [.int (7 : Int32), .int (((x - x / (80 : Int32) * (80 : Int32)) / (4 : Int32)) - (12 : Int32))]) (rest := []) ⟨hx, hb, hml, hown, hT⟩ (c_M_bit l D cA ad hap σ (7 : Int32) (((x - x / (80 : Int32) * (80 : Int32)) / (4 : Int32)) - (12 : Int32)) (by first | assumption | exact kin (by decide))) (kCV 2 hT ml_M_43 mi_M_bit ⟨Nat.le_of_ble_eq_true rfl, Nat.le_of_ble_eq_true rfl⟩) (mpreV hK hP) rfl rfl hl.1 rfl (lv_room (Nat.le_of_ble_eq_true rfl)) d_M_playfield_74 ⟨Nat.le_of_ble_eq_true rfl, Nat.le_of_ble_eq_true rfl⟩)) (fun r9 e9 => ?_)
        subst e9
        have e9 : (f_M_bit σ (7 : Int32) (((x - x / (80 : Int32) * (80 : Int32)) / (4 : Int32)) - (12 : Int32))) = f_M_playfield σ x := by rw [f_M_playfield, if_pos q1, if_pos q2, if_pos q3]
        exact W.zret (v := (f_M_bit σ (7 : Int32) (((x - x / (80 : Int32) * (80 : Int32)) / (4 : Int32)) - (12 : Int32)))) hx hb hr (kz_nar (z_M_bit ..)) (fun t ht hW => ⟨_, rfl, e9, ht⟩) (fun _ h => absurd h List.not_mem_nil) d_M_playfield_77
      · refine lv_aload_n hx hb d_M_playfield_54 rfl (lv_at hl 1 rfl) ?_
        refine lv_bipush (v := (6 : Int32)) hx hb d_M_playfield_55 (by decide) ?_
        refine lv_bipush (v := (11 : Int32)) hx hb d_M_playfield_57 (by decide) ?_
        refine lv_iload_n hx hb d_M_playfield_59 rfl (lv_at hl 0 rfl) ?_
        refine lv_isub hx hb d_M_playfield_60 ?_
        refine vp_callSi (va_Run.run (va_runV (As := [.int (6 : Int32), .int ((11 : Int32) - ((x - x / (80 : Int32) * (80 : Int32)) / (4 : Int32)))]) (rest := []) ⟨hx, hb, hml, hown, hT⟩ (c_M_bit l D cA ad hap σ (6 : Int32) ((11 : Int32) - ((x - x / (80 : Int32) * (80 : Int32)) / (4 : Int32))) (by first | assumption | exact kin (by decide))) (kCV 2 hT ml_M_43 mi_M_bit ⟨Nat.le_of_ble_eq_true rfl, Nat.le_of_ble_eq_true rfl⟩) (mpreV hK hP) rfl rfl hl.1 rfl (lv_room (Nat.le_of_ble_eq_true rfl)) d_M_playfield_61 ⟨Nat.le_of_ble_eq_true rfl, Nat.le_of_ble_eq_true rfl⟩)) (fun r9 e9 => ?_)
        subst e9
        refine lv_goto (tgt := 77) hx hb d_M_playfield_64 (by decide) ?_
        have e9 : (f_M_bit σ (6 : Int32) ((11 : Int32) - ((x - x / (80 : Int32) * (80 : Int32)) / (4 : Int32)))) = f_M_playfield σ x := by rw [f_M_playfield, if_pos q1, if_pos q2, if_neg q3]
        exact W.zret (v := (f_M_bit σ (6 : Int32) ((11 : Int32) - ((x - x / (80 : Int32) * (80 : Int32)) / (4 : Int32))))) hx hb hr (kz_nar (z_M_bit ..)) (fun t ht hW => ⟨_, rfl, e9, ht⟩) (fun _ h => absurd h List.not_mem_nil) d_M_playfield_77
    · refine lv_aload_n hx hb d_M_playfield_37 rfl (lv_at hl 1 rfl) ?_
      refine lv_iconst (v := (5 : Int32)) hx hb d_M_playfield_38 (by decide) ?_
      refine lv_iconst (v := (4 : Int32)) hx hb d_M_playfield_39 (by decide) ?_
      refine lv_iload_n hx hb d_M_playfield_40 rfl (lv_at hl 0 rfl) ?_
      refine lv_iadd hx hb d_M_playfield_41 ?_
      refine vp_callSi (va_Run.run (va_runV (As := [.int (5 : Int32), .int ((4 : Int32) + ((x - x / (80 : Int32) * (80 : Int32)) / (4 : Int32)))]) (rest := []) ⟨hx, hb, hml, hown, hT⟩ (c_M_bit l D cA ad hap σ (5 : Int32) ((4 : Int32) + ((x - x / (80 : Int32) * (80 : Int32)) / (4 : Int32))) (by first | assumption | exact kin (by decide))) (kCV 2 hT ml_M_43 mi_M_bit ⟨Nat.le_of_ble_eq_true rfl, Nat.le_of_ble_eq_true rfl⟩) (mpreV hK hP) rfl rfl hl.1 rfl (lv_room (Nat.le_of_ble_eq_true rfl)) d_M_playfield_42 ⟨Nat.le_of_ble_eq_true rfl, Nat.le_of_ble_eq_true rfl⟩)) (fun r9 e9 => ?_)
      subst e9
      refine lv_goto (tgt := 77) hx hb d_M_playfield_45 (by decide) ?_
      have e9 : (f_M_bit σ (5 : Int32) ((4 : Int32) + ((x - x / (80 : Int32) * (80 : Int32)) / (4 : Int32)))) = f_M_playfield σ x := by rw [f_M_playfield, if_pos q1, if_neg q2]
      exact W.zret (v := (f_M_bit σ (5 : Int32) ((4 : Int32) + ((x - x / (80 : Int32) * (80 : Int32)) / (4 : Int32))))) hx hb hr (kz_nar (z_M_bit ..)) (fun t ht hW => ⟨_, rfl, e9, ht⟩) (fun _ h => absurd h List.not_mem_nil) d_M_playfield_77
  · refine lv_aload_n hx hb d_M_playfield_13 rfl (lv_at hl 1 rfl) ?_
    refine lv_bipush (v := (8 : Int32)) hx hb d_M_playfield_14 (by decide) ?_
    refine lv_iconst (v := (0 : Int32)) hx hb d_M_playfield_16 (by decide) ?_
    refine vp_callSi (va_Run.run (va_runV (As := [.int (8 : Int32), .int (0 : Int32)]) (rest := []) ⟨hx, hb, hml, hown, hT⟩ (c_M_bit l D cA ad hap σ (8 : Int32) (0 : Int32) (by first | assumption | exact kin (by decide))) (kCV 2 hT ml_M_43 mi_M_bit ⟨Nat.le_of_ble_eq_true rfl, Nat.le_of_ble_eq_true rfl⟩) (mpreV hK hP) rfl rfl hl.1 rfl (lv_room (Nat.le_of_ble_eq_true rfl)) d_M_playfield_17 ⟨Nat.le_of_ble_eq_true rfl, Nat.le_of_ble_eq_true rfl⟩)) (fun r9 e9 => ?_)
    subst e9
    refine lv_if_eq (tgt := 30) hx hb d_M_playfield_20 (by decide) (fun q4 => ?_) (fun q4 => ?_)
    · refine lv_iload_n hx hb d_M_playfield_30 rfl (lv_at hl 0 rfl) ?_
      refine lv_istore_n (lv' := [(2, .int ((x - x / (80 : Int32) * (80 : Int32)) / (4 : Int32))), (0, .ref (ad 0)), (1, .int x)]) hx hb d_M_playfield_31 rfl hl (by decide) rfl (fun ls hl => ?_)
      refine lv_iload_n hx hb d_M_playfield_32 rfl (lv_at hl 0 rfl) ?_
      refine lv_iconst (v := (4 : Int32)) hx hb d_M_playfield_33 (by decide) ?_
      refine lv_icmp_ge (tgt := 48) hx hb d_M_playfield_34 (by decide) (fun q5 => ?_) (fun q5 => ?_)
      · refine lv_iload_n hx hb d_M_playfield_48 rfl (lv_at hl 0 rfl) ?_
        refine lv_bipush (v := (12 : Int32)) hx hb d_M_playfield_49 (by decide) ?_
        refine lv_icmp_ge (tgt := 67) hx hb d_M_playfield_51 (by decide) (fun q6 => ?_) (fun q6 => ?_)
        · refine lv_aload_n hx hb d_M_playfield_67 rfl (lv_at hl 1 rfl) ?_
          refine lv_bipush (v := (7 : Int32)) hx hb d_M_playfield_68 (by decide) ?_
          refine lv_iload_n hx hb d_M_playfield_70 rfl (lv_at hl 0 rfl) ?_
          refine lv_bipush (v := (12 : Int32)) hx hb d_M_playfield_71 (by decide) ?_
          refine lv_isub hx hb d_M_playfield_73 ?_
          refine vp_callSi (va_Run.run (va_runV (As := [.int (7 : Int32), .int (((x - x / (80 : Int32) * (80 : Int32)) / (4 : Int32)) - (12 : Int32))]) (rest := []) ⟨hx, hb, hml, hown, hT⟩ (c_M_bit l D cA ad hap σ (7 : Int32) (((x - x / (80 : Int32) * (80 : Int32)) / (4 : Int32)) - (12 : Int32)) (by first | assumption | exact kin (by decide))) (kCV 2 hT ml_M_43 mi_M_bit ⟨Nat.le_of_ble_eq_true rfl, Nat.le_of_ble_eq_true rfl⟩) (mpreV hK hP) rfl rfl hl.1 rfl (lv_room (Nat.le_of_ble_eq_true rfl)) d_M_playfield_74 ⟨Nat.le_of_ble_eq_true rfl, Nat.le_of_ble_eq_true rfl⟩)) (fun r9 e9 => ?_)
          subst e9
          have e9 : (f_M_bit σ (7 : Int32) (((x - x / (80 : Int32) * (80 : Int32)) / (4 : Int32)) - (12 : Int32))) = f_M_playfield σ x := by rw [f_M_playfield, if_neg q1, if_pos q4, if_pos q5, if_pos q6]
          exact W.zret (v := (f_M_bit σ (7 : Int32) (((x - x / (80 : Int32) * (80 : Int32)) / (4 : Int32)) - (12 : Int32)))) hx hb hr (kz_nar (z_M_bit ..)) (fun t ht hW => ⟨_, rfl, e9, ht⟩) (fun _ h => absurd h List.not_mem_nil) d_M_playfield_77
        · refine lv_aload_n hx hb d_M_playfield_54 rfl (lv_at hl 1 rfl) ?_
          refine lv_bipush (v := (6 : Int32)) hx hb d_M_playfield_55 (by decide) ?_
          refine lv_bipush (v := (11 : Int32)) hx hb d_M_playfield_57 (by decide) ?_
          refine lv_iload_n hx hb d_M_playfield_59 rfl (lv_at hl 0 rfl) ?_
          refine lv_isub hx hb d_M_playfield_60 ?_
          refine vp_callSi (va_Run.run (va_runV (As := [.int (6 : Int32), .int ((11 : Int32) - ((x - x / (80 : Int32) * (80 : Int32)) / (4 : Int32)))]) (rest := []) ⟨hx, hb, hml, hown, hT⟩ (c_M_bit l D cA ad hap σ (6 : Int32) ((11 : Int32) - ((x - x / (80 : Int32) * (80 : Int32)) / (4 : Int32))) (by first | assumption | exact kin (by decide))) (kCV 2 hT ml_M_43 mi_M_bit ⟨Nat.le_of_ble_eq_true rfl, Nat.le_of_ble_eq_true rfl⟩) (mpreV hK hP) rfl rfl hl.1 rfl (lv_room (Nat.le_of_ble_eq_true rfl)) d_M_playfield_61 ⟨Nat.le_of_ble_eq_true rfl, Nat.le_of_ble_eq_true rfl⟩)) (fun r9 e9 => ?_)
          subst e9
          refine lv_goto (tgt := 77) hx hb d_M_playfield_64 (by decide) ?_
          have e9 : (f_M_bit σ (6 : Int32) ((11 : Int32) - ((x - x / (80 : Int32) * (80 : Int32)) / (4 : Int32)))) = f_M_playfield σ x := by rw [f_M_playfield, if_neg q1, if_pos q4, if_pos q5, if_neg q6]
          exact W.zret (v := (f_M_bit σ (6 : Int32) ((11 : Int32) - ((x - x / (80 : Int32) * (80 : Int32)) / (4 : Int32))))) hx hb hr (kz_nar (z_M_bit ..)) (fun t ht hW => ⟨_, rfl, e9, ht⟩) (fun _ h => absurd h List.not_mem_nil) d_M_playfield_77
      · refine lv_aload_n hx hb d_M_playfield_37 rfl (lv_at hl 1 rfl) ?_
        refine lv_iconst (v := (5 : Int32)) hx hb d_M_playfield_38 (by decide) ?_
        refine lv_iconst (v := (4 : Int32)) hx hb d_M_playfield_39 (by decide) ?_
        refine lv_iload_n hx hb d_M_playfield_40 rfl (lv_at hl 0 rfl) ?_
        refine lv_iadd hx hb d_M_playfield_41 ?_
        refine vp_callSi (va_Run.run (va_runV (As := [.int (5 : Int32), .int ((4 : Int32) + ((x - x / (80 : Int32) * (80 : Int32)) / (4 : Int32)))]) (rest := []) ⟨hx, hb, hml, hown, hT⟩ (c_M_bit l D cA ad hap σ (5 : Int32) ((4 : Int32) + ((x - x / (80 : Int32) * (80 : Int32)) / (4 : Int32))) (by first | assumption | exact kin (by decide))) (kCV 2 hT ml_M_43 mi_M_bit ⟨Nat.le_of_ble_eq_true rfl, Nat.le_of_ble_eq_true rfl⟩) (mpreV hK hP) rfl rfl hl.1 rfl (lv_room (Nat.le_of_ble_eq_true rfl)) d_M_playfield_42 ⟨Nat.le_of_ble_eq_true rfl, Nat.le_of_ble_eq_true rfl⟩)) (fun r9 e9 => ?_)
        subst e9
        refine lv_goto (tgt := 77) hx hb d_M_playfield_45 (by decide) ?_
        have e9 : (f_M_bit σ (5 : Int32) ((4 : Int32) + ((x - x / (80 : Int32) * (80 : Int32)) / (4 : Int32)))) = f_M_playfield σ x := by rw [f_M_playfield, if_neg q1, if_pos q4, if_neg q5]
        exact W.zret (v := (f_M_bit σ (5 : Int32) ((4 : Int32) + ((x - x / (80 : Int32) * (80 : Int32)) / (4 : Int32))))) hx hb hr (kz_nar (z_M_bit ..)) (fun t ht hW => ⟨_, rfl, e9, ht⟩) (fun _ h => absurd h List.not_mem_nil) d_M_playfield_77
    · refine lv_bipush (v := (19 : Int32)) hx hb d_M_playfield_23 (by decide) ?_
      refine lv_iload_n hx hb d_M_playfield_25 rfl (lv_at hl 0 rfl) ?_
      refine lv_isub hx hb d_M_playfield_26 ?_
      refine lv_goto (tgt := 31) hx hb d_M_playfield_27 (by decide) ?_
      refine lv_istore_n (lv' := [(2, .int ((19 : Int32) - ((x - x / (80 : Int32) * (80 : Int32)) / (4 : Int32)))), (0, .ref (ad 0)), (1, .int x)]) hx hb d_M_playfield_31 rfl hl (by decide) rfl (fun ls hl => ?_)
      refine lv_iload_n hx hb d_M_playfield_32 rfl (lv_at hl 0 rfl) ?_
      refine lv_iconst (v := (4 : Int32)) hx hb d_M_playfield_33 (by decide) ?_
      refine lv_icmp_ge (tgt := 48) hx hb d_M_playfield_34 (by decide) (fun q7 => ?_) (fun q7 => ?_)
      · refine lv_iload_n hx hb d_M_playfield_48 rfl (lv_at hl 0 rfl) ?_
        refine lv_bipush (v := (12 : Int32)) hx hb d_M_playfield_49 (by decide) ?_
        refine lv_icmp_ge (tgt := 67) hx hb d_M_playfield_51 (by decide) (fun q8 => ?_) (fun q8 => ?_)
        · refine lv_aload_n hx hb d_M_playfield_67 rfl (lv_at hl 1 rfl) ?_
          refine lv_bipush (v := (7 : Int32)) hx hb d_M_playfield_68 (by decide) ?_
          refine lv_iload_n hx hb d_M_playfield_70 rfl (lv_at hl 0 rfl) ?_
          refine lv_bipush (v := (12 : Int32)) hx hb d_M_playfield_71 (by decide) ?_
          refine lv_isub hx hb d_M_playfield_73 ?_
          refine vp_callSi (va_Run.run (va_runV (As := [.int (7 : Int32), .int (((19 : Int32) - ((x - x / (80 : Int32) * (80 : Int32)) / (4 : Int32))) - (12 : Int32))]) (rest := []) ⟨hx, hb, hml, hown, hT⟩ (c_M_bit l D cA ad hap σ (7 : Int32) (((19 : Int32) - ((x - x / (80 : Int32) * (80 : Int32)) / (4 : Int32))) - (12 : Int32)) (by first | assumption | exact kin (by decide))) (kCV 2 hT ml_M_43 mi_M_bit ⟨Nat.le_of_ble_eq_true rfl, Nat.le_of_ble_eq_true rfl⟩) (mpreV hK hP) rfl rfl hl.1 rfl (lv_room (Nat.le_of_ble_eq_true rfl)) d_M_playfield_74 ⟨Nat.le_of_ble_eq_true rfl, Nat.le_of_ble_eq_true rfl⟩)) (fun r9 e9 => ?_)
          subst e9
          have e9 : (f_M_bit σ (7 : Int32) (((19 : Int32) - ((x - x / (80 : Int32) * (80 : Int32)) / (4 : Int32))) - (12 : Int32))) = f_M_playfield σ x := by rw [f_M_playfield, if_neg q1, if_neg q4, if_pos q7, if_pos q8]
          exact W.zret (v := (f_M_bit σ (7 : Int32) (((19 : Int32) - ((x - x / (80 : Int32) * (80 : Int32)) / (4 : Int32))) - (12 : Int32)))) hx hb hr (kz_nar (z_M_bit ..)) (fun t ht hW => ⟨_, rfl, e9, ht⟩) (fun _ h => absurd h List.not_mem_nil) d_M_playfield_77
        · refine lv_aload_n hx hb d_M_playfield_54 rfl (lv_at hl 1 rfl) ?_
          refine lv_bipush (v := (6 : Int32)) hx hb d_M_playfield_55 (by decide) ?_
          refine lv_bipush (v := (11 : Int32)) hx hb d_M_playfield_57 (by decide) ?_
          refine lv_iload_n hx hb d_M_playfield_59 rfl (lv_at hl 0 rfl) ?_
          refine lv_isub hx hb d_M_playfield_60 ?_
          refine vp_callSi (va_Run.run (va_runV (As := [.int (6 : Int32), .int ((11 : Int32) - ((19 : Int32) - ((x - x / (80 : Int32) * (80 : Int32)) / (4 : Int32))))]) (rest := []) ⟨hx, hb, hml, hown, hT⟩ (c_M_bit l D cA ad hap σ (6 : Int32) ((11 : Int32) - ((19 : Int32) - ((x - x / (80 : Int32) * (80 : Int32)) / (4 : Int32)))) (by first | assumption | exact kin (by decide))) (kCV 2 hT ml_M_43 mi_M_bit ⟨Nat.le_of_ble_eq_true rfl, Nat.le_of_ble_eq_true rfl⟩) (mpreV hK hP) rfl rfl hl.1 rfl (lv_room (Nat.le_of_ble_eq_true rfl)) d_M_playfield_61 ⟨Nat.le_of_ble_eq_true rfl, Nat.le_of_ble_eq_true rfl⟩)) (fun r9 e9 => ?_)
          subst e9
          refine lv_goto (tgt := 77) hx hb d_M_playfield_64 (by decide) ?_
          have e9 : (f_M_bit σ (6 : Int32) ((11 : Int32) - ((19 : Int32) - ((x - x / (80 : Int32) * (80 : Int32)) / (4 : Int32))))) = f_M_playfield σ x := by rw [f_M_playfield, if_neg q1, if_neg q4, if_pos q7, if_neg q8]
          exact W.zret (v := (f_M_bit σ (6 : Int32) ((11 : Int32) - ((19 : Int32) - ((x - x / (80 : Int32) * (80 : Int32)) / (4 : Int32)))))) hx hb hr (kz_nar (z_M_bit ..)) (fun t ht hW => ⟨_, rfl, e9, ht⟩) (fun _ h => absurd h List.not_mem_nil) d_M_playfield_77
      · refine lv_aload_n hx hb d_M_playfield_37 rfl (lv_at hl 1 rfl) ?_
        refine lv_iconst (v := (5 : Int32)) hx hb d_M_playfield_38 (by decide) ?_
        refine lv_iconst (v := (4 : Int32)) hx hb d_M_playfield_39 (by decide) ?_
        refine lv_iload_n hx hb d_M_playfield_40 rfl (lv_at hl 0 rfl) ?_
        refine lv_iadd hx hb d_M_playfield_41 ?_
        refine vp_callSi (va_Run.run (va_runV (As := [.int (5 : Int32), .int ((4 : Int32) + ((19 : Int32) - ((x - x / (80 : Int32) * (80 : Int32)) / (4 : Int32))))]) (rest := []) ⟨hx, hb, hml, hown, hT⟩ (c_M_bit l D cA ad hap σ (5 : Int32) ((4 : Int32) + ((19 : Int32) - ((x - x / (80 : Int32) * (80 : Int32)) / (4 : Int32)))) (by first | assumption | exact kin (by decide))) (kCV 2 hT ml_M_43 mi_M_bit ⟨Nat.le_of_ble_eq_true rfl, Nat.le_of_ble_eq_true rfl⟩) (mpreV hK hP) rfl rfl hl.1 rfl (lv_room (Nat.le_of_ble_eq_true rfl)) d_M_playfield_42 ⟨Nat.le_of_ble_eq_true rfl, Nat.le_of_ble_eq_true rfl⟩)) (fun r9 e9 => ?_)
        subst e9
        refine lv_goto (tgt := 77) hx hb d_M_playfield_45 (by decide) ?_
        have e9 : (f_M_bit σ (5 : Int32) ((4 : Int32) + ((19 : Int32) - ((x - x / (80 : Int32) * (80 : Int32)) / (4 : Int32))))) = f_M_playfield σ x := by rw [f_M_playfield, if_neg q1, if_neg q4, if_neg q7]
        exact W.zret (v := (f_M_bit σ (5 : Int32) ((4 : Int32) + ((19 : Int32) - ((x - x / (80 : Int32) * (80 : Int32)) / (4 : Int32)))))) hx hb hr (kz_nar (z_M_bit ..)) (fun t ht hW => ⟨_, rfl, e9, ht⟩) (fun _ h => absurd h List.not_mem_nil) d_M_playfield_77
