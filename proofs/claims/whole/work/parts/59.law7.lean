/-! what the start gives -/
theorem q_eq {a : Term} {n : Int32} {args : Array Value} {s : State} (h : (Cond.eq a (.int n)).before args s = true) : a.eval args s none [] s = some (.int n) := Cond.eq_int h rfl
theorem q_tab {args : Array Value} {s : State} (n : String) (N : Nat) (f : Nat → Int32) (hN : N < 2 ^ 31) (hl : (Cond.laysStatic R_B n "[I").before args s = true) (hini : (Cond.initialized R_B).before args s = true) (harr : (Cond.arrayOf (.static R_B n "[I") .int).before args s = true) (hlen : (Cond.eq (.length (.static R_B n "[I")) (.int (Int32.ofNat N))).before args s = true)
    (hel : ∀ j : Nat, j < N → (Cond.eq (.elem (.static R_B n "[I") (.int (Int32.ofNat j))) (.int (f j))).before args s = true) : ∃ t : Nat, kZ1 n N f (lA s) t s s.heap := by
  have hA : ∀ a : Nat, a < s.heap.size → ¬ lA s a := fun a h1 h2 => Nat.lt_irrefl _ (Nat.lt_of_lt_of_le h1 h2)
  obtain ⟨t, ht, hT⟩ := va_Tof (A := lA s) (f := fun j => .int (f j)) hN harr (q_eq hlen) (fun j hj => q_eq (hel j hj)) hA
  exact ⟨t, va_Zref hl hini ht hA, hT⟩
theorem q_arr {args : Array Value} {s : State} {ty : FieldType} (h : (Cond.arrayClass ty).before args s = true) : ∃ c : ClassId, ArrOfT s c ty ∧ s.vm.findClass ("[" ++ ty.toString) = some c := by
  obtain ⟨c, k, comp, h1, h2, h3⟩ := Cond.arrayClass_spec h
  exact ⟨c, fun n z => ⟨fun k h => (by cases h), k, h2, comp, h3⟩, h1⟩
set_option maxRecDepth 100000 in
set_option maxHeartbeats 4000000 in
theorem q_known {b : Nat} {s : State} (hT : ∀ w ∈ TB, w.before #[Value.ref b] s = true) : ∃ (D : va_G) (cA : Nat → Nat), va_K D classes (kty cA) s := by
  obtain ⟨c0, a0, f0⟩ := q_arr (hT _ ac_I)
  obtain ⟨c1, a1, f1⟩ := q_arr (hT _ ac_Z)
  obtain ⟨c2, a2, f2⟩ := q_arr (hT _ ac_J)
  obtain ⟨dB, iB, kB⟩ := u_known (C := R_B) (T := F_B) (N := 10) hT in_B (hT _ ins_B)
  obtain ⟨dT, iT, kT⟩ := u_known (C := R_T) (T := F_T) (N := 4) hT in_T (hT _ ins_T)
  obtain ⟨dM, iM, kM⟩ := u_known (C := R_M) (T := F_M) (N := 17) hT in_M (hT _ ins_M)
  refine ⟨(fun k => match k with | 0 => dB | 1 => dT | _ => dM, fun k => match k with | 0 => iB | 1 => iT | _ => iM), fun k => match k with | 0 => c0 | 1 => c1 | _ => c2, fun k q hk => ?_, fun k q hk => ?_⟩
  · match k, hk with
    | 0, hk => cases hk; exact kB
    | 1, hk => cases hk; exact kT
    | 2, hk => cases hk; exact kM
  · match k, hk with
    | 0, hk => cases hk; exact ⟨a0, f0⟩
    | 1, hk => cases hk; exact ⟨a1, f1⟩
    | 2, hk => cases hk; exact ⟨a2, f2⟩
set_option maxRecDepth 100000 in
set_option maxHeartbeats 4000000 in
theorem q_given {b : Nat} {s : State} (hts : ∀ w ∈ lw_tbl, w.before #[Value.ref b] s = true) (hg : (Jvm.Cond.and given_1 narrow_1).before #[Value.ref b] s = true) : (∃ t : Nat → Nat, kZ (lA s) t s) ∧ xPreA (lA s) s ∧ va_Nc kIAE kNSE s := by
  have hs := flat_of_before _ hg
  have hA : ∀ a : Nat, a < s.heap.size → ¬ lA s a := fun a h1 h2 => Nat.lt_irrefl _ (Nat.lt_of_lt_of_le h1 h2)
  have hini : (Cond.initialized R_B).before #[Value.ref b] s = true := hts _ (by decide +kernel)
  obtain ⟨t0, k0⟩ := q_tab (args := #[Value.ref b]) (s := s) "COPY_STARTS" 8 tab0 (by decide) (hts _ (by decide +kernel)) hini (hs _ (by decide +kernel)) (hs _ (by decide +kernel)) (fun j hj => by
    rcases (show j = 0 ∨ j = 1 ∨ j = 2 ∨ j = 3 ∨ j = 4 ∨ j = 5 ∨ j = 6 ∨ j = 7 by omega) with rfl | rfl | rfl | rfl | rfl | rfl | rfl | rfl <;> exact hs _ (by decide +kernel))
  obtain ⟨t1, k1⟩ := q_tab (args := #[Value.ref b]) (s := s) "STRETCH" 8 tab1 (by decide) (hts _ (by decide +kernel)) hini (hs _ (by decide +kernel)) (hs _ (by decide +kernel)) (fun j hj => by
    rcases (show j = 0 ∨ j = 1 ∨ j = 2 ∨ j = 3 ∨ j = 4 ∨ j = 5 ∨ j = 6 ∨ j = 7 by omega) with rfl | rfl | rfl | rfl | rfl | rfl | rfl | rfl <;> exact hs _ (by decide +kernel))
  obtain ⟨t2, k2⟩ := q_tab (args := #[Value.ref b]) (s := s) "INTERVALS" 4 tab2 (by decide) (hts _ (by decide +kernel)) hini (hs _ (by decide +kernel)) (hs _ (by decide +kernel)) (fun j hj => by
    rcases (show j = 0 ∨ j = 1 ∨ j = 2 ∨ j = 3 by omega) with rfl | rfl | rfl | rfl <;> exact hs _ (by decide +kernel))
  have hiT : (Cond.initialized Bundle.tN).before #[Value.ref b] s = true := hts _ (by decide +kernel)
  exact ⟨⟨fun k => match k with | 0 => t0 | 1 => t1 | _ => t2, k0, k1, k2⟩, ⟨vx_Zqof (hts _ (by decide +kernel)) hiT (hs _ (by decide +kernel)) hA, vx_Zqof (hts _ (by decide +kernel)) hiT (hs _ (by decide +kernel)) hA⟩, va_Nc.of (hs _ (by decide +kernel))⟩
