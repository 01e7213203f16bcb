def f_M_player_lp34 (σ : Nat → Nat → Int32) (side : Int32) (x : Int32) : Nat → Int32 → Int32 → Int32 → Int32
  | 0, i, sh, acc => acc
  | n + 1, i, sh, acc => (if i = (3 : Int32) then (if (f_M_hasCopy σ side (64 : Int32)) = 0 then (f_M_player_lp34 σ side x n (i + 1) sh acc) else (if (8 : Int32) ≤ ((f_M_behind x ((σ 1 (side).toNatClampNeg) + (64 : Int32))) / (f_M_wide σ side)) then (f_M_player_lp34 σ side x n (i + 1) sh acc) else (if acc = 0 then (if (f_M_bit σ ((15 : Int32) + side) (3 : Int32)) = 0 then (if ((sh >>> (((7 : Int32) - ((f_M_behind x ((σ 1 (side).toNatClampNeg) + (64 : Int32))) / (f_M_wide σ side))) &&& 31)) &&& (1 : Int32)) = (1 : Int32) then (f_M_player_lp34 σ side x n (i + 1) sh (1 : Int32)) else (f_M_player_lp34 σ side x n (i + 1) sh (0 : Int32))) else (if ((sh >>> (((f_M_behind x ((σ 1 (side).toNatClampNeg) + (64 : Int32))) / (f_M_wide σ side)) &&& 31)) &&& (1 : Int32)) = (1 : Int32) then (f_M_player_lp34 σ side x n (i + 1) sh (1 : Int32)) else (f_M_player_lp34 σ side x n (i + 1) sh (0 : Int32)))) else (f_M_player_lp34 σ side x n (i + 1) sh (1 : Int32))))) else (if (f_M_hasCopy σ side ((16 : Int32) * i)) = 0 then (f_M_player_lp34 σ side x n (i + 1) sh acc) else (if (8 : Int32) ≤ ((f_M_behind x ((σ 1 (side).toNatClampNeg) + ((16 : Int32) * i))) / (f_M_wide σ side)) then (f_M_player_lp34 σ side x n (i + 1) sh acc) else (if acc = 0 then (if (f_M_bit σ ((15 : Int32) + side) (3 : Int32)) = 0 then (if ((sh >>> (((7 : Int32) - ((f_M_behind x ((σ 1 (side).toNatClampNeg) + ((16 : Int32) * i))) / (f_M_wide σ side))) &&& 31)) &&& (1 : Int32)) = (1 : Int32) then (f_M_player_lp34 σ side x n (i + 1) sh (1 : Int32)) else (f_M_player_lp34 σ side x n (i + 1) sh (0 : Int32))) else (if ((sh >>> (((f_M_behind x ((σ 1 (side).toNatClampNeg) + ((16 : Int32) * i))) / (f_M_wide σ side)) &&& 31)) &&& (1 : Int32)) = (1 : Int32) then (f_M_player_lp34 σ side x n (i + 1) sh (1 : Int32)) else (f_M_player_lp34 σ side x n (i + 1) sh (0 : Int32)))) else (f_M_player_lp34 σ side x n (i + 1) sh (1 : Int32))))))
theorem f_M_player_lp34_z (σ : Nat → Nat → Int32) (side : Int32) (x : Int32) (i : Int32) (sh : Int32) (acc : Int32) : f_M_player_lp34 σ side x 0 i sh acc = acc := rfl
theorem f_M_player_lp34_s (σ : Nat → Nat → Int32) (side : Int32) (x : Int32) (n : Nat) (i : Int32) (sh : Int32) (acc : Int32) : f_M_player_lp34 σ side x (n + 1) i sh acc = (if i = (3 : Int32) then (if (f_M_hasCopy σ side (64 : Int32)) = 0 then (f_M_player_lp34 σ side x n (i + 1) sh acc) else (if (8 : Int32) ≤ ((f_M_behind x ((σ 1 (side).toNatClampNeg) + (64 : Int32))) / (f_M_wide σ side)) then (f_M_player_lp34 σ side x n (i + 1) sh acc) else (if acc = 0 then (if (f_M_bit σ ((15 : Int32) + side) (3 : Int32)) = 0 then (if ((sh >>> (((7 : Int32) - ((f_M_behind x ((σ 1 (side).toNatClampNeg) + (64 : Int32))) / (f_M_wide σ side))) &&& 31)) &&& (1 : Int32)) = (1 : Int32) then (f_M_player_lp34 σ side x n (i + 1) sh (1 : Int32)) else (f_M_player_lp34 σ side x n (i + 1) sh (0 : Int32))) else (if ((sh >>> (((f_M_behind x ((σ 1 (side).toNatClampNeg) + (64 : Int32))) / (f_M_wide σ side)) &&& 31)) &&& (1 : Int32)) = (1 : Int32) then (f_M_player_lp34 σ side x n (i + 1) sh (1 : Int32)) else (f_M_player_lp34 σ side x n (i + 1) sh (0 : Int32)))) else (f_M_player_lp34 σ side x n (i + 1) sh (1 : Int32))))) else (if (f_M_hasCopy σ side ((16 : Int32) * i)) = 0 then (f_M_player_lp34 σ side x n (i + 1) sh acc) else (if (8 : Int32) ≤ ((f_M_behind x ((σ 1 (side).toNatClampNeg) + ((16 : Int32) * i))) / (f_M_wide σ side)) then (f_M_player_lp34 σ side x n (i + 1) sh acc) else (if acc = 0 then (if (f_M_bit σ ((15 : Int32) + side) (3 : Int32)) = 0 then (if ((sh >>> (((7 : Int32) - ((f_M_behind x ((σ 1 (side).toNatClampNeg) + ((16 : Int32) * i))) / (f_M_wide σ side))) &&& 31)) &&& (1 : Int32)) = (1 : Int32) then (f_M_player_lp34 σ side x n (i + 1) sh (1 : Int32)) else (f_M_player_lp34 σ side x n (i + 1) sh (0 : Int32))) else (if ((sh >>> (((f_M_behind x ((σ 1 (side).toNatClampNeg) + ((16 : Int32) * i))) / (f_M_wide σ side)) &&& 31)) &&& (1 : Int32)) = (1 : Int32) then (f_M_player_lp34 σ side x n (i + 1) sh (1 : Int32)) else (f_M_player_lp34 σ side x n (i + 1) sh (0 : Int32)))) else (f_M_player_lp34 σ side x n (i + 1) sh (1 : Int32)))))) := rfl

def f_M_player (σ : Nat → Nat → Int32) (side : Int32) (x : Int32) : Int32 := (if (f_M_bit σ ((11 : Int32) + side) (0 : Int32)) = 0 then (f_M_player_lp34 σ side x 4 (0 : Int32) (σ 2 (side).toNatClampNeg) (0 : Int32)) else (f_M_player_lp34 σ side x 4 (0 : Int32) (σ 3 (side).toNatClampNeg) (0 : Int32)))

set_option maxRecDepth 100000 in
set_option maxHeartbeats 4000000 in
theorem c_M_player (l : Launch) (D : va_G) (cA ad : Nat → Nat) (hap : kap 8 ad) (σ : Nat → Nat → Int32) (side : Int32) (x : Int32) (hs : side = 0 ∨ side = 1) : Met l y_M_player w_M_player ({ frames := 2, cells := 0, slots := 0, locals := 44 } : Room) (va_Pc [.ref (ad 0), .int side, .int x] (mPre D cA ad σ)) (vp_Si (fun v => v = f_M_player σ side x)) 0 0 (fun _ => False) := by
  refine Met.ofW (cc := b_M_player) (maxL := 8) (ret := (some .boolean)) (by decide) rfl ?_
  intro p e s m args below meth c s₁ B hml hv
  obtain ⟨rfl, hv⟩ := hv
  obtain ⟨hP, hK⟩ := hv
  have hx := B.exec
  have hb := B.bytes
  have hr := B.returns
  have hlocks := B.notSynchronized
  have hT : ∀ w ∈ TB, w.before ([.ref (ad 0), .int side, .int x] : List Value).toArray s = true := fun w h => atoms_spec (ws := w_M_player) B.pre w (List.mem_cons_of_mem _ h)
  have hown : s.vm.findClass R_M = some m.cls := findClass_of_methodNamed B.named
  have hS : va_S (kA 8 ad) s.heap s.heap [] := va_S.rf
  have hl := lv_entry ([.ref (ad 0), .int side, .int x]) (n := 8) (Nat.le_of_ble_eq_true rfl)
  rw [lg_entry_eq]
  generalize (lg_sl ([.ref (ad 0), .int side, .int x]) ++ List.replicate (8 - (lg_sl ([.ref (ad 0), .int side, .int x])).length) Slot.unset).toArray = ls at hl ⊢
  have hl : lv_has ls 8 [(0, .ref (ad 0)), (1, .int side), (2, .int x)] := hl
  have loop34 : ∀ (n i : Nat) (sh : Int32) (acc : Int32) (ls : Array Slot), i + n = 4 → lv_has ls 8 [(5, .int (nI i)), (4, .int acc), (3, .int sh), (0, .ref (ad 0)), (1, .int side), (2, .int x)] → (acc = 0 ∨ acc = 1) → f_M_player_lp34 σ side x n (nI i) sh acc = f_M_player σ side x → W p l e (headSpec w_M_player ({ frames := 2, cells := 0, slots := 0, locals := 44 } : Room)).room s m ([.ref (ad 0), .int side, .int x] : List Value).toArray below meth c s.heap [] 0 0 (MQ below (vp_Si (fun v => v = f_M_player σ side x)) ([.ref (ad 0), .int side, .int x] : List Value).toArray s 0 0 (fun _ => False)) (F0 m 34 ls []) := by
    intro n
    induction n with
    | zero =>
      intro i sh acc ls hi hl hz_acc hg
      refine lv_iload hx hb d_M_player_34 (lv_at hl 0 rfl) ?_
      refine lv_iconst (v := (4 : Int32)) hx hb d_M_player_36 (by decide) ?_
      refine lv_icmp_ge (tgt := 144) hx hb d_M_player_37 (by decide) (fun _ => ?_) (fun h9 => absurd (nI_le (a := 4) (b := i) (by omega) (by omega)) h9)
      refine lv_iload hx hb d_M_player_144 (lv_at hl 1 rfl) ?_
      have e9 : acc = f_M_player σ side x := by rw [← hg, f_M_player_lp34_z]
      exact W.zret (v := acc) hx hb hr (kz_nar (by assumption)) (fun t ht hW => ⟨_, rfl, e9, ht⟩) (fun _ h => absurd h List.not_mem_nil) d_M_player_146
    | succ n ih =>
      intro i sh acc ls hi hl hz_acc hg
      refine lv_iload hx hb d_M_player_34 (lv_at hl 0 rfl) ?_
      refine lv_iconst (v := (4 : Int32)) hx hb d_M_player_36 (by decide) ?_
      refine lv_icmp_ge (tgt := 144) hx hb d_M_player_37 (by decide) (fun h9 => absurd h9 (nI_ge (a := i) (b := 4) (by omega) (by decide))) (fun _ => ?_)
      refine lv_iload hx hb d_M_player_40 (lv_at hl 0 rfl) ?_
      refine lv_iconst (v := (3 : Int32)) hx hb d_M_player_42 (by decide) ?_
      refine lv_icmp_ne (tgt := 51) hx hb d_M_player_43 (by decide) (fun q1 => ?_) (fun q1 => ?_)
      · refine lv_bipush (v := (16 : Int32)) hx hb d_M_player_51 (by decide) ?_
        refine lv_iload hx hb d_M_player_53 (lv_at hl 0 rfl) ?_
        refine lv_imul hx hb d_M_player_55 ?_
        refine lv_istore (lv' := [(6, .int ((16 : Int32) * (nI i))), (5, .int (nI i)), (4, .int acc), (3, .int sh), (0, .ref (ad 0)), (1, .int side), (2, .int x)]) hx hb d_M_player_56 hl (by decide) rfl (fun ls hl => ?_)
        refine lv_iload_n hx hb d_M_player_58 rfl (lv_at hl 6 rfl) ?_
        refine lv_aload_n hx hb d_M_player_59 rfl (lv_at hl 4 rfl) ?_
        refine va_get (D := D) (ci := 2) (v := .ref (ad 2)) (C := R_M) (T := F_M) (N := 17) hx hb hT in_M hown hK hP 0 rfl rfl 2 (by decide) (hT _ fl_M_13) (fun _ h9 => h9) rfl d_M_player_60 ?_
        refine lv_iload_n hx hb d_M_player_63 rfl (lv_at hl 5 rfl) ?_
        refine va_iald hx hb hK hP 2 0 rfl rfl (by first | assumption | exact kin (by decide) | ((rcases hs with rfl | rfl <;> exact kin (by decide)))) d_M_player_64 ?_
        refine lv_iload hx hb d_M_player_65 (lv_at hl 0 rfl) ?_
        refine lv_iadd hx hb d_M_player_67 ?_
        refine vp_callSi (va_Run.run (va_runS (As := [.int x, .int ((σ 1 (side).toNatClampNeg) + ((16 : Int32) * (nI i)))]) (rest := []) ⟨hx, hb, hml, hown, hT⟩ (c_M_behind l D cA ad hap σ x ((σ 1 (side).toNatClampNeg) + ((16 : Int32) * (nI i)))) (kCS 2 hT ml_M_78 ms_M_behind ⟨Nat.le_of_ble_eq_true rfl, Nat.le_of_ble_eq_true rfl⟩) (mpreS hK hP) rfl rfl hl.1 rfl (lv_room (Nat.le_of_ble_eq_true rfl)) d_M_player_68 ⟨Nat.le_of_ble_eq_true rfl, Nat.le_of_ble_eq_true rfl⟩)) (fun r9 e9 => ?_)
        subst e9
        refine lv_aload_n hx hb d_M_player_71 rfl (lv_at hl 4 rfl) ?_
        refine lv_iload_n hx hb d_M_player_72 rfl (lv_at hl 5 rfl) ?_
        refine vp_callSi (va_Run.run (va_runV (As := [.int side]) (rest := [.int (f_M_behind x ((σ 1 (side).toNatClampNeg) + ((16 : Int32) * (nI i))))]) ⟨hx, hb, hml, hown, hT⟩ (c_M_wide l D cA ad hap σ side (by first | assumption | exact kin (by decide) | ((rcases hs with rfl | rfl <;> exact kin (by decide))))) (kCV 1 hT ml_M_47 mi_M_wide ⟨Nat.le_of_ble_eq_true rfl, Nat.le_of_ble_eq_true rfl⟩) (mpreV hK hP) rfl rfl hl.1 rfl (lv_room (Nat.le_of_ble_eq_true rfl)) d_M_player_73 ⟨Nat.le_of_ble_eq_true rfl, Nat.le_of_ble_eq_true rfl⟩)) (fun r9 e9 => ?_)
        subst e9
        refine lv_idiv hx hb d_M_player_76 (kwide_ne _ _) ?_
        refine lv_istore (lv' := [(7, .int ((f_M_behind x ((σ 1 (side).toNatClampNeg) + ((16 : Int32) * (nI i)))) / (f_M_wide σ side))), (6, .int ((16 : Int32) * (nI i))), (5, .int (nI i)), (4, .int acc), (3, .int sh), (0, .ref (ad 0)), (1, .int side), (2, .int x)]) hx hb d_M_player_77 hl (by decide) rfl (fun ls hl => ?_)
        refine lv_aload_n hx hb d_M_player_79 rfl (lv_at hl 5 rfl) ?_
        refine lv_iload_n hx hb d_M_player_80 rfl (lv_at hl 6 rfl) ?_
        refine lv_iload hx hb d_M_player_81 (lv_at hl 1 rfl) ?_
        refine vp_callSi (va_Run.run (va_runV (As := [.int side, .int ((16 : Int32) * (nI i))]) (rest := []) ⟨hx, hb, hml, hown, hT⟩ (c_M_hasCopy l D cA ad hap σ side ((16 : Int32) * (nI i)) (by first | assumption | exact kin (by decide) | ((rcases hs with rfl | rfl <;> exact kin (by decide))))) (kCV 2 hT ml_M_82 mi_M_hasCopy ⟨Nat.le_of_ble_eq_true rfl, Nat.le_of_ble_eq_true rfl⟩) (mpreV hK hP) rfl rfl hl.1 rfl (lv_room (Nat.le_of_ble_eq_true rfl)) d_M_player_83 ⟨Nat.le_of_ble_eq_true rfl, Nat.le_of_ble_eq_true rfl⟩)) (fun r9 e9 => ?_)
        subst e9
        refine lv_if_eq (tgt := 138) hx hb d_M_player_86 (by decide) (fun q2 => ?_) (fun q2 => ?_)
        · refine lv_iinc (v := (nI (i + 1))) (lv' := [(5, .int (nI (i + 1))), (7, .int ((f_M_behind x ((σ 1 (side).toNatClampNeg) + ((16 : Int32) * (nI i)))) / (f_M_wide σ side))), (6, .int ((16 : Int32) * (nI i))), (4, .int acc), (3, .int sh), (0, .ref (ad 0)), (1, .int side), (2, .int x)]) hx hb d_M_player_138 hl (k := 2) rfl (by rw [nI_succ]; rfl) (by decide) rfl (fun ls hl => ?_)
          refine lv_goto (tgt := 34) hx hb d_M_player_141 (by decide) ?_
          exact ih (i + 1) sh acc ls (by omega) (lv_sub hl [0, 3, 4, 5, 6, 7] rfl) (by first | exact Or.inl rfl | exact Or.inr rfl | assumption) (by rw [← hg, f_M_player_lp34_s, if_neg q1, if_pos q2, nI_succ])
        · refine lv_iload hx hb d_M_player_89 (lv_at hl 0 rfl) ?_
          refine lv_bipush (v := (8 : Int32)) hx hb d_M_player_91 (by decide) ?_
          refine lv_icmp_ge (tgt := 138) hx hb d_M_player_93 (by decide) (fun q3 => ?_) (fun q3 => ?_)
          · refine lv_iinc (v := (nI (i + 1))) (lv' := [(5, .int (nI (i + 1))), (7, .int ((f_M_behind x ((σ 1 (side).toNatClampNeg) + ((16 : Int32) * (nI i)))) / (f_M_wide σ side))), (6, .int ((16 : Int32) * (nI i))), (4, .int acc), (3, .int sh), (0, .ref (ad 0)), (1, .int side), (2, .int x)]) hx hb d_M_player_138 hl (k := 2) rfl (by rw [nI_succ]; rfl) (by decide) rfl (fun ls hl => ?_)
            refine lv_goto (tgt := 34) hx hb d_M_player_141 (by decide) ?_
            exact ih (i + 1) sh acc ls (by omega) (lv_sub hl [0, 3, 4, 5, 6, 7] rfl) (by first | exact Or.inl rfl | exact Or.inr rfl | assumption) (by rw [← hg, f_M_player_lp34_s, if_neg q1, if_neg q2, if_pos q3, nI_succ])
          · refine lv_iload hx hb d_M_player_96 (lv_at hl 3 rfl) ?_
            refine lv_if_ne (tgt := 131) hx hb d_M_player_98 (by decide) (fun q4 => ?_) (fun q4 => ?_)
            · refine lv_iconst (v := (1 : Int32)) hx hb d_M_player_131 (by decide) ?_
              refine lv_goto (tgt := 136) hx hb d_M_player_132 (by decide) ?_
              refine lv_istore (lv' := [(4, .int (1 : Int32)), (7, .int ((f_M_behind x ((σ 1 (side).toNatClampNeg) + ((16 : Int32) * (nI i)))) / (f_M_wide σ side))), (6, .int ((16 : Int32) * (nI i))), (5, .int (nI i)), (3, .int sh), (0, .ref (ad 0)), (1, .int side), (2, .int x)]) hx hb d_M_player_136 hl (by decide) rfl (fun ls hl => ?_)
              refine lv_iinc (v := (nI (i + 1))) (lv' := [(5, .int (nI (i + 1))), (4, .int (1 : Int32)), (7, .int ((f_M_behind x ((σ 1 (side).toNatClampNeg) + ((16 : Int32) * (nI i)))) / (f_M_wide σ side))), (6, .int ((16 : Int32) * (nI i))), (3, .int sh), (0, .ref (ad 0)), (1, .int side), (2, .int x)]) hx hb d_M_player_138 hl (k := 3) rfl (by rw [nI_succ]; rfl) (by decide) rfl (fun ls hl => ?_)
              refine lv_goto (tgt := 34) hx hb d_M_player_141 (by decide) ?_
              exact ih (i + 1) sh (1 : Int32) ls (by omega) (lv_sub hl [0, 1, 4, 5, 6, 7] rfl) (by first | exact Or.inl rfl | exact Or.inr rfl | assumption) (by rw [← hg, f_M_player_lp34_s, if_neg q1, if_neg q2, if_neg q3, if_neg q4, nI_succ])
            · refine lv_iload_n hx hb d_M_player_101 rfl (lv_at hl 4 rfl) ?_
              refine lv_aload_n hx hb d_M_player_102 rfl (lv_at hl 5 rfl) ?_
              refine lv_bipush (v := (15 : Int32)) hx hb d_M_player_103 (by decide) ?_
              refine lv_iload_n hx hb d_M_player_105 rfl (lv_at hl 6 rfl) ?_
              refine lv_iadd hx hb d_M_player_106 ?_
              refine lv_iconst (v := (3 : Int32)) hx hb d_M_player_107 (by decide) ?_
              refine vp_callSi (va_Run.run (va_runV (As := [.int ((15 : Int32) + side), .int (3 : Int32)]) (rest := [.int sh]) ⟨hx, hb, hml, hown, hT⟩ (c_M_bit l D cA ad hap σ ((15 : Int32) + side) (3 : Int32) (by first | assumption | exact kin (by decide) | ((rcases hs with rfl | rfl <;> exact kin (by decide))))) (kCV 2 hT ml_M_43 mi_M_bit ⟨Nat.le_of_ble_eq_true rfl, Nat.le_of_ble_eq_true rfl⟩) (mpreV hK hP) rfl rfl hl.1 rfl (lv_room (Nat.le_of_ble_eq_true rfl)) d_M_player_108 ⟨Nat.le_of_ble_eq_true rfl, Nat.le_of_ble_eq_true rfl⟩)) (fun r9 e9 => ?_)
              subst e9
              refine lv_if_eq (tgt := 119) hx hb d_M_player_111 (by decide) (fun q5 => ?_) (fun q5 => ?_)
              · refine lv_bipush (v := (7 : Int32)) hx hb d_M_player_119 (by decide) ?_
                refine lv_iload hx hb d_M_player_121 (lv_at hl 0 rfl) ?_
                refine lv_isub hx hb d_M_player_123 ?_
                refine lv_ishr hx hb d_M_player_124 ?_
                refine lv_iconst (v := (1 : Int32)) hx hb d_M_player_125 (by decide) ?_
                refine lv_iand hx hb d_M_player_126 ?_
                refine lv_iconst (v := (1 : Int32)) hx hb d_M_player_127 (by decide) ?_
                refine lv_icmp_ne (tgt := 135) hx hb d_M_player_128 (by decide) (fun q6 => ?_) (fun q6 => ?_)
                · refine lv_iconst (v := (0 : Int32)) hx hb d_M_player_135 (by decide) ?_
                  refine lv_istore (lv' := [(4, .int (0 : Int32)), (7, .int ((f_M_behind x ((σ 1 (side).toNatClampNeg) + ((16 : Int32) * (nI i)))) / (f_M_wide σ side))), (6, .int ((16 : Int32) * (nI i))), (5, .int (nI i)), (3, .int sh), (0, .ref (ad 0)), (1, .int side), (2, .int x)]) hx hb d_M_player_136 hl (by decide) rfl (fun ls hl => ?_)
                  refine lv_iinc (v := (nI (i + 1))) (lv' := [(5, .int (nI (i + 1))), (4, .int (0 : Int32)), (7, .int ((f_M_behind x ((σ 1 (side).toNatClampNeg) + ((16 : Int32) * (nI i)))) / (f_M_wide σ side))), (6, .int ((16 : Int32) * (nI i))), (3, .int sh), (0, .ref (ad 0)), (1, .int side), (2, .int x)]) hx hb d_M_player_138 hl (k := 3) rfl (by rw [nI_succ]; rfl) (by decide) rfl (fun ls hl => ?_)
                  refine lv_goto (tgt := 34) hx hb d_M_player_141 (by decide) ?_
                  exact ih (i + 1) sh (0 : Int32) ls (by omega) (lv_sub hl [0, 1, 4, 5, 6, 7] rfl) (by first | exact Or.inl rfl | exact Or.inr rfl | assumption) (by rw [← hg, f_M_player_lp34_s, if_neg q1, if_neg q2, if_neg q3, if_pos q4, if_pos q5, if_neg q6, nI_succ])
                · refine lv_iconst (v := (1 : Int32)) hx hb d_M_player_131 (by decide) ?_
                  refine lv_goto (tgt := 136) hx hb d_M_player_132 (by decide) ?_
                  refine lv_istore (lv' := [(4, .int (1 : Int32)), (7, .int ((f_M_behind x ((σ 1 (side).toNatClampNeg) + ((16 : Int32) * (nI i)))) / (f_M_wide σ side))), (6, .int ((16 : Int32) * (nI i))), (5, .int (nI i)), (3, .int sh), (0, .ref (ad 0)), (1, .int side), (2, .int x)]) hx hb d_M_player_136 hl (by decide) rfl (fun ls hl => ?_)
                  refine lv_iinc (v := (nI (i + 1))) (lv' := [(5, .int (nI (i + 1))), (4, .int (1 : Int32)), (7, .int ((f_M_behind x ((σ 1 (side).toNatClampNeg) + ((16 : Int32) * (nI i)))) / (f_M_wide σ side))), (6, .int ((16 : Int32) * (nI i))), (3, .int sh), (0, .ref (ad 0)), (1, .int side), (2, .int x)]) hx hb d_M_player_138 hl (k := 3) rfl (by rw [nI_succ]; rfl) (by decide) rfl (fun ls hl => ?_)
                  refine lv_goto (tgt := 34) hx hb d_M_player_141 (by decide) ?_
                  exact ih (i + 1) sh (1 : Int32) ls (by omega) (lv_sub hl [0, 1, 4, 5, 6, 7] rfl) (by first | exact Or.inl rfl | exact Or.inr rfl | assumption) (by rw [← hg, f_M_player_lp34_s, if_neg q1, if_neg q2, if_neg q3, if_pos q4, if_pos q5, if_pos q6, nI_succ])
              · refine lv_iload hx hb d_M_player_114 (lv_at hl 0 rfl) ?_
                refine lv_goto (tgt := 124) hx hb d_M_player_116 (by decide) ?_
                refine lv_ishr hx hb d_M_player_124 ?_
                refine lv_iconst (v := (1 : Int32)) hx hb d_M_player_125 (by decide) ?_
                refine lv_iand hx hb d_M_player_126 ?_
                refine lv_iconst (v := (1 : Int32)) hx hb d_M_player_127 (by decide) ?_
                refine lv_icmp_ne (tgt := 135) hx hb d_M_player_128 (by decide) (fun q7 => ?_) (fun q7 => ?_)
                · refine lv_iconst (v := (0 : Int32)) hx hb d_M_player_135 (by decide) ?_
                  refine lv_istore (lv' := [(4, .int (0 : Int32)), (7, .int ((f_M_behind x ((σ 1 (side).toNatClampNeg) + ((16 : Int32) * (nI i)))) / (f_M_wide σ side))), (6, .int ((16 : Int32) * (nI i))), (5, .int (nI i)), (3, .int sh), (0, .ref (ad 0)), (1, .int side), (2, .int x)]) hx hb d_M_player_136 hl (by decide) rfl (fun ls hl => ?_)
                  refine lv_iinc (v := (nI (i + 1))) (lv' := [(5, .int (nI (i + 1))), (4, .int (0 : Int32)), (7, .int ((f_M_behind x ((σ 1 (side).toNatClampNeg) + ((16 : Int32) * (nI i)))) / (f_M_wide σ side))), (6, .int ((16 : Int32) * (nI i))), (3, .int sh), (0, .ref (ad 0)), (1, .int side), (2, .int x)]) hx hb d_M_player_138 hl (k := 3) rfl (by rw [nI_succ]; rfl) (by decide) rfl (fun ls hl => ?_)
                  refine lv_goto (tgt := 34) hx hb d_M_player_141 (by decide) ?_
                  exact ih (i + 1) sh (0 : Int32) ls (by omega) (lv_sub hl [0, 1, 4, 5, 6, 7] rfl) (by first | exact Or.inl rfl | exact Or.inr rfl | assumption) (by rw [← hg, f_M_player_lp34_s, if_neg q1, if_neg q2, if_neg q3, if_pos q4, if_neg q5, if_neg q7, nI_succ])
                · refine lv_iconst (v := (1 : Int32)) hx hb d_M_player_131 (by decide) ?_
                  refine lv_goto (tgt := 136) hx hb d_M_player_132 (by decide) ?_
                  refine lv_istore (lv' := [(4, .int (1 : Int32)), (7, .int ((f_M_behind x ((σ 1 (side).toNatClampNeg) + ((16 : Int32) * (nI i)))) / (f_M_wide σ side))), (6, .int ((16 : Int32) * (nI i))), (5, .int (nI i)), (3, .int sh), (0, .ref (ad 0)), (1, .int side), (2, .int x)]) hx hb d_M_player_136 hl (by decide) rfl (fun ls hl => ?_)
                  refine lv_iinc (v := (nI (i + 1))) (lv' := [(5, .int (nI (i + 1))), (4, .int (1 : Int32)), (7, .int ((f_M_behind x ((σ 1 (side).toNatClampNeg) + ((16 : Int32) * (nI i)))) / (f_M_wide σ side))), (6, .int ((16 : Int32) * (nI i))), (3, .int sh), (0, .ref (ad 0)), (1, .int side), (2, .int x)]) hx hb d_M_player_138 hl (k := 3) rfl (by rw [nI_succ]; rfl) (by decide) rfl (fun ls hl => ?_)
                  refine lv_goto (tgt := 34) hx hb d_M_player_141 (by decide) ?_
                  exact ih (i + 1) sh (1 : Int32) ls (by omega) (lv_sub hl [0, 1, 4, 5, 6, 7] rfl) (by first | exact Or.inl rfl | exact Or.inr rfl | assumption) (by rw [← hg, f_M_player_lp34_s, if_neg q1, if_neg q2, if_neg q3, if_pos q4, if_neg q5, if_pos q7, nI_succ])
      · refine lv_bipush (v := (64 : Int32)) hx hb d_M_player_46 (by decide) ?_
        refine lv_goto (tgt := 56) hx hb d_M_player_48 (by decide) ?_
        refine lv_istore (lv' := [(6, .int (64 : Int32)), (5, .int (nI i)), (4, .int acc), (3, .int sh), (0, .ref (ad 0)), (1, .int side), (2, .int x)]) hx hb d_M_player_56 hl (by decide) rfl (fun ls hl => ?_)
        refine lv_iload_n hx hb d_M_player_58 rfl (lv_at hl 6 rfl) ?_
        refine lv_aload_n hx hb d_M_player_59 rfl (lv_at hl 4 rfl) ?_
        refine va_get (D := D) (ci := 2) (v := .ref (ad 2)) (C := R_M) (T := F_M) (N := 17) hx hb hT in_M hown hK hP 0 rfl rfl 2 (by decide) (hT _ fl_M_13) (fun _ h9 => h9) rfl d_M_player_60 ?_
        refine lv_iload_n hx hb d_M_player_63 rfl (lv_at hl 5 rfl) ?_
        refine va_iald hx hb hK hP 2 0 rfl rfl (by first | assumption | exact kin (by decide) | ((rcases hs with rfl | rfl <;> exact kin (by decide)))) d_M_player_64 ?_
        refine lv_iload hx hb d_M_player_65 (lv_at hl 0 rfl) ?_
        refine lv_iadd hx hb d_M_player_67 ?_
        refine vp_callSi (va_Run.run (va_runS (As := [.int x, .int ((σ 1 (side).toNatClampNeg) + (64 : Int32))]) (rest := []) ⟨hx, hb, hml, hown, hT⟩ (c_M_behind l D cA ad hap σ x ((σ 1 (side).toNatClampNeg) + (64 : Int32))) (kCS 2 hT ml_M_78 ms_M_behind ⟨Nat.le_of_ble_eq_true rfl, Nat.le_of_ble_eq_true rfl⟩) (mpreS hK hP) rfl rfl hl.1 rfl (lv_room (Nat.le_of_ble_eq_true rfl)) d_M_player_68 ⟨Nat.le_of_ble_eq_true rfl, Nat.le_of_ble_eq_true rfl⟩)) (fun r9 e9 => ?_)
        subst e9
        refine lv_aload_n hx hb d_M_player_71 rfl (lv_at hl 4 rfl) ?_
        refine lv_iload_n hx hb d_M_player_72 rfl (lv_at hl 5 rfl) ?_
        refine vp_callSi (va_Run.run (va_runV (As := [.int side]) (rest := [.int (f_M_behind x ((σ 1 (side).toNatClampNeg) + (64 : Int32)))]) ⟨hx, hb, hml, hown, hT⟩ (c_M_wide l D cA ad hap σ side (by first | assumption | exact kin (by decide) | ((rcases hs with rfl | rfl <;> exact kin (by decide))))) (kCV 1 hT ml_M_47 mi_M_wide ⟨Nat.le_of_ble_eq_true rfl, Nat.le_of_ble_eq_true rfl⟩) (mpreV hK hP) rfl rfl hl.1 rfl (lv_room (Nat.le_of_ble_eq_true rfl)) d_M_player_73 ⟨Nat.le_of_ble_eq_true rfl, Nat.le_of_ble_eq_true rfl⟩)) (fun r9 e9 => ?_)
        subst e9
        refine lv_idiv hx hb d_M_player_76 (kwide_ne _ _) ?_
        refine lv_istore (lv' := [(7, .int ((f_M_behind x ((σ 1 (side).toNatClampNeg) + (64 : Int32))) / (f_M_wide σ side))), (6, .int (64 : Int32)), (5, .int (nI i)), (4, .int acc), (3, .int sh), (0, .ref (ad 0)), (1, .int side), (2, .int x)]) hx hb d_M_player_77 hl (by decide) rfl (fun ls hl => ?_)
        refine lv_aload_n hx hb d_M_player_79 rfl (lv_at hl 5 rfl) ?_
        refine lv_iload_n hx hb d_M_player_80 rfl (lv_at hl 6 rfl) ?_
        refine lv_iload hx hb d_M_player_81 (lv_at hl 1 rfl) ?_
        refine vp_callSi (va_Run.run (va_runV (As := [.int side, .int (64 : Int32)]) (rest := []) ⟨hx, hb, hml, hown, hT⟩ (c_M_hasCopy l D cA ad hap σ side (64 : Int32) (by first | assumption | exact kin (by decide) | ((rcases hs with rfl | rfl <;> exact kin (by decide))))) (kCV 2 hT ml_M_82 mi_M_hasCopy ⟨Nat.le_of_ble_eq_true rfl, Nat.le_of_ble_eq_true rfl⟩) (mpreV hK hP) rfl rfl hl.1 rfl (lv_room (Nat.le_of_ble_eq_true rfl)) d_M_player_83 ⟨Nat.le_of_ble_eq_true rfl, Nat.le_of_ble_eq_true rfl⟩)) (fun r9 e9 => ?_)
        subst e9
        refine lv_if_eq (tgt := 138) hx hb d_M_player_86 (by decide) (fun q8 => ?_) (fun q8 => ?_)
        · refine lv_iinc (v := (nI (i + 1))) (lv' := [(5, .int (nI (i + 1))), (7, .int ((f_M_behind x ((σ 1 (side).toNatClampNeg) + (64 : Int32))) / (f_M_wide σ side))), (6, .int (64 : Int32)), (4, .int acc), (3, .int sh), (0, .ref (ad 0)), (1, .int side), (2, .int x)]) hx hb d_M_player_138 hl (k := 2) rfl (by rw [nI_succ]; rfl) (by decide) rfl (fun ls hl => ?_)
          refine lv_goto (tgt := 34) hx hb d_M_player_141 (by decide) ?_
          exact ih (i + 1) sh acc ls (by omega) (lv_sub hl [0, 3, 4, 5, 6, 7] rfl) (by first | exact Or.inl rfl | exact Or.inr rfl | assumption) (by rw [← hg, f_M_player_lp34_s, if_pos q1, if_pos q8, nI_succ])
        · refine lv_iload hx hb d_M_player_89 (lv_at hl 0 rfl) ?_
          refine lv_bipush (v := (8 : Int32)) hx hb d_M_player_91 (by decide) ?_
          refine lv_icmp_ge (tgt := 138) hx hb d_M_player_93 (by decide) (fun q9 => ?_) (fun q9 => ?_)
          · refine lv_iinc (v := (nI (i + 1))) (lv' := [(5, .int (nI (i + 1))), (7, .int ((f_M_behind x ((σ 1 (side).toNatClampNeg) + (64 : Int32))) / (f_M_wide σ side))), (6, .int (64 : Int32)), (4, .int acc), (3, .int sh), (0, .ref (ad 0)), (1, .int side), (2, .int x)]) hx hb d_M_player_138 hl (k := 2) rfl (by rw [nI_succ]; rfl) (by decide) rfl (fun ls hl => ?_)
            refine lv_goto (tgt := 34) hx hb d_M_player_141 (by decide) ?_
            exact ih (i + 1) sh acc ls (by omega) (lv_sub hl [0, 3, 4, 5, 6, 7] rfl) (by first | exact Or.inl rfl | exact Or.inr rfl | assumption) (by rw [← hg, f_M_player_lp34_s, if_pos q1, if_neg q8, if_pos q9, nI_succ])
          · refine lv_iload hx hb d_M_player_96 (lv_at hl 3 rfl) ?_
            refine lv_if_ne (tgt := 131) hx hb d_M_player_98 (by decide) (fun q10 => ?_) (fun q10 => ?_)
            · refine lv_iconst (v := (1 : Int32)) hx hb d_M_player_131 (by decide) ?_
              refine lv_goto (tgt := 136) hx hb d_M_player_132 (by decide) ?_
              refine lv_istore (lv' := [(4, .int (1 : Int32)), (7, .int ((f_M_behind x ((σ 1 (side).toNatClampNeg) + (64 : Int32))) / (f_M_wide σ side))), (6, .int (64 : Int32)), (5, .int (nI i)), (3, .int sh), (0, .ref (ad 0)), (1, .int side), (2, .int x)]) hx hb d_M_player_136 hl (by decide) rfl (fun ls hl => ?_)
              refine lv_iinc (v := (nI (i + 1))) (lv' := [(5, .int (nI (i + 1))), (4, .int (1 : Int32)), (7, .int ((f_M_behind x ((σ 1 (side).toNatClampNeg) + (64 : Int32))) / (f_M_wide σ side))), (6, .int (64 : Int32)), (3, .int sh), (0, .ref (ad 0)), (1, .int side), (2, .int x)]) hx hb d_M_player_138 hl (k := 3) rfl (by rw [nI_succ]; rfl) (by decide) rfl (fun ls hl => ?_)
              refine lv_goto (tgt := 34) hx hb d_M_player_141 (by decide) ?_
              exact ih (i + 1) sh (1 : Int32) ls (by omega) (lv_sub hl [0, 1, 4, 5, 6, 7] rfl) (by first | exact Or.inl rfl | exact Or.inr rfl | assumption) (by rw [← hg, f_M_player_lp34_s, if_pos q1, if_neg q8, if_neg q9, if_neg q10, nI_succ])
            · refine lv_iload_n hx hb d_M_player_101 rfl (lv_at hl 4 rfl) ?_
              refine lv_aload_n hx hb d_M_player_102 rfl (lv_at hl 5 rfl) ?_
              refine lv_bipush (v := (15 : Int32)) hx hb d_M_player_103 (by decide) ?_
              refine lv_iload_n hx hb d_M_player_105 rfl (lv_at hl 6 rfl) ?_
              refine lv_iadd hx hb d_M_player_106 ?_
              refine lv_iconst (v := (3 : Int32)) hx hb d_M_player_107 (by decide) ?_
              refine vp_callSi (va_Run.run (va_runV (As := [.int ((15 : Int32) + side), .int (3 : Int32)]) (rest := [.int sh]) ⟨hx, hb, hml, hown, hT⟩ (c_M_bit l D cA ad hap σ ((15 : Int32) + side) (3 : Int32) (by first | assumption | exact kin (by decide) | ((rcases hs with rfl | rfl <;> exact kin (by decide))))) (kCV 2 hT ml_M_43 mi_M_bit ⟨Nat.le_of_ble_eq_true rfl, Nat.le_of_ble_eq_true rfl⟩) (mpreV hK hP) rfl rfl hl.1 rfl (lv_room (Nat.le_of_ble_eq_true rfl)) d_M_player_108 ⟨Nat.le_of_ble_eq_true rfl, Nat.le_of_ble_eq_true rfl⟩)) (fun r9 e9 => ?_)
              subst e9
              refine lv_if_eq (tgt := 119) hx hb d_M_player_111 (by decide) (fun q11 => ?_) (fun q11 => ?_)
              · refine lv_bipush (v := (7 : Int32)) hx hb d_M_player_119 (by decide) ?_
                refine lv_iload hx hb d_M_player_121 (lv_at hl 0 rfl) ?_
                refine lv_isub hx hb d_M_player_123 ?_
                refine lv_ishr hx hb d_M_player_124 ?_
                refine lv_iconst (v := (1 : Int32)) hx hb d_M_player_125 (by decide) ?_
                refine lv_iand hx hb d_M_player_126 ?_
                refine lv_iconst (v := (1 : Int32)) hx hb d_M_player_127 (by decide) ?_
                refine lv_icmp_ne (tgt := 135) hx hb d_M_player_128 (by decide) (fun q12 => ?_) (fun q12 => ?_)
                · refine lv_iconst (v := (0 : Int32)) hx hb d_M_player_135 (by decide) ?_
                  refine lv_istore (lv' := [(4, .int (0 : Int32)), (7, .int ((f_M_behind x ((σ 1 (side).toNatClampNeg) + (64 : Int32))) / (f_M_wide σ side))), (6, .int (64 : Int32)), (5, .int (nI i)), (3, .int sh), (0, .ref (ad 0)), (1, .int side), (2, .int x)]) hx hb d_M_player_136 hl (by decide) rfl (fun ls hl => ?_)
                  refine lv_iinc (v := (nI (i + 1))) (lv' := [(5, .int (nI (i + 1))), (4, .int (0 : Int32)), (7, .int ((f_M_behind x ((σ 1 (side).toNatClampNeg) + (64 : Int32))) / (f_M_wide σ side))), (6, .int (64 : Int32)), (3, .int sh), (0, .ref (ad 0)), (1, .int side), (2, .int x)]) hx hb d_M_player_138 hl (k := 3) rfl (by rw [nI_succ]; rfl) (by decide) rfl (fun ls hl => ?_)
                  refine lv_goto (tgt := 34) hx hb d_M_player_141 (by decide) ?_
                  exact ih (i + 1) sh (0 : Int32) ls (by omega) (lv_sub hl [0, 1, 4, 5, 6, 7] rfl) (by first | exact Or.inl rfl | exact Or.inr rfl | assumption) (by rw [← hg, f_M_player_lp34_s, if_pos q1, if_neg q8, if_neg q9, if_pos q10, if_pos q11, if_neg q12, nI_succ])
                · refine lv_iconst (v := (1 : Int32)) hx hb d_M_player_131 (by decide) ?_
                  refine lv_goto (tgt := 136) hx hb d_M_player_132 (by decide) ?_
                  refine lv_istore (lv' := [(4, .int (1 : Int32)), (7, .int ((f_M_behind x ((σ 1 (side).toNatClampNeg) + (64 : Int32))) / (f_M_wide σ side))), (6, .int (64 : Int32)), (5, .int (nI i)), (3, .int sh), (0, .ref (ad 0)), (1, .int side), (2, .int x)]) hx hb d_M_player_136 hl (by decide) rfl (fun ls hl => ?_)
                  refine lv_iinc (v := (nI (i + 1))) (lv' := [(5, .int (nI (i + 1))), (4, .int (1 : Int32)), (7, .int ((f_M_behind x ((σ 1 (side).toNatClampNeg) + (64 : Int32))) / (f_M_wide σ side))), (6, .int (64 : Int32)), (3, .int sh), (0, .ref (ad 0)), (1, .int side), (2, .int x)]) hx hb d_M_player_138 hl (k := 3) rfl (by rw [nI_succ]; rfl) (by decide) rfl (fun ls hl => ?_)
                  refine lv_goto (tgt := 34) hx hb d_M_player_141 (by decide) ?_
                  exact ih (i + 1) sh (1 : Int32) ls (by omega) (lv_sub hl [0, 1, 4, 5, 6, 7] rfl) (by first | exact Or.inl rfl | exact Or.inr rfl | assumption) (by rw [← hg, f_M_player_lp34_s, if_pos q1, if_neg q8, if_neg q9, if_pos q10, if_pos q11, if_pos q12, nI_succ])
              · refine lv_iload hx hb d_M_player_114 (lv_at hl 0 rfl) ?_
                refine lv_goto (tgt := 124) hx hb d_M_player_116 (by decide) ?_
                refine lv_ishr hx hb d_M_player_124 ?_
                refine lv_iconst (v := (1 : Int32)) hx hb d_M_player_125 (by decide) ?_
                refine lv_iand hx hb d_M_player_126 ?_
                refine lv_iconst (v := (1 : Int32)) hx hb d_M_player_127 (by decide) ?_
                refine lv_icmp_ne (tgt := 135) hx hb d_M_player_128 (by decide) (fun q13 => ?_) (fun q13 => ?_)
                · refine lv_iconst (v := (0 : Int32)) hx hb d_M_player_135 (by decide) ?_
                  refine lv_istore (lv' := [(4, .int (0 : Int32)), (7, .int ((f_M_behind x ((σ 1 (side).toNatClampNeg) + (64 : Int32))) / (f_M_wide σ side))), (6, .int (64 : Int32)), (5, .int (nI i)), (3, .int sh), (0, .ref (ad 0)), (1, .int side), (2, .int x)]) hx hb d_M_player_136 hl (by decide) rfl (fun ls hl => ?_)
                  refine lv_iinc (v := (nI (i + 1))) (lv' := [(5, .int (nI (i + 1))), (4, .int (0 : Int32)), (7, .int ((f_M_behind x ((σ 1 (side).toNatClampNeg) + (64 : Int32))) / (f_M_wide σ side))), (6, .int (64 : Int32)), (3, .int sh), (0, .ref (ad 0)), (1, .int side), (2, .int x)]) hx hb d_M_player_138 hl (k := 3) rfl (by rw [nI_succ]; rfl) (by decide) rfl (fun ls hl => ?_)
                  refine lv_goto (tgt := 34) hx hb d_M_player_141 (by decide) ?_
                  exact ih (i + 1) sh (0 : Int32) ls (by omega) (lv_sub hl [0, 1, 4, 5, 6, 7] rfl) (by first | exact Or.inl rfl | exact Or.inr rfl | assumption) (by rw [← hg, f_M_player_lp34_s, if_pos q1, if_neg q8, if_neg q9, if_pos q10, if_neg q11, if_neg q13, nI_succ])
                · refine lv_iconst (v := (1 : Int32)) hx hb d_M_player_131 (by decide) ?_
                  refine lv_goto (tgt := 136) hx hb d_M_player_132 (by decide) ?_
                  refine lv_istore (lv' := [(4, .int (1 : Int32)), (7, .int ((f_M_behind x ((σ 1 (side).toNatClampNeg) + (64 : Int32))) / (f_M_wide σ side))), (6, .int (64 : Int32)), (5, .int (nI i)), (3, .int sh), (0, .ref (ad 0)), (1, .int side), (2, .int x)]) hx hb d_M_player_136 hl (by decide) rfl (fun ls hl => ?_)
                  refine lv_iinc (v := (nI (i + 1))) (lv' := [(5, .int (nI (i + 1))), (4, .int (1 : Int32)), (7, .int ((f_M_behind x ((σ 1 (side).toNatClampNeg) + (64 : Int32))) / (f_M_wide σ side))), (6, .int (64 : Int32)), (3, .int sh), (0, .ref (ad 0)), (1, .int side), (2, .int x)]) hx hb d_M_player_138 hl (k := 3) rfl (by rw [nI_succ]; rfl) (by decide) rfl (fun ls hl => ?_)
                  refine lv_goto (tgt := 34) hx hb d_M_player_141 (by decide) ?_
                  exact ih (i + 1) sh (1 : Int32) ls (by omega) (lv_sub hl [0, 1, 4, 5, 6, 7] rfl) (by first | exact Or.inl rfl | exact Or.inr rfl | assumption) (by rw [← hg, f_M_player_lp34_s, if_pos q1, if_neg q8, if_neg q9, if_pos q10, if_neg q11, if_pos q13, nI_succ])
  refine lv_aload_n hx hb d_M_player_0 rfl (lv_at hl 0 rfl) ?_
  refine lv_bipush (v := (11 : Int32)) hx hb d_M_player_1 (by decide) ?_
  refine lv_iload_n hx hb d_M_player_3 rfl (lv_at hl 1 rfl) ?_
  refine lv_iadd hx hb d_M_player_4 ?_
  refine lv_iconst (v := (0 : Int32)) hx hb d_M_player_5 (by decide) ?_
  refine vp_callSi (va_Run.run (va_runV (As := [.int ((11 : Int32) + side), .int (0 : Int32)]) (rest := []) ⟨hx, hb, hml, hown, hT⟩ (c_M_bit l D cA ad hap σ ((11 : Int32) + side) (0 : Int32) (by first | assumption | exact kin (by decide) | ((rcases hs with rfl | rfl <;> exact kin (by decide))))) (kCV 2 hT ml_M_43 mi_M_bit ⟨Nat.le_of_ble_eq_true rfl, Nat.le_of_ble_eq_true rfl⟩) (mpreV hK hP) rfl rfl hl.1 rfl (lv_room (Nat.le_of_ble_eq_true rfl)) d_M_player_6 ⟨Nat.le_of_ble_eq_true rfl, Nat.le_of_ble_eq_true rfl⟩)) (fun r9 e9 => ?_)
  subst e9
  refine lv_if_eq (tgt := 21) hx hb d_M_player_9 (by decide) (fun q1 => ?_) (fun q1 => ?_)
  · refine lv_aload_n hx hb d_M_player_21 rfl (lv_at hl 0 rfl) ?_
    refine va_get (D := D) (ci := 2) (v := .ref (ad 3)) (C := R_M) (T := F_M) (N := 17) hx hb hT in_M hown hK hP 0 rfl rfl 3 (by decide) (hT _ fl_M_16) (fun _ h9 => h9) rfl d_M_player_22 ?_
    refine lv_iload_n hx hb d_M_player_25 rfl (lv_at hl 1 rfl) ?_
    refine va_iald hx hb hK hP 3 0 rfl rfl (by first | assumption | exact kin (by decide) | ((rcases hs with rfl | rfl <;> exact kin (by decide)))) d_M_player_26 ?_
    refine lv_istore_n (lv' := [(3, .int (σ 2 (side).toNatClampNeg)), (0, .ref (ad 0)), (1, .int side), (2, .int x)]) hx hb d_M_player_27 rfl hl (by decide) rfl (fun ls hl => ?_)
    refine lv_iconst (v := (0 : Int32)) hx hb d_M_player_28 (by decide) ?_
    refine lv_istore (lv' := [(4, .int (0 : Int32)), (3, .int (σ 2 (side).toNatClampNeg)), (0, .ref (ad 0)), (1, .int side), (2, .int x)]) hx hb d_M_player_29 hl (by decide) rfl (fun ls hl => ?_)
    refine lv_iconst (v := (0 : Int32)) hx hb d_M_player_31 (by decide) ?_
    refine lv_istore (lv' := [(5, .int (0 : Int32)), (4, .int (0 : Int32)), (3, .int (σ 2 (side).toNatClampNeg)), (0, .ref (ad 0)), (1, .int side), (2, .int x)]) hx hb d_M_player_32 hl (by decide) rfl (fun ls hl => ?_)
    exact loop34 4 0 (σ 2 (side).toNatClampNeg) (0 : Int32) ls rfl (lv_sub hl [0, 1, 2, 3, 4, 5] rfl) (by first | exact Or.inl rfl | exact Or.inr rfl | assumption) (by rw [f_M_player, if_pos q1]; rfl)
  · refine lv_aload_n hx hb d_M_player_12 rfl (lv_at hl 0 rfl) ?_
    refine va_get (D := D) (ci := 2) (v := .ref (ad 4)) (C := R_M) (T := F_M) (N := 17) hx hb hT in_M hown hK hP 0 rfl rfl 4 (by decide) (hT _ fl_M_19) (fun _ h9 => h9) rfl d_M_player_13 ?_
    refine lv_iload_n hx hb d_M_player_16 rfl (lv_at hl 1 rfl) ?_
    refine va_iald hx hb hK hP 4 0 rfl rfl (by first | assumption | exact kin (by decide) | ((rcases hs with rfl | rfl <;> exact kin (by decide)))) d_M_player_17 ?_
    refine lv_goto (tgt := 27) hx hb d_M_player_18 (by decide) ?_
    refine lv_istore_n (lv' := [(3, .int (σ 3 (side).toNatClampNeg)), (0, .ref (ad 0)), (1, .int side), (2, .int x)]) hx hb d_M_player_27 rfl hl (by decide) rfl (fun ls hl => ?_)
    refine lv_iconst (v := (0 : Int32)) hx hb d_M_player_28 (by decide) ?_
    refine lv_istore (lv' := [(4, .int (0 : Int32)), (3, .int (σ 3 (side).toNatClampNeg)), (0, .ref (ad 0)), (1, .int side), (2, .int x)]) hx hb d_M_player_29 hl (by decide) rfl (fun ls hl => ?_)
    refine lv_iconst (v := (0 : Int32)) hx hb d_M_player_31 (by decide) ?_
    refine lv_istore (lv' := [(5, .int (0 : Int32)), (4, .int (0 : Int32)), (3, .int (σ 3 (side).toNatClampNeg)), (0, .ref (ad 0)), (1, .int side), (2, .int x)]) hx hb d_M_player_32 hl (by decide) rfl (fun ls hl => ?_)
    exact loop34 4 0 (σ 3 (side).toNatClampNeg) (0 : Int32) ls rfl (lv_sub hl [0, 1, 2, 3, 4, 5] rfl) (by first | exact Or.inl rfl | exact Or.inr rfl | assumption) (by rw [f_M_player, if_neg q1]; rfl)

def f_M_missile_lp36 (σ : Nat → Nat → Int32) (side : Int32) (x : Int32) : Nat → Int32 → Int32 → Int32 → Int32
  | 0, i, sh, acc => acc
  | n + 1, i, sh, acc => (if sh = 0 then acc else (if i = (3 : Int32) then (if acc = 0 then (if (f_M_hasCopy σ side (64 : Int32)) = 0 then (f_M_missile_lp36 σ side x n (i + 1) sh (0 : Int32)) else (if (f_M_size (σ 0 (((17 : Int32) + side)).toNatClampNeg)) ≤ (f_M_behind x ((σ 1 (((2 : Int32) + side)).toNatClampNeg) + (64 : Int32))) then (f_M_missile_lp36 σ side x n (i + 1) sh (0 : Int32)) else (f_M_missile_lp36 σ side x n (i + 1) sh (1 : Int32)))) else (f_M_missile_lp36 σ side x n (i + 1) sh (1 : Int32))) else (if acc = 0 then (if (f_M_hasCopy σ side ((16 : Int32) * i)) = 0 then (f_M_missile_lp36 σ side x n (i + 1) sh (0 : Int32)) else (if (f_M_size (σ 0 (((17 : Int32) + side)).toNatClampNeg)) ≤ (f_M_behind x ((σ 1 (((2 : Int32) + side)).toNatClampNeg) + ((16 : Int32) * i))) then (f_M_missile_lp36 σ side x n (i + 1) sh (0 : Int32)) else (f_M_missile_lp36 σ side x n (i + 1) sh (1 : Int32)))) else (f_M_missile_lp36 σ side x n (i + 1) sh (1 : Int32)))))
theorem f_M_missile_lp36_z (σ : Nat → Nat → Int32) (side : Int32) (x : Int32) (i : Int32) (sh : Int32) (acc : Int32) : f_M_missile_lp36 σ side x 0 i sh acc = acc := rfl
theorem f_M_missile_lp36_s (σ : Nat → Nat → Int32) (side : Int32) (x : Int32) (n : Nat) (i : Int32) (sh : Int32) (acc : Int32) : f_M_missile_lp36 σ side x (n + 1) i sh acc = (if sh = 0 then acc else (if i = (3 : Int32) then (if acc = 0 then (if (f_M_hasCopy σ side (64 : Int32)) = 0 then (f_M_missile_lp36 σ side x n (i + 1) sh (0 : Int32)) else (if (f_M_size (σ 0 (((17 : Int32) + side)).toNatClampNeg)) ≤ (f_M_behind x ((σ 1 (((2 : Int32) + side)).toNatClampNeg) + (64 : Int32))) then (f_M_missile_lp36 σ side x n (i + 1) sh (0 : Int32)) else (f_M_missile_lp36 σ side x n (i + 1) sh (1 : Int32)))) else (f_M_missile_lp36 σ side x n (i + 1) sh (1 : Int32))) else (if acc = 0 then (if (f_M_hasCopy σ side ((16 : Int32) * i)) = 0 then (f_M_missile_lp36 σ side x n (i + 1) sh (0 : Int32)) else (if (f_M_size (σ 0 (((17 : Int32) + side)).toNatClampNeg)) ≤ (f_M_behind x ((σ 1 (((2 : Int32) + side)).toNatClampNeg) + ((16 : Int32) * i))) then (f_M_missile_lp36 σ side x n (i + 1) sh (0 : Int32)) else (f_M_missile_lp36 σ side x n (i + 1) sh (1 : Int32)))) else (f_M_missile_lp36 σ side x n (i + 1) sh (1 : Int32))))) := rfl

def f_M_missile (σ : Nat → Nat → Int32) (side : Int32) (x : Int32) : Int32 := (if (f_M_bit σ ((19 : Int32) + side) (1 : Int32)) = 0 then (f_M_missile_lp36 σ side x 4 (0 : Int32) (0 : Int32) (0 : Int32)) else (if (f_M_bit σ ((21 : Int32) + side) (1 : Int32)) = 0 then (f_M_missile_lp36 σ side x 4 (0 : Int32) (1 : Int32) (0 : Int32)) else (f_M_missile_lp36 σ side x 4 (0 : Int32) (0 : Int32) (0 : Int32))))

set_option maxRecDepth 100000 in
set_option maxHeartbeats 4000000 in
theorem c_M_missile (l : Launch) (D : va_G) (cA ad : Nat → Nat) (hap : kap 8 ad) (σ : Nat → Nat → Int32) (side : Int32) (x : Int32) (hs : side = 0 ∨ side = 1) : Met l y_M_missile w_M_missile ({ frames := 2, cells := 0, slots := 0, locals := 44 } : Room) (va_Pc [.ref (ad 0), .int side, .int x] (mPre D cA ad σ)) (vp_Si (fun v => v = f_M_missile σ side x)) 0 0 (fun _ => False) := by
  refine Met.ofW (cc := b_M_missile) (maxL := 7) (ret := (some .boolean)) (by decide) rfl ?_
  intro p e s m args below meth c s₁ B hml hv
  obtain ⟨rfl, hv⟩ := hv
  obtain ⟨hP, hK⟩ := hv
  have hx := B.exec
  have hb := B.bytes
  have hr := B.returns
  have hlocks := B.notSynchronized
  have hT : ∀ w ∈ TB, w.before ([.ref (ad 0), .int side, .int x] : List Value).toArray s = true := fun w h => atoms_spec (ws := w_M_missile) B.pre w (List.mem_cons_of_mem _ h)
  have hown : s.vm.findClass R_M = some m.cls := findClass_of_methodNamed B.named
  have hS : va_S (kA 8 ad) s.heap s.heap [] := va_S.rf
  have hl := lv_entry ([.ref (ad 0), .int side, .int x]) (n := 7) (Nat.le_of_ble_eq_true rfl)
  rw [lg_entry_eq]
  generalize (lg_sl ([.ref (ad 0), .int side, .int x]) ++ List.replicate (7 - (lg_sl ([.ref (ad 0), .int side, .int x])).length) Slot.unset).toArray = ls at hl ⊢
  have hl : lv_has ls 7 [(0, .ref (ad 0)), (1, .int side), (2, .int x)] := hl
  have loop36 : ∀ (n i : Nat) (sh : Int32) (acc : Int32) (ls : Array Slot), i + n = 4 → lv_has ls 7 [(5, .int (nI i)), (4, .int acc), (3, .int sh), (0, .ref (ad 0)), (1, .int side), (2, .int x)] → (acc = 0 ∨ acc = 1) → f_M_missile_lp36 σ side x n (nI i) sh acc = f_M_missile σ side x → W p l e (headSpec w_M_missile ({ frames := 2, cells := 0, slots := 0, locals := 44 } : Room)).room s m ([.ref (ad 0), .int side, .int x] : List Value).toArray below meth c s.heap [] 0 0 (MQ below (vp_Si (fun v => v = f_M_missile σ side x)) ([.ref (ad 0), .int side, .int x] : List Value).toArray s 0 0 (fun _ => False)) (F0 m 36 ls []) := by
    intro n
    induction n with
    | zero =>
      intro i sh acc ls hi hl hz_acc hg
      refine lv_iload hx hb d_M_missile_36 (lv_at hl 0 rfl) ?_
      refine lv_iconst (v := (4 : Int32)) hx hb d_M_missile_38 (by decide) ?_
      refine lv_icmp_ge (tgt := 122) hx hb d_M_missile_39 (by decide) (fun _ => ?_) (fun h9 => absurd (nI_le (a := 4) (b := i) (by omega) (by omega)) h9)
      refine lv_iload hx hb d_M_missile_122 (lv_at hl 1 rfl) ?_
      have e9 : acc = f_M_missile σ side x := by rw [← hg, f_M_missile_lp36_z]
      exact W.zret (v := acc) hx hb hr (kz_nar (by assumption)) (fun t ht hW => ⟨_, rfl, e9, ht⟩) (fun _ h => absurd h List.not_mem_nil) d_M_missile_124
    | succ n ih =>
      intro i sh acc ls hi hl hz_acc hg
      refine lv_iload hx hb d_M_missile_36 (lv_at hl 0 rfl) ?_
      refine lv_iconst (v := (4 : Int32)) hx hb d_M_missile_38 (by decide) ?_
      refine lv_icmp_ge (tgt := 122) hx hb d_M_missile_39 (by decide) (fun h9 => absurd h9 (nI_ge (a := i) (b := 4) (by omega) (by decide))) (fun _ => ?_)
      refine lv_iload_n hx hb d_M_missile_42 rfl (lv_at hl 2 rfl) ?_
      refine lv_if_eq (tgt := 122) hx hb d_M_missile_43 (by decide) (fun q1 => ?_) (fun q1 => ?_)
      · refine lv_iload hx hb d_M_missile_122 (lv_at hl 1 rfl) ?_
        have e9 : acc = f_M_missile σ side x := by rw [← hg, f_M_missile_lp36_s, if_pos q1]
        exact W.zret (v := acc) hx hb hr (kz_nar (by assumption)) (fun t ht hW => ⟨_, rfl, e9, ht⟩) (fun _ h => absurd h List.not_mem_nil) d_M_missile_124
      · refine lv_iload hx hb d_M_missile_46 (lv_at hl 0 rfl) ?_
        refine lv_iconst (v := (3 : Int32)) hx hb d_M_missile_48 (by decide) ?_
        refine lv_icmp_ne (tgt := 57) hx hb d_M_missile_49 (by decide) (fun q2 => ?_) (fun q2 => ?_)
        · refine lv_bipush (v := (16 : Int32)) hx hb d_M_missile_57 (by decide) ?_
          refine lv_iload hx hb d_M_missile_59 (lv_at hl 0 rfl) ?_
          refine lv_imul hx hb d_M_missile_61 ?_
          refine lv_istore (lv' := [(6, .int ((16 : Int32) * (nI i))), (5, .int (nI i)), (4, .int acc), (3, .int sh), (0, .ref (ad 0)), (1, .int side), (2, .int x)]) hx hb d_M_missile_62 hl (by decide) rfl (fun ls hl => ?_)
          refine lv_iload hx hb d_M_missile_64 (lv_at hl 2 rfl) ?_
          refine lv_if_ne (tgt := 109) hx hb d_M_missile_66 (by decide) (fun q3 => ?_) (fun q3 => ?_)
          · refine lv_iconst (v := (1 : Int32)) hx hb d_M_missile_109 (by decide) ?_
            refine lv_goto (tgt := 114) hx hb d_M_missile_110 (by decide) ?_
            refine lv_istore (lv' := [(4, .int (1 : Int32)), (6, .int ((16 : Int32) * (nI i))), (5, .int (nI i)), (3, .int sh), (0, .ref (ad 0)), (1, .int side), (2, .int x)]) hx hb d_M_missile_114 hl (by decide) rfl (fun ls hl => ?_)
            refine lv_iinc (v := (nI (i + 1))) (lv' := [(5, .int (nI (i + 1))), (4, .int (1 : Int32)), (6, .int ((16 : Int32) * (nI i))), (3, .int sh), (0, .ref (ad 0)), (1, .int side), (2, .int x)]) hx hb d_M_missile_116 hl (k := 2) rfl (by rw [nI_succ]; rfl) (by decide) rfl (fun ls hl => ?_)
            refine lv_goto (tgt := 36) hx hb d_M_missile_119 (by decide) ?_
            exact ih (i + 1) sh (1 : Int32) ls (by omega) (lv_sub hl [0, 1, 3, 4, 5, 6] rfl) (by first | exact Or.inl rfl | exact Or.inr rfl | assumption) (by rw [← hg, f_M_missile_lp36_s, if_neg q1, if_neg q2, if_neg q3, nI_succ])
          · refine lv_aload_n hx hb d_M_missile_69 rfl (lv_at hl 4 rfl) ?_
            refine lv_iload_n hx hb d_M_missile_70 rfl (lv_at hl 5 rfl) ?_
            refine lv_iload hx hb d_M_missile_71 (lv_at hl 0 rfl) ?_
            refine vp_callSi (va_Run.run (va_runV (As := [.int side, .int ((16 : Int32) * (nI i))]) (rest := []) ⟨hx, hb, hml, hown, hT⟩ (c_M_hasCopy l D cA ad hap σ side ((16 : Int32) * (nI i)) (by first | assumption | exact kin (by decide) | ((rcases hs with rfl | rfl <;> exact kin (by decide))))) (kCV 2 hT ml_M_82 mi_M_hasCopy ⟨Nat.le_of_ble_eq_true rfl, Nat.le_of_ble_eq_true rfl⟩) (mpreV hK hP) rfl rfl hl.1 rfl (lv_room (Nat.le_of_ble_eq_true rfl)) d_M_missile_73 ⟨Nat.le_of_ble_eq_true rfl, Nat.le_of_ble_eq_true rfl⟩)) (fun r9 e9 => ?_)
            subst e9
            refine lv_if_eq (tgt := 113) hx hb d_M_missile_76 (by decide) (fun q4 => ?_) (fun q4 => ?_)
            · refine lv_iconst (v := (0 : Int32)) hx hb d_M_missile_113 (by decide) ?_
              refine lv_istore (lv' := [(4, .int (0 : Int32)), (6, .int ((16 : Int32) * (nI i))), (5, .int (nI i)), (3, .int sh), (0, .ref (ad 0)), (1, .int side), (2, .int x)]) hx hb d_M_missile_114 hl (by decide) rfl (fun ls hl => ?_)
              refine lv_iinc (v := (nI (i + 1))) (lv' := [(5, .int (nI (i + 1))), (4, .int (0 : Int32)), (6, .int ((16 : Int32) * (nI i))), (3, .int sh), (0, .ref (ad 0)), (1, .int side), (2, .int x)]) hx hb d_M_missile_116 hl (k := 2) rfl (by rw [nI_succ]; rfl) (by decide) rfl (fun ls hl => ?_)
              refine lv_goto (tgt := 36) hx hb d_M_missile_119 (by decide) ?_
              exact ih (i + 1) sh (0 : Int32) ls (by omega) (lv_sub hl [0, 1, 3, 4, 5, 6] rfl) (by first | exact Or.inl rfl | exact Or.inr rfl | assumption) (by rw [← hg, f_M_missile_lp36_s, if_neg q1, if_neg q2, if_pos q3, if_pos q4, nI_succ])
            · refine lv_iload_n hx hb d_M_missile_79 rfl (lv_at hl 6 rfl) ?_
              refine lv_aload_n hx hb d_M_missile_80 rfl (lv_at hl 4 rfl) ?_
              refine va_get (D := D) (ci := 2) (v := .ref (ad 2)) (C := R_M) (T := F_M) (N := 17) hx hb hT in_M hown hK hP 0 rfl rfl 2 (by decide) (hT _ fl_M_13) (fun _ h9 => h9) rfl d_M_missile_81 ?_
              refine lv_iconst (v := (2 : Int32)) hx hb d_M_missile_84 (by decide) ?_
              refine lv_iload_n hx hb d_M_missile_85 rfl (lv_at hl 5 rfl) ?_
              refine lv_iadd hx hb d_M_missile_86 ?_
              refine va_iald hx hb hK hP 2 0 rfl rfl (by first | assumption | exact kin (by decide) | ((rcases hs with rfl | rfl <;> exact kin (by decide)))) d_M_missile_87 ?_
              refine lv_iload hx hb d_M_missile_88 (lv_at hl 0 rfl) ?_
              refine lv_iadd hx hb d_M_missile_90 ?_
              refine vp_callSi (va_Run.run (va_runS (As := [.int x, .int ((σ 1 (((2 : Int32) + side)).toNatClampNeg) + ((16 : Int32) * (nI i)))]) (rest := []) ⟨hx, hb, hml, hown, hT⟩ (c_M_behind l D cA ad hap σ x ((σ 1 (((2 : Int32) + side)).toNatClampNeg) + ((16 : Int32) * (nI i)))) (kCS 2 hT ml_M_78 ms_M_behind ⟨Nat.le_of_ble_eq_true rfl, Nat.le_of_ble_eq_true rfl⟩) (mpreS hK hP) rfl rfl hl.1 rfl (lv_room (Nat.le_of_ble_eq_true rfl)) d_M_missile_91 ⟨Nat.le_of_ble_eq_true rfl, Nat.le_of_ble_eq_true rfl⟩)) (fun r9 e9 => ?_)
              subst e9
              refine lv_aload_n hx hb d_M_missile_94 rfl (lv_at hl 4 rfl) ?_
              refine va_get (D := D) (ci := 2) (v := .ref (ad 1)) (C := R_M) (T := F_M) (N := 17) hx hb hT in_M hown hK hP 0 rfl rfl 1 (by decide) (hT _ fl_M_7) (fun _ h9 => h9) rfl d_M_missile_95 ?_
              refine lv_bipush (v := (17 : Int32)) hx hb d_M_missile_98 (by decide) ?_
              refine lv_iload_n hx hb d_M_missile_100 rfl (lv_at hl 5 rfl) ?_
              refine lv_iadd hx hb d_M_missile_101 ?_
              refine va_iald hx hb hK hP 1 0 rfl rfl (by first | assumption | exact kin (by decide) | ((rcases hs with rfl | rfl <;> exact kin (by decide)))) d_M_missile_102 ?_
              refine vp_callSi (va_Run.run (va_runS (As := [.int (σ 0 (((17 : Int32) + side)).toNatClampNeg)]) (rest := [.int (f_M_behind x ((σ 1 (((2 : Int32) + side)).toNatClampNeg) + ((16 : Int32) * (nI i))))]) ⟨hx, hb, hml, hown, hT⟩ (c_M_size l D cA ad hap σ (σ 0 (((17 : Int32) + side)).toNatClampNeg)) (kCS 1 hT ml_M_85 ms_M_size ⟨Nat.le_of_ble_eq_true rfl, Nat.le_of_ble_eq_true rfl⟩) (mpreS hK hP) rfl rfl hl.1 rfl (lv_room (Nat.le_of_ble_eq_true rfl)) d_M_missile_103 ⟨Nat.le_of_ble_eq_true rfl, Nat.le_of_ble_eq_true rfl⟩)) (fun r9 e9 => ?_)
              subst e9
              refine lv_icmp_ge (tgt := 113) hx hb d_M_missile_106 (by decide) (fun q5 => ?_) (fun q5 => ?_)
              · refine lv_iconst (v := (0 : Int32)) hx hb d_M_missile_113 (by decide) ?_
                refine lv_istore (lv' := [(4, .int (0 : Int32)), (6, .int ((16 : Int32) * (nI i))), (5, .int (nI i)), (3, .int sh), (0, .ref (ad 0)), (1, .int side), (2, .int x)]) hx hb d_M_missile_114 hl (by decide) rfl (fun ls hl => ?_)
                refine lv_iinc (v := (nI (i + 1))) (lv' := [(5, .int (nI (i + 1))), (4, .int (0 : Int32)), (6, .int ((16 : Int32) * (nI i))), (3, .int sh), (0, .ref (ad 0)), (1, .int side), (2, .int x)]) hx hb d_M_missile_116 hl (k := 2) rfl (by rw [nI_succ]; rfl) (by decide) rfl (fun ls hl => ?_)
                refine lv_goto (tgt := 36) hx hb d_M_missile_119 (by decide) ?_
                exact ih (i + 1) sh (0 : Int32) ls (by omega) (lv_sub hl [0, 1, 3, 4, 5, 6] rfl) (by first | exact Or.inl rfl | exact Or.inr rfl | assumption) (by rw [← hg, f_M_missile_lp36_s, if_neg q1, if_neg q2, if_pos q3, if_neg q4, if_pos q5, nI_succ])
              · refine lv_iconst (v := (1 : Int32)) hx hb d_M_missile_109 (by decide) ?_
                refine lv_goto (tgt := 114) hx hb d_M_missile_110 (by decide) ?_
                refine lv_istore (lv' := [(4, .int (1 : Int32)), (6, .int ((16 : Int32) * (nI i))), (5, .int (nI i)), (3, .int sh), (0, .ref (ad 0)), (1, .int side), (2, .int x)]) hx hb d_M_missile_114 hl (by decide) rfl (fun ls hl => ?_)
                refine lv_iinc (v := (nI (i + 1))) (lv' := [(5, .int (nI (i + 1))), (4, .int (1 : Int32)), (6, .int ((16 : Int32) * (nI i))), (3, .int sh), (0, .ref (ad 0)), (1, .int side), (2, .int x)]) hx hb d_M_missile_116 hl (k := 2) rfl (by rw [nI_succ]; rfl) (by decide) rfl (fun ls hl => ?_)
                refine lv_goto (tgt := 36) hx hb d_M_missile_119 (by decide) ?_
                exact ih (i + 1) sh (1 : Int32) ls (by omega) (lv_sub hl [0, 1, 3, 4, 5, 6] rfl) (by first | exact Or.inl rfl | exact Or.inr rfl | assumption) (by rw [← hg, f_M_missile_lp36_s, if_neg q1, if_neg q2, if_pos q3, if_neg q4, if_neg q5, nI_succ])
        · refine lv_bipush (v := (64 : Int32)) hx hb d_M_missile_52 (by decide) ?_
          refine lv_goto (tgt := 62) hx hb d_M_missile_54 (by decide) ?_
          refine lv_istore (lv' := [(6, .int (64 : Int32)), (5, .int (nI i)), (4, .int acc), (3, .int sh), (0, .ref (ad 0)), (1, .int side), (2, .int x)]) hx hb d_M_missile_62 hl (by decide) rfl (fun ls hl => ?_)
          refine lv_iload hx hb d_M_missile_64 (lv_at hl 2 rfl) ?_
          refine lv_if_ne (tgt := 109) hx hb d_M_missile_66 (by decide) (fun q6 => ?_) (fun q6 => ?_)
          · refine lv_iconst (v := (1 : Int32)) hx hb d_M_missile_109 (by decide) ?_
            refine lv_goto (tgt := 114) hx hb d_M_missile_110 (by decide) ?_
            refine lv_istore (lv' := [(4, .int (1 : Int32)), (6, .int (64 : Int32)), (5, .int (nI i)), (3, .int sh), (0, .ref (ad 0)), (1, .int side), (2, .int x)]) hx hb d_M_missile_114 hl (by decide) rfl (fun ls hl => ?_)
            refine lv_iinc (v := (nI (i + 1))) (lv' := [(5, .int (nI (i + 1))), (4, .int (1 : Int32)), (6, .int (64 : Int32)), (3, .int sh), (0, .ref (ad 0)), (1, .int side), (2, .int x)]) hx hb d_M_missile_116 hl (k := 2) rfl (by rw [nI_succ]; rfl) (by decide) rfl (fun ls hl => ?_)
            refine lv_goto (tgt := 36) hx hb d_M_missile_119 (by decide) ?_
            exact ih (i + 1) sh (1 : Int32) ls (by omega) (lv_sub hl [0, 1, 3, 4, 5, 6] rfl) (by first | exact Or.inl rfl | exact Or.inr rfl | assumption) (by rw [← hg, f_M_missile_lp36_s, if_neg q1, if_pos q2, if_neg q6, nI_succ])
          · refine lv_aload_n hx hb d_M_missile_69 rfl (lv_at hl 4 rfl) ?_
            refine lv_iload_n hx hb d_M_missile_70 rfl (lv_at hl 5 rfl) ?_
            refine lv_iload hx hb d_M_missile_71 (lv_at hl 0 rfl) ?_
            refine vp_callSi (va_Run.run (va_runV (As := [.int side, .int (64 : Int32)]) (rest := []) ⟨hx, hb, hml, hown, hT⟩ (c_M_hasCopy l D cA ad hap σ side (64 : Int32) (by first | assumption | exact kin (by decide) | ((rcases hs with rfl | rfl <;> exact kin (by decide))))) (kCV 2 hT ml_M_82 mi_M_hasCopy ⟨Nat.le_of_ble_eq_true rfl, Nat.le_of_ble_eq_true rfl⟩) (mpreV hK hP) rfl rfl hl.1 rfl (lv_room (Nat.le_of_ble_eq_true rfl)) d_M_missile_73 ⟨Nat.le_of_ble_eq_true rfl, Nat.le_of_ble_eq_true rfl⟩)) (fun r9 e9 => ?_)
            subst e9
            refine lv_if_eq (tgt := 113) hx hb d_M_missile_76 (by decide) (fun q7 => ?_) (fun q7 => ?_)
            · refine lv_iconst (v := (0 : Int32)) hx hb d_M_missile_113 (by decide) ?_
              refine lv_istore (lv' := [(4, .int (0 : Int32)), (6, .int (64 : Int32)), (5, .int (nI i)), (3, .int sh), (0, .ref (ad 0)), (1, .int side), (2, .int x)]) hx hb d_M_missile_114 hl (by decide) rfl (fun ls hl => ?_)
              refine lv_iinc (v := (nI (i + 1))) (lv' := [(5, .int (nI (i + 1))), (4, .int (0 : Int32)), (6, .int (64 : Int32)), (3, .int sh), (0, .ref (ad 0)), (1, .int side), (2, .int x)]) hx hb d_M_missile_116 hl (k := 2) rfl (by rw [nI_succ]; rfl) (by decide) rfl (fun ls hl => ?_)
              refine lv_goto (tgt := 36) hx hb d_M_missile_119 (by decide) ?_
              exact ih (i + 1) sh (0 : Int32) ls (by omega) (lv_sub hl [0, 1, 3, 4, 5, 6] rfl) (by first | exact Or.inl rfl | exact Or.inr rfl | assumption) (by rw [← hg, f_M_missile_lp36_s, if_neg q1, if_pos q2, if_pos q6, if_pos q7, nI_succ])
            · refine lv_iload_n hx hb d_M_missile_79 rfl (lv_at hl 6 rfl) ?_
              refine lv_aload_n hx hb d_M_missile_80 rfl (lv_at hl 4 rfl) ?_
              refine va_get (D := D) (ci := 2) (v := .ref (ad 2)) (C := R_M) (T := F_M) (N := 17) hx hb hT in_M hown hK hP 0 rfl rfl 2 (by decide) (hT _ fl_M_13) (fun _ h9 => h9) rfl d_M_missile_81 ?_
              refine lv_iconst (v := (2 : Int32)) hx hb d_M_missile_84 (by decide) ?_
              refine lv_iload_n hx hb d_M_missile_85 rfl (lv_at hl 5 rfl) ?_
              refine lv_iadd hx hb d_M_missile_86 ?_
              refine va_iald hx hb hK hP 2 0 rfl rfl (by first | assumption | exact kin (by decide) | ((rcases hs with rfl | rfl <;> exact kin (by decide)))) d_M_missile_87 ?_
              refine lv_iload hx hb d_M_missile_88 (lv_at hl 0 rfl) ?_
              refine lv_iadd hx hb d_M_missile_90 ?_
              refine vp_callSi (va_Run.run (va_runS (As := [.int x, .int ((σ 1 (((2 : Int32) + side)).toNatClampNeg) + (64 : Int32))]) (rest := []) ⟨hx, hb, hml, hown, hT⟩ (c_M_behind l D cA ad hap σ x ((σ 1 (((2 : Int32) + side)).toNatClampNeg) + (64 : Int32))) (kCS 2 hT ml_M_78 ms_M_behind ⟨Nat.le_of_ble_eq_true rfl, Nat.le_of_ble_eq_true rfl⟩) (mpreS hK hP) rfl rfl hl.1 rfl (lv_room (Nat.le_of_ble_eq_true rfl)) d_M_missile_91 ⟨Nat.le_of_ble_eq_true rfl, Nat.le_of_ble_eq_true rfl⟩)) (fun r9 e9 => ?_)
              subst e9
              refine lv_aload_n hx hb d_M_missile_94 rfl (lv_at hl 4 rfl) ?_
              refine va_get (D := D) (ci := 2) (v := .ref (ad 1)) (C := R_M) (T := F_M) (N := 17) hx hb hT in_M hown hK hP 0 rfl rfl 1 (by decide) (hT _ fl_M_7) (fun _ h9 => h9) rfl d_M_missile_95 ?_
              refine lv_bipush (v := (17 : Int32)) hx hb d_M_missile_98 (by decide) ?_
              refine lv_iload_n hx hb d_M_missile_100 rfl (lv_at hl 5 rfl) ?_
              refine lv_iadd hx hb d_M_missile_101 ?_
              refine va_iald hx hb hK hP 1 0 rfl rfl (by first | assumption | exact kin (by decide) | ((rcases hs with rfl | rfl <;> exact kin (by decide)))) d_M_missile_102 ?_
              refine vp_callSi (va_Run.run (va_runS (As := [.int (σ 0 (((17 : Int32) + side)).toNatClampNeg)]) (rest := [.int (f_M_behind x ((σ 1 (((2 : Int32) + side)).toNatClampNeg) + (64 : Int32)))]) ⟨hx, hb, hml, hown, hT⟩ (c_M_size l D cA ad hap σ (σ 0 (((17 : Int32) + side)).toNatClampNeg)) (kCS 1 hT ml_M_85 ms_M_size ⟨Nat.le_of_ble_eq_true rfl, Nat.le_of_ble_eq_true rfl⟩) (mpreS hK hP) rfl rfl hl.1 rfl (lv_room (Nat.le_of_ble_eq_true rfl)) d_M_missile_103 ⟨Nat.le_of_ble_eq_true rfl, Nat.le_of_ble_eq_true rfl⟩)) (fun r9 e9 => ?_)
              subst e9
              refine lv_icmp_ge (tgt := 113) hx hb d_M_missile_106 (by decide) (fun q8 => ?_) (fun q8 => ?_)
              · refine lv_iconst (v := (0 : Int32)) hx hb d_M_missile_113 (by decide) ?_
                refine lv_istore (lv' := [(4, .int (0 : Int32)), (6, .int (64 : Int32)), (5, .int (nI i)), (3, .int sh), (0, .ref (ad 0)), (1, .int side), (2, .int x)]) hx hb d_M_missile_114 hl (by decide) rfl (fun ls hl => ?_)
                refine lv_iinc (v := (nI (i + 1))) (lv' := [(5, .int (nI (i + 1))), (4, .int (0 : Int32)), (6, .int (64 : Int32)), (3, .int sh), (0, .ref (ad 0)), (1, .int side), (2, .int x)]) hx hb d_M_missile_116 hl (k := 2) rfl (by rw [nI_succ]; rfl) (by decide) rfl (fun ls hl => ?_)
                refine lv_goto (tgt := 36) hx hb d_M_missile_119 (by decide) ?_
                exact ih (i + 1) sh (0 : Int32) ls (by omega) (lv_sub hl [0, 1, 3, 4, 5, 6] rfl) (by first | exact Or.inl rfl | exact Or.inr rfl | assumption) (by rw [← hg, f_M_missile_lp36_s, if_neg q1, if_pos q2, if_pos q6, if_neg q7, if_pos q8, nI_succ])
              · refine lv_iconst (v := (1 : Int32)) hx hb d_M_missile_109 (by decide) ?_
                refine lv_goto (tgt := 114) hx hb d_M_missile_110 (by decide) ?_
                refine lv_istore (lv' := [(4, .int (1 : Int32)), (6, .int (64 : Int32)), (5, .int (nI i)), (3, .int sh), (0, .ref (ad 0)), (1, .int side), (2, .int x)]) hx hb d_M_missile_114 hl (by decide) rfl (fun ls hl => ?_)
                refine lv_iinc (v := (nI (i + 1))) (lv' := [(5, .int (nI (i + 1))), (4, .int (1 : Int32)), (6, .int (64 : Int32)), (3, .int sh), (0, .ref (ad 0)), (1, .int side), (2, .int x)]) hx hb d_M_missile_116 hl (k := 2) rfl (by rw [nI_succ]; rfl) (by decide) rfl (fun ls hl => ?_)
                refine lv_goto (tgt := 36) hx hb d_M_missile_119 (by decide) ?_
                exact ih (i + 1) sh (1 : Int32) ls (by omega) (lv_sub hl [0, 1, 3, 4, 5, 6] rfl) (by first | exact Or.inl rfl | exact Or.inr rfl | assumption) (by rw [← hg, f_M_missile_lp36_s, if_neg q1, if_pos q2, if_pos q6, if_neg q7, if_neg q8, nI_succ])
  refine lv_aload_n hx hb d_M_missile_0 rfl (lv_at hl 0 rfl) ?_
  refine lv_bipush (v := (19 : Int32)) hx hb d_M_missile_1 (by decide) ?_
  refine lv_iload_n hx hb d_M_missile_3 rfl (lv_at hl 1 rfl) ?_
  refine lv_iadd hx hb d_M_missile_4 ?_
  refine lv_iconst (v := (1 : Int32)) hx hb d_M_missile_5 (by decide) ?_
  refine vp_callSi (va_Run.run (va_runV (As := [.int ((19 : Int32) + side), .int (1 : Int32)]) (rest := []) ⟨hx, hb, hml, hown, hT⟩ (c_M_bit l D cA ad hap σ ((19 : Int32) + side) (1 : Int32) (by first | assumption | exact kin (by decide) | ((rcases hs with rfl | rfl <;> exact kin (by decide))))) (kCV 2 hT ml_M_43 mi_M_bit ⟨Nat.le_of_ble_eq_true rfl, Nat.le_of_ble_eq_true rfl⟩) (mpreV hK hP) rfl rfl hl.1 rfl (lv_room (Nat.le_of_ble_eq_true rfl)) d_M_missile_6 ⟨Nat.le_of_ble_eq_true rfl, Nat.le_of_ble_eq_true rfl⟩)) (fun r9 e9 => ?_)
  subst e9
  refine lv_if_eq (tgt := 28) hx hb d_M_missile_9 (by decide) (fun q1 => ?_) (fun q1 => ?_)
  · refine lv_iconst (v := (0 : Int32)) hx hb d_M_missile_28 (by decide) ?_
    refine lv_istore_n (lv' := [(3, .int (0 : Int32)), (0, .ref (ad 0)), (1, .int side), (2, .int x)]) hx hb d_M_missile_29 rfl hl (by decide) rfl (fun ls hl => ?_)
    refine lv_iconst (v := (0 : Int32)) hx hb d_M_missile_30 (by decide) ?_
    refine lv_istore (lv' := [(4, .int (0 : Int32)), (3, .int (0 : Int32)), (0, .ref (ad 0)), (1, .int side), (2, .int x)]) hx hb d_M_missile_31 hl (by decide) rfl (fun ls hl => ?_)
    refine lv_iconst (v := (0 : Int32)) hx hb d_M_missile_33 (by decide) ?_
    refine lv_istore (lv' := [(5, .int (0 : Int32)), (4, .int (0 : Int32)), (3, .int (0 : Int32)), (0, .ref (ad 0)), (1, .int side), (2, .int x)]) hx hb d_M_missile_34 hl (by decide) rfl (fun ls hl => ?_)
    exact loop36 4 0 (0 : Int32) (0 : Int32) ls rfl (lv_sub hl [0, 1, 2, 3, 4, 5] rfl) (by first | exact Or.inl rfl | exact Or.inr rfl | assumption) (by rw [f_M_missile, if_pos q1]; rfl)
  · refine lv_aload_n hx hb d_M_missile_12 rfl (lv_at hl 0 rfl) ?_
    refine lv_bipush (v := (21 : Int32)) hx hb d_M_missile_13 (by decide) ?_
    refine lv_iload_n hx hb d_M_missile_15 rfl (lv_at hl 1 rfl) ?_
    refine lv_iadd hx hb d_M_missile_16 ?_
    refine lv_iconst (v := (1 : Int32)) hx hb d_M_missile_17 (by decide) ?_
    refine vp_callSi (va_Run.run (va_runV (As := [.int ((21 : Int32) + side), .int (1 : Int32)]) (rest := []) ⟨hx, hb, hml, hown, hT⟩ (c_M_bit l D cA ad hap σ ((21 : Int32) + side) (1 : Int32) (by first | assumption | exact kin (by decide) | ((rcases hs with rfl | rfl <;> exact kin (by decide))))) (kCV 2 hT ml_M_43 mi_M_bit ⟨Nat.le_of_ble_eq_true rfl, Nat.le_of_ble_eq_true rfl⟩) (mpreV hK hP) rfl rfl hl.1 rfl (lv_room (Nat.le_of_ble_eq_true rfl)) d_M_missile_18 ⟨Nat.le_of_ble_eq_true rfl, Nat.le_of_ble_eq_true rfl⟩)) (fun r9 e9 => ?_)
    subst e9
    refine lv_if_ne (tgt := 28) hx hb d_M_missile_21 (by decide) (fun q2 => ?_) (fun q2 => ?_)
    · refine lv_iconst (v := (0 : Int32)) hx hb d_M_missile_28 (by decide) ?_
      refine lv_istore_n (lv' := [(3, .int (0 : Int32)), (0, .ref (ad 0)), (1, .int side), (2, .int x)]) hx hb d_M_missile_29 rfl hl (by decide) rfl (fun ls hl => ?_)
      refine lv_iconst (v := (0 : Int32)) hx hb d_M_missile_30 (by decide) ?_
      refine lv_istore (lv' := [(4, .int (0 : Int32)), (3, .int (0 : Int32)), (0, .ref (ad 0)), (1, .int side), (2, .int x)]) hx hb d_M_missile_31 hl (by decide) rfl (fun ls hl => ?_)
      refine lv_iconst (v := (0 : Int32)) hx hb d_M_missile_33 (by decide) ?_
      refine lv_istore (lv' := [(5, .int (0 : Int32)), (4, .int (0 : Int32)), (3, .int (0 : Int32)), (0, .ref (ad 0)), (1, .int side), (2, .int x)]) hx hb d_M_missile_34 hl (by decide) rfl (fun ls hl => ?_)
      exact loop36 4 0 (0 : Int32) (0 : Int32) ls rfl (lv_sub hl [0, 1, 2, 3, 4, 5] rfl) (by first | exact Or.inl rfl | exact Or.inr rfl | assumption) (by rw [f_M_missile, if_neg q1, if_neg q2]; rfl)
    · refine lv_iconst (v := (1 : Int32)) hx hb d_M_missile_24 (by decide) ?_
      refine lv_goto (tgt := 29) hx hb d_M_missile_25 (by decide) ?_
      refine lv_istore_n (lv' := [(3, .int (1 : Int32)), (0, .ref (ad 0)), (1, .int side), (2, .int x)]) hx hb d_M_missile_29 rfl hl (by decide) rfl (fun ls hl => ?_)
      refine lv_iconst (v := (0 : Int32)) hx hb d_M_missile_30 (by decide) ?_
      refine lv_istore (lv' := [(4, .int (0 : Int32)), (3, .int (1 : Int32)), (0, .ref (ad 0)), (1, .int side), (2, .int x)]) hx hb d_M_missile_31 hl (by decide) rfl (fun ls hl => ?_)
      refine lv_iconst (v := (0 : Int32)) hx hb d_M_missile_33 (by decide) ?_
      refine lv_istore (lv' := [(5, .int (0 : Int32)), (4, .int (0 : Int32)), (3, .int (1 : Int32)), (0, .ref (ad 0)), (1, .int side), (2, .int x)]) hx hb d_M_missile_34 hl (by decide) rfl (fun ls hl => ?_)
      exact loop36 4 0 (1 : Int32) (0 : Int32) ls rfl (lv_sub hl [0, 1, 2, 3, 4, 5] rfl) (by first | exact Or.inl rfl | exact Or.inr rfl | assumption) (by rw [f_M_missile, if_neg q1, if_pos q2]; rfl)

theorem z_M_player_lp (σ : Nat → Nat → Int32) (side x : Int32) (n : Nat) : ∀ (i sh acc : Int32), (acc = 0 ∨ acc = 1) → f_M_player_lp34 σ side x n i sh acc = 0 ∨ f_M_player_lp34 σ side x n i sh acc = 1 := by
  induction n with
  | zero => intro i sh acc h; rw [f_M_player_lp34_z]; exact h
  | succ n ih =>
    intro i sh acc h
    rw [f_M_player_lp34_s]
    repeat' split
    all_goals first | exact ih _ _ _ h | exact ih _ _ _ (Or.inl rfl) | exact ih _ _ _ (Or.inr rfl)
theorem z_M_player (σ : Nat → Nat → Int32) (side x : Int32) : f_M_player σ side x = 0 ∨ f_M_player σ side x = 1 := by
  rw [f_M_player]
  repeat' split
  all_goals exact z_M_player_lp _ _ _ _ _ _ _ (Or.inl rfl)
theorem z_M_missile_lp (σ : Nat → Nat → Int32) (side x : Int32) (n : Nat) : ∀ (i sh acc : Int32), (acc = 0 ∨ acc = 1) → f_M_missile_lp36 σ side x n i sh acc = 0 ∨ f_M_missile_lp36 σ side x n i sh acc = 1 := by
  induction n with
  | zero => intro i sh acc h; rw [f_M_missile_lp36_z]; exact h
  | succ n ih =>
    intro i sh acc h
    rw [f_M_missile_lp36_s]
    repeat' split
    all_goals first | exact h | exact ih _ _ _ h | exact ih _ _ _ (Or.inl rfl) | exact ih _ _ _ (Or.inr rfl)
theorem z_M_missile (σ : Nat → Nat → Int32) (side x : Int32) : f_M_missile σ side x = 0 ∨ f_M_missile σ side x = 1 := by
  rw [f_M_missile]
  repeat' split
  all_goals exact z_M_missile_lp _ _ _ _ _ _ _ (Or.inl rfl)
