set_option maxRecDepth 100000 in
set_option maxHeartbeats 4000000 in
theorem q_write {p : Program} {l : Launch} {e : Env} {s : State} {m : MethodId} {below : List Frame} {meth : Method} {c : Code} {b L : Nat} {xs : Nat → Int32} {D : va_G} {cA ad am t : Nat → Nat} {Q : State → Prop} {j : Nat} (hC : LC p l s m c b L xs D cA ad am t) {H : Heap} {locs : List Loc} {σ μ : Nat → Nat → Int32} {f : Nat → Int64} {ls : Array Slot} (hI : LI D cA ad am s H locs σ μ f) (hj : 3 * j + 3 ≤ L) (hL : L ≤ 1536) (hl : lv_has ls 7 (lvs b ad am (nI (3 * j)))) (kk : LG p l e s m below meth c b D cA ad am j Q) : W p l e room_1 s m #[Value.ref b] below meth c H locs (16 + j) (480 + 6 * j) Q (F0 m 88 ls []) := by
  have hx := hC.1
  have hb := hC.2.1
  have hT := hC.2.2.2.2.1
  have hS := hI.2.2.2
  have i1 : vp_in (nI (3 * j) + (1 : Int32)) L := by
    rw [nI_1]
    exact vp_in_nI (by omega) (by omega)
  have i2 : vp_in (nI (3 * j) + (2 : Int32)) L := by
    show vp_in (nI (3 * j) + nI 2) L
    rw [nI_add]
    exact vp_in_nI (by omega) (by omega)
  obtain ⟨k, σ', hH, hR, hk⟩ := L_write l hC.hl0 D cA ad t hC.hap hI.2.2.1 f (xs ((nI (3 * j)) + (1 : Int32)).toNatClampNeg) (xs ((nI (3 * j)) + (2 : Int32)).toNatClampNeg)
  refine lv_aload_n hx hb d_law_88 rfl (lv_at hl 3 rfl) ?_
  refine lv_aload_n hx hb d_law_89 rfl (lv_at hl 4 rfl) ?_
  refine lv_iload hx hb d_law_90 (lv_at hl 0 rfl) ?_
  refine lv_iconst (v := (1 : Int32)) hx hb d_law_92 (by decide) ?_
  refine lv_iadd hx hb d_law_93 ?_
  refine va_sld hx hb hC.hX hC.hbl hC.hbA hS i1 d_law_94 ?_
  refine lv_aload_n hx hb d_law_95 rfl (lv_at hl 4 rfl) ?_
  refine lv_iload hx hb d_law_96 (lv_at hl 0 rfl) ?_
  refine lv_iconst (v := (2 : Int32)) hx hb d_law_98 (by decide) ?_
  refine lv_iadd hx hb d_law_99 ?_
  refine va_sld hx hb hC.hX hC.hbl hC.hbA hS i2 d_law_100 ?_
  refine kciM (vx_runSW (As := [.ref (ad 0), .int (xs ((nI (3 * j)) + (1 : Int32)).toNatClampNeg), .int (xs ((nI (3 * j)) + (2 : Int32)).toNatClampNeg)]) (rest := []) hC.fix hH (kCSW 3 hT ml_L_45 wc_L_write wi_L wst_L_write ⟨by decide +kernel, by decide +kernel, by decide +kernel⟩ ⟨Nat.le_of_ble_eq_true rfl, Nat.le_of_ble_eq_true rfl⟩) (lpreS hC hI) rfl rfl hl.1 rfl (lv_room (Nat.le_of_ble_eq_true rfl)) d_law_101 ⟨by show 16 + j + 1 ≤ 1050; omega, by show 480 + 6 * j + 6 ≤ 8732; omega⟩) hS (fun q _ h => hC.inB q h) (fun q h => hC.inB q h) (fun H1 locs1 hP1 hz1 hq1 hS1 => ?_)
  obtain ⟨hP2, hM2⟩ := hI.sB hC hP1 hq1
  refine lv_istore (lv' := [(5, .int k), (4, .int (nI (3 * j))), (3, .ref (ad 7)), (2, .ref (am 0)), (1, .ref (ad 0)), (0, .ref b)]) hx hb d_law_104 hl (by decide) rfl (fun ls hl => ?_)
  refine lv_aload_n hx hb d_law_106 rfl (lv_at hl 3 rfl) ?_
  refine lv_aload_n hx hb d_law_107 rfl (lv_at hl 5 rfl) ?_
  refine lv_iload hx hb d_law_108 (lv_at hl 1 rfl) ?_
  refine lv_iconst (v := (1 : Int32)) hx hb d_law_110 (by decide) ?_
  refine lv_iadd hx hb d_law_111 ?_
  refine va_sld hx hb hC.hX hC.hbl hC.hbA hS1 i1 d_law_112 ?_
  refine lv_aload_n hx hb d_law_113 rfl (lv_at hl 5 rfl) ?_
  refine lv_iload hx hb d_law_114 (lv_at hl 1 rfl) ?_
  refine lv_iconst (v := (2 : Int32)) hx hb d_law_116 (by decide) ?_
  refine lv_iadd hx hb d_law_117 ?_
  refine va_sld hx hb hC.hX hC.hbl hC.hbA hS1 i2 d_law_118 ?_
  refine kcvJ (va_runV (As := [.int (xs ((nI (3 * j)) + (1 : Int32)).toNatClampNeg), .int (xs ((nI (3 * j)) + (2 : Int32)).toNatClampNeg)]) (rest := []) hC.fix (c_M_write l D cA am hC.hapm μ (xs ((nI (3 * j)) + (1 : Int32)).toNatClampNeg) (xs ((nI (3 * j)) + (2 : Int32)).toNatClampNeg) hI.2.2.1.bl) (kCV 2 hT ml_L_50 mi_M_write ⟨Nat.le_of_ble_eq_true rfl, Nat.le_of_ble_eq_true rfl⟩) (mpreV hC.hK hM2) rfl rfl hl.1 rfl (lv_room (Nat.le_of_ble_eq_true rfl)) d_law_119 ⟨by show 16 + j + 1 + 0 ≤ 1050; omega, by show 480 + 6 * j + 6 + 0 ≤ 8732; omega⟩) hS1 (fun q _ h => hC.inM q h) (fun q h => hC.inM q h) (fun H3 locs3 hM3 hz3 hq3 hS3 => ?_)
  obtain ⟨hP4, hM4⟩ := LI.sM hC hP2 hM3 hq3
  refine lv_aload_n hx hb d_law_122 rfl (lv_at hl 3 rfl) ?_
  refine vp_callSi (va_Run.run (va_runV (As := []) (rest := []) hC.fix (c_M_thrown l D cA am hC.hapm (f_M_write μ (xs ((nI (3 * j)) + (1 : Int32)).toNatClampNeg) (xs ((nI (3 * j)) + (2 : Int32)).toNatClampNeg))) (kCV 0 hT ml_L_51 mi_M_thrown ⟨Nat.le_of_ble_eq_true rfl, Nat.le_of_ble_eq_true rfl⟩) (mpreV hC.hK hM4) rfl rfl hl.1 rfl (lv_room (Nat.le_of_ble_eq_true rfl)) d_law_123 ⟨by show 16 + j + 1 + 0 ≤ 1050; omega, by show 480 + 6 * j + 6 + 0 ≤ 8732; omega⟩)) (fun r9 e9 => ?_)
  rw [hk] at e9
  have e8 := e9.symm
  subst e8
  refine lv_iload hx hb d_law_126 (lv_at hl 0 rfl) ?_
  refine lv_icmp_eq (tgt := 133) hx hb d_law_128 (by decide) (fun _ => ?_) (fun h9 => absurd rfl h9)
  refine lv_goto (tgt := 591) hx hb d_law_133 (by decide) ?_
  refine W.widen (k := 16 + (j + 1)) (n := 480 + 6 * (j + 1)) (by omega) (by omega) ?_
  exact kk H3 locs3 σ' (f_M_write μ (xs ((nI (3 * j)) + (1 : Int32)).toNatClampNeg) (xs ((nI (3 * j)) + (2 : Int32)).toNatClampNeg)) f ls ⟨hP4, hM4, hR, hS3⟩ (lv_sub hl [1, 2, 3, 4, 5] rfl)

set_option maxRecDepth 100000 in
set_option maxHeartbeats 4000000 in
theorem q_clocks {p : Program} {l : Launch} {e : Env} {s : State} {m : MethodId} {below : List Frame} {meth : Method} {c : Code} {b L : Nat} {xs : Nat → Int32} {D : va_G} {cA ad am t : Nat → Nat} {Q : State → Prop} {j : Nat} (hC : LC p l s m c b L xs D cA ad am t) {H : Heap} {locs : List Loc} {σ μ : Nat → Nat → Int32} {f : Nat → Int64} {ls : Array Slot} (hI : LI D cA ad am s H locs σ μ f) (hj : 3 * j + 3 ≤ L) (hL : L ≤ 1536) (hl : lv_has ls 7 (lvs b ad am (nI (3 * j)))) (kk : LG p l e s m below meth c b D cA ad am j Q) : W p l e room_1 s m #[Value.ref b] below meth c H locs (16 + j) (480 + 6 * j) Q (F0 m 136 ls []) := by
  have hx := hC.1
  have hb := hC.2.1
  have hT := hC.2.2.2.2.1
  have hS := hI.2.2.2
  have i1 : vp_in (nI (3 * j) + (1 : Int32)) L := by
    rw [nI_1]
    exact vp_in_nI (by omega) (by omega)
  have i2 : vp_in (nI (3 * j) + (2 : Int32)) L := by
    show vp_in (nI (3 * j) + nI 2) L
    rw [nI_add]
    exact vp_in_nI (by omega) (by omega)
  obtain ⟨k, σ', f', z, μ', hH, hMM, hR, hk, hz9⟩ := L_clocks l hC.hl0 D cA ad am t hC.hap hC.hapm hI.2.2.1 f (xs ((nI (3 * j)) + (1 : Int32)).toNatClampNeg)
  refine lv_aload_n hx hb d_law_136 rfl (lv_at hl 3 rfl) ?_
  refine lv_aload_n hx hb d_law_137 rfl (lv_at hl 4 rfl) ?_
  refine lv_iload hx hb d_law_138 (lv_at hl 0 rfl) ?_
  refine lv_iconst (v := (1 : Int32)) hx hb d_law_140 (by decide) ?_
  refine lv_iadd hx hb d_law_141 ?_
  refine va_sld hx hb hC.hX hC.hbl hC.hbA hS i1 d_law_142 ?_
  refine lv_aload_n hx hb d_law_143 rfl (lv_at hl 1 rfl) ?_
  refine kciM (vx_runSW (As := [.ref (ad 0), .int (xs ((nI (3 * j)) + (1 : Int32)).toNatClampNeg), .ref (ad 7)]) (rest := []) hC.fix hH (kCSW 3 hT ml_L_55 wc_L_clocks wi_L wst_L_clocks ⟨by decide +kernel, by decide +kernel, by decide +kernel⟩ ⟨Nat.le_of_ble_eq_true rfl, Nat.le_of_ble_eq_true rfl⟩) (lpreS hC hI) rfl rfl hl.1 rfl (lv_room (Nat.le_of_ble_eq_true rfl)) d_law_144 ⟨by show 16 + j + 1 ≤ 1050; omega, by show 480 + 6 * j + 6 ≤ 8732; omega⟩) hS (fun q _ h => hC.inB q h) (fun q h => hC.inB q h) (fun H1 locs1 hP1 hz1 hq1 hS1 => ?_)
  obtain ⟨hP2, hM2⟩ := hI.sB hC hP1 hq1
  refine lv_istore (lv' := [(5, .int k), (4, .int (nI (3 * j))), (3, .ref (ad 7)), (2, .ref (am 0)), (1, .ref (ad 0)), (0, .ref b)]) hx hb d_law_147 hl (by decide) rfl (fun ls hl => ?_)
  refine lv_aload_n hx hb d_law_149 rfl (lv_at hl 3 rfl) ?_
  refine lv_aload_n hx hb d_law_150 rfl (lv_at hl 5 rfl) ?_
  refine lv_iload hx hb d_law_151 (lv_at hl 1 rfl) ?_
  refine lv_iconst (v := (1 : Int32)) hx hb d_law_153 (by decide) ?_
  refine lv_iadd hx hb d_law_154 ?_
  refine va_sld hx hb hC.hX hC.hbl hC.hbA hS1 i1 d_law_155 ?_
  refine kciJ (va_runV (As := [.int (xs ((nI (3 * j)) + (1 : Int32)).toNatClampNeg)]) (rest := []) hC.fix hMM (kCV 1 hT ml_L_58 mi_M_clocks ⟨Nat.le_of_ble_eq_true rfl, Nat.le_of_ble_eq_true rfl⟩) (mpreV hC.hK hM2) rfl rfl hl.1 rfl (lv_room (Nat.le_of_ble_eq_true rfl)) d_law_156 ⟨by show 16 + j + 1 + 0 ≤ 1050; omega, by show 480 + 6 * j + 6 + 0 ≤ 8732; omega⟩) hS1 (fun q _ h => hC.inM q h) (fun q h => hC.inM q h) (fun H3 locs3 hM3 hz3 hq3 hS3 => ?_)
  obtain ⟨hP4, hM4⟩ := LI.sM hC hP2 hM3 hq3
  refine lv_istore (lv' := [(6, .int z), (5, .int k), (4, .int (nI (3 * j))), (3, .ref (ad 7)), (2, .ref (am 0)), (1, .ref (ad 0)), (0, .ref b)]) hx hb d_law_159 hl (by decide) rfl (fun ls hl => ?_)
  refine lv_aload_n hx hb d_law_161 rfl (lv_at hl 4 rfl) ?_
  refine vp_callSi (va_Run.run (va_runV (As := []) (rest := []) hC.fix (c_M_thrown l D cA am hC.hapm μ') (kCV 0 hT ml_L_51 mi_M_thrown ⟨Nat.le_of_ble_eq_true rfl, Nat.le_of_ble_eq_true rfl⟩) (mpreV hC.hK hM4) rfl rfl hl.1 rfl (lv_room (Nat.le_of_ble_eq_true rfl)) d_law_162 ⟨by show 16 + j + 1 + 0 ≤ 1050; omega, by show 480 + 6 * j + 6 + 0 ≤ 8732; omega⟩)) (fun r9 e9 => ?_)
  rw [hk] at e9
  have e8 := e9.symm
  subst e8
  refine lv_iload hx hb d_law_165 (lv_at hl 1 rfl) ?_
  refine lv_icmp_eq (tgt := 172) hx hb d_law_167 (by decide) (fun _ => ?_) (fun h9 => absurd rfl h9)
  refine lv_iload hx hb d_law_172 (lv_at hl 1 rfl) ?_
  refine lv_if_ne (tgt := 189) hx hb d_law_174 (by decide) (fun _ => ?_) (fun h9 => ?_)
  · refine lv_goto (tgt := 591) hx hb d_law_189 (by decide) ?_
    refine W.widen (k := 16 + (j + 1)) (n := 480 + 6 * (j + 1)) (by omega) (by omega) ?_
    exact kk H3 locs3 σ' μ' f' ls ⟨hP4, hM4, hR, hS3⟩ (lv_sub hl [2, 3, 4, 5, 6] rfl)
  · have hk0 : k = 0 := h9
    refine lv_aload_n hx hb d_law_177 rfl (lv_at hl 3 rfl) ?_
    refine lv_iconst (v := (0 : Int32)) hx hb d_law_178 (by decide) ?_
    refine va_lald (D := D) hx hb hC.hK hP4 7 2 rfl rfl (kin (by decide)) d_law_179 ?_
    refine lv_iload hx hb d_law_180 (lv_at hl 0 rfl) ?_
    refine lv_i2l (v := z.toInt64) hx hb d_law_182 rfl ?_
    refine W.lcmp hx hb d_law_183 ?_
    rw [lcmp0 (show f' (0 : Int32).toNatClampNeg = _ from hz9 hk0)]
    refine lv_if_eq (tgt := 189) hx hb d_law_184 (by decide) (fun _ => ?_) (fun h8 => absurd rfl h8)
    refine lv_goto (tgt := 591) hx hb d_law_189 (by decide) ?_
    refine W.widen (k := 16 + (j + 1)) (n := 480 + 6 * (j + 1)) (by omega) (by omega) ?_
    exact kk H3 locs3 σ' μ' f' ls ⟨hP4, hM4, hR, hS3⟩ (lv_sub hl [2, 3, 4, 5, 6] rfl)

set_option maxRecDepth 100000 in
set_option maxHeartbeats 4000000 in
theorem q_pixel {p : Program} {l : Launch} {e : Env} {s : State} {m : MethodId} {below : List Frame} {meth : Method} {c : Code} {b L : Nat} {xs : Nat → Int32} {D : va_G} {cA ad am t : Nat → Nat} {Q : State → Prop} {j : Nat} (hC : LC p l s m c b L xs D cA ad am t) {H : Heap} {locs : List Loc} {σ μ : Nat → Nat → Int32} {f : Nat → Int64} {ls : Array Slot} (hI : LI D cA ad am s H locs σ μ f) (hj : 3 * j + 3 ≤ L) (hL : L ≤ 1536) (hl : lv_has ls 7 (lvs b ad am (nI (3 * j)))) (kk : LG p l e s m below meth c b D cA ad am j Q) : W p l e room_1 s m #[Value.ref b] below meth c H locs (16 + j) (480 + 6 * j) Q (F0 m 205 ls []) := by
  have hx := hC.1
  have hb := hC.2.1
  have hT := hC.2.2.2.2.1
  have hS := hI.2.2.2
  have i1 : vp_in (nI (3 * j) + (1 : Int32)) L := by
    rw [nI_1]
    exact vp_in_nI (by omega) (by omega)
  have i2 : vp_in (nI (3 * j) + (2 : Int32)) L := by
    show vp_in (nI (3 * j) + nI 2) L
    rw [nI_add]
    exact vp_in_nI (by omega) (by omega)
  obtain ⟨k, σ', f', z, μ', hH, hMM, hR, hk, hz9⟩ := L_pixel l hC.hl0 D cA ad am t hC.hap hC.hapm hI.2.2.1 f (xs ((nI (3 * j)) + (1 : Int32)).toNatClampNeg)
  refine lv_aload_n hx hb d_law_205 rfl (lv_at hl 3 rfl) ?_
  refine lv_aload_n hx hb d_law_206 rfl (lv_at hl 4 rfl) ?_
  refine lv_iload hx hb d_law_207 (lv_at hl 0 rfl) ?_
  refine lv_iconst (v := (1 : Int32)) hx hb d_law_209 (by decide) ?_
  refine lv_iadd hx hb d_law_210 ?_
  refine va_sld hx hb hC.hX hC.hbl hC.hbA hS i1 d_law_211 ?_
  refine lv_aload_n hx hb d_law_212 rfl (lv_at hl 1 rfl) ?_
  refine kciM (vx_runSW (As := [.ref (ad 0), .int (xs ((nI (3 * j)) + (1 : Int32)).toNatClampNeg), .ref (ad 7)]) (rest := []) hC.fix hH (kCSW 3 hT ml_L_63 wc_L_pixel wi_L wst_L_pixel ⟨by decide +kernel, by decide +kernel, by decide +kernel⟩ ⟨Nat.le_of_ble_eq_true rfl, Nat.le_of_ble_eq_true rfl⟩) (lpreS hC hI) rfl rfl hl.1 rfl (lv_room (Nat.le_of_ble_eq_true rfl)) d_law_213 ⟨by show 16 + j + 1 ≤ 1050; omega, by show 480 + 6 * j + 6 ≤ 8732; omega⟩) hS (fun q _ h => hC.inB q h) (fun q h => hC.inB q h) (fun H1 locs1 hP1 hz1 hq1 hS1 => ?_)
  obtain ⟨hP2, hM2⟩ := hI.sB hC hP1 hq1
  refine lv_istore (lv' := [(5, .int k), (4, .int (nI (3 * j))), (3, .ref (ad 7)), (2, .ref (am 0)), (1, .ref (ad 0)), (0, .ref b)]) hx hb d_law_216 hl (by decide) rfl (fun ls hl => ?_)
  refine lv_aload_n hx hb d_law_218 rfl (lv_at hl 3 rfl) ?_
  refine lv_aload_n hx hb d_law_219 rfl (lv_at hl 5 rfl) ?_
  refine lv_iload hx hb d_law_220 (lv_at hl 1 rfl) ?_
  refine lv_iconst (v := (1 : Int32)) hx hb d_law_222 (by decide) ?_
  refine lv_iadd hx hb d_law_223 ?_
  refine va_sld hx hb hC.hX hC.hbl hC.hbA hS1 i1 d_law_224 ?_
  refine kciJ (va_runV (As := [.int (xs ((nI (3 * j)) + (1 : Int32)).toNatClampNeg)]) (rest := []) hC.fix hMM (kCV 1 hT ml_L_65 mi_M_pixel ⟨Nat.le_of_ble_eq_true rfl, Nat.le_of_ble_eq_true rfl⟩) (mpreV hC.hK hM2) rfl rfl hl.1 rfl (lv_room (Nat.le_of_ble_eq_true rfl)) d_law_225 ⟨by show 16 + j + 1 + 0 ≤ 1050; omega, by show 480 + 6 * j + 6 + 0 ≤ 8732; omega⟩) hS1 (fun q _ h => hC.inM q h) (fun q h => hC.inM q h) (fun H3 locs3 hM3 hz3 hq3 hS3 => ?_)
  obtain ⟨hP4, hM4⟩ := LI.sM hC hP2 hM3 hq3
  refine lv_istore (lv' := [(6, .int z), (5, .int k), (4, .int (nI (3 * j))), (3, .ref (ad 7)), (2, .ref (am 0)), (1, .ref (ad 0)), (0, .ref b)]) hx hb d_law_228 hl (by decide) rfl (fun ls hl => ?_)
  refine lv_aload_n hx hb d_law_230 rfl (lv_at hl 4 rfl) ?_
  refine vp_callSi (va_Run.run (va_runV (As := []) (rest := []) hC.fix (c_M_thrown l D cA am hC.hapm μ') (kCV 0 hT ml_L_51 mi_M_thrown ⟨Nat.le_of_ble_eq_true rfl, Nat.le_of_ble_eq_true rfl⟩) (mpreV hC.hK hM4) rfl rfl hl.1 rfl (lv_room (Nat.le_of_ble_eq_true rfl)) d_law_231 ⟨by show 16 + j + 1 + 0 ≤ 1050; omega, by show 480 + 6 * j + 6 + 0 ≤ 8732; omega⟩)) (fun r9 e9 => ?_)
  rw [hk] at e9
  have e8 := e9.symm
  subst e8
  refine lv_iload hx hb d_law_234 (lv_at hl 1 rfl) ?_
  refine lv_icmp_eq (tgt := 241) hx hb d_law_236 (by decide) (fun _ => ?_) (fun h9 => absurd rfl h9)
  refine lv_iload hx hb d_law_241 (lv_at hl 1 rfl) ?_
  refine lv_if_ne (tgt := 258) hx hb d_law_243 (by decide) (fun _ => ?_) (fun h9 => ?_)
  · refine lv_goto (tgt := 591) hx hb d_law_258 (by decide) ?_
    refine W.widen (k := 16 + (j + 1)) (n := 480 + 6 * (j + 1)) (by omega) (by omega) ?_
    exact kk H3 locs3 σ' μ' f' ls ⟨hP4, hM4, hR, hS3⟩ (lv_sub hl [2, 3, 4, 5, 6] rfl)
  · have hk0 : k = 0 := h9
    refine lv_aload_n hx hb d_law_246 rfl (lv_at hl 3 rfl) ?_
    refine lv_iconst (v := (0 : Int32)) hx hb d_law_247 (by decide) ?_
    refine va_lald (D := D) hx hb hC.hK hP4 7 2 rfl rfl (kin (by decide)) d_law_248 ?_
    refine lv_iload hx hb d_law_249 (lv_at hl 0 rfl) ?_
    refine lv_i2l (v := z.toInt64) hx hb d_law_251 rfl ?_
    refine W.lcmp hx hb d_law_252 ?_
    rw [lcmp0 (show f' (0 : Int32).toNatClampNeg = _ from hz9 hk0)]
    refine lv_if_eq (tgt := 258) hx hb d_law_253 (by decide) (fun _ => ?_) (fun h8 => absurd rfl h8)
    refine lv_goto (tgt := 591) hx hb d_law_258 (by decide) ?_
    refine W.widen (k := 16 + (j + 1)) (n := 480 + 6 * (j + 1)) (by omega) (by omega) ?_
    exact kk H3 locs3 σ' μ' f' ls ⟨hP4, hM4, hR, hS3⟩ (lv_sub hl [2, 3, 4, 5, 6] rfl)

set_option maxRecDepth 100000 in
set_option maxHeartbeats 4000000 in
theorem q_met {p : Program} {l : Launch} {e : Env} {s : State} {m : MethodId} {below : List Frame} {meth : Method} {c : Code} {b L : Nat} {xs : Nat → Int32} {D : va_G} {cA ad am t : Nat → Nat} {Q : State → Prop} {j : Nat} (hC : LC p l s m c b L xs D cA ad am t) {H : Heap} {locs : List Loc} {σ μ : Nat → Nat → Int32} {f : Nat → Int64} {ls : Array Slot} (hI : LI D cA ad am s H locs σ μ f) (hj : 3 * j + 3 ≤ L) (hL : L ≤ 1536) (hl : lv_has ls 7 (lvs b ad am (nI (3 * j)))) (kk : LG p l e s m below meth c b D cA ad am j Q) : W p l e room_1 s m #[Value.ref b] below meth c H locs (16 + j) (480 + 6 * j) Q (F0 m 261 ls []) := by
  have hx := hC.1
  have hb := hC.2.1
  have hT := hC.2.2.2.2.1
  have hS := hI.2.2.2
  have i1 : vp_in (nI (3 * j) + (1 : Int32)) L := by
    rw [nI_1]
    exact vp_in_nI (by omega) (by omega)
  have i2 : vp_in (nI (3 * j) + (2 : Int32)) L := by
    show vp_in (nI (3 * j) + nI 2) L
    rw [nI_add]
    exact vp_in_nI (by omega) (by omega)
  obtain ⟨k, σ', f', z, μ', hH, hMM, hR, hk, hz9⟩ := L_met l hC.hl0 D cA ad am t hC.hap hC.hapm hI.2.2.1 f (xs ((nI (3 * j)) + (1 : Int32)).toNatClampNeg) (xs ((nI (3 * j)) + (2 : Int32)).toNatClampNeg)
  refine lv_aload_n hx hb d_law_261 rfl (lv_at hl 3 rfl) ?_
  refine lv_aload_n hx hb d_law_262 rfl (lv_at hl 4 rfl) ?_
  refine lv_iload hx hb d_law_263 (lv_at hl 0 rfl) ?_
  refine lv_iconst (v := (1 : Int32)) hx hb d_law_265 (by decide) ?_
  refine lv_iadd hx hb d_law_266 ?_
  refine va_sld hx hb hC.hX hC.hbl hC.hbA hS i1 d_law_267 ?_
  refine lv_aload_n hx hb d_law_268 rfl (lv_at hl 4 rfl) ?_
  refine lv_iload hx hb d_law_269 (lv_at hl 0 rfl) ?_
  refine lv_iconst (v := (2 : Int32)) hx hb d_law_271 (by decide) ?_
  refine lv_iadd hx hb d_law_272 ?_
  refine va_sld hx hb hC.hX hC.hbl hC.hbA hS i2 d_law_273 ?_
  refine lv_aload_n hx hb d_law_274 rfl (lv_at hl 1 rfl) ?_
  refine kciM (vx_runSW (As := [.ref (ad 0), .int (xs ((nI (3 * j)) + (1 : Int32)).toNatClampNeg), .int (xs ((nI (3 * j)) + (2 : Int32)).toNatClampNeg), .ref (ad 7)]) (rest := []) hC.fix hH (kCSW 4 hT ml_L_66 wc_L_met wi_L wst_L_met ⟨by decide +kernel, by decide +kernel, by decide +kernel⟩ ⟨Nat.le_of_ble_eq_true rfl, Nat.le_of_ble_eq_true rfl⟩) (lpreS hC hI) rfl rfl hl.1 rfl (lv_room (Nat.le_of_ble_eq_true rfl)) d_law_275 ⟨by show 16 + j + 1 ≤ 1050; omega, by show 480 + 6 * j + 6 ≤ 8732; omega⟩) hS (fun q _ h => hC.inB q h) (fun q h => hC.inB q h) (fun H1 locs1 hP1 hz1 hq1 hS1 => ?_)
  obtain ⟨hP2, hM2⟩ := hI.sB hC hP1 hq1
  refine lv_istore (lv' := [(5, .int k), (4, .int (nI (3 * j))), (3, .ref (ad 7)), (2, .ref (am 0)), (1, .ref (ad 0)), (0, .ref b)]) hx hb d_law_278 hl (by decide) rfl (fun ls hl => ?_)
  refine lv_aload_n hx hb d_law_280 rfl (lv_at hl 3 rfl) ?_
  refine lv_aload_n hx hb d_law_281 rfl (lv_at hl 5 rfl) ?_
  refine lv_iload hx hb d_law_282 (lv_at hl 1 rfl) ?_
  refine lv_iconst (v := (1 : Int32)) hx hb d_law_284 (by decide) ?_
  refine lv_iadd hx hb d_law_285 ?_
  refine va_sld hx hb hC.hX hC.hbl hC.hbA hS1 i1 d_law_286 ?_
  refine lv_aload_n hx hb d_law_287 rfl (lv_at hl 5 rfl) ?_
  refine lv_iload hx hb d_law_288 (lv_at hl 1 rfl) ?_
  refine lv_iconst (v := (2 : Int32)) hx hb d_law_290 (by decide) ?_
  refine lv_iadd hx hb d_law_291 ?_
  refine va_sld hx hb hC.hX hC.hbl hC.hbA hS1 i2 d_law_292 ?_
  refine kciJ (va_runV (As := [.int (xs ((nI (3 * j)) + (1 : Int32)).toNatClampNeg), .int (xs ((nI (3 * j)) + (2 : Int32)).toNatClampNeg)]) (rest := []) hC.fix hMM (kCV 2 hT ml_L_69 mi_M_met ⟨Nat.le_of_ble_eq_true rfl, Nat.le_of_ble_eq_true rfl⟩) (mpreV hC.hK hM2) rfl rfl hl.1 rfl (lv_room (Nat.le_of_ble_eq_true rfl)) d_law_293 ⟨by show 16 + j + 1 + 0 ≤ 1050; omega, by show 480 + 6 * j + 6 + 0 ≤ 8732; omega⟩) hS1 (fun q _ h => hC.inM q h) (fun q h => hC.inM q h) (fun H3 locs3 hM3 hz3 hq3 hS3 => ?_)
  obtain ⟨hP4, hM4⟩ := LI.sM hC hP2 hM3 hq3
  refine lv_istore (lv' := [(6, .int z), (5, .int k), (4, .int (nI (3 * j))), (3, .ref (ad 7)), (2, .ref (am 0)), (1, .ref (ad 0)), (0, .ref b)]) hx hb d_law_296 hl (by decide) rfl (fun ls hl => ?_)
  refine lv_aload_n hx hb d_law_298 rfl (lv_at hl 4 rfl) ?_
  refine vp_callSi (va_Run.run (va_runV (As := []) (rest := []) hC.fix (c_M_thrown l D cA am hC.hapm μ') (kCV 0 hT ml_L_51 mi_M_thrown ⟨Nat.le_of_ble_eq_true rfl, Nat.le_of_ble_eq_true rfl⟩) (mpreV hC.hK hM4) rfl rfl hl.1 rfl (lv_room (Nat.le_of_ble_eq_true rfl)) d_law_299 ⟨by show 16 + j + 1 + 0 ≤ 1050; omega, by show 480 + 6 * j + 6 + 0 ≤ 8732; omega⟩)) (fun r9 e9 => ?_)
  rw [hk] at e9
  have e8 := e9.symm
  subst e8
  refine lv_iload hx hb d_law_302 (lv_at hl 1 rfl) ?_
  refine lv_icmp_eq (tgt := 309) hx hb d_law_304 (by decide) (fun _ => ?_) (fun h9 => absurd rfl h9)
  refine lv_iload hx hb d_law_309 (lv_at hl 1 rfl) ?_
  refine lv_if_ne (tgt := 333) hx hb d_law_311 (by decide) (fun _ => ?_) (fun h9 => ?_)
  · refine lv_goto (tgt := 591) hx hb d_law_333 (by decide) ?_
    refine W.widen (k := 16 + (j + 1)) (n := 480 + 6 * (j + 1)) (by omega) (by omega) ?_
    exact kk H3 locs3 σ' μ' f' ls ⟨hP4, hM4, hR, hS3⟩ (lv_sub hl [2, 3, 4, 5, 6] rfl)
  · have hk0 : k = 0 := h9
    refine lv_aload_n hx hb d_law_314 rfl (lv_at hl 3 rfl) ?_
    refine lv_iconst (v := (0 : Int32)) hx hb d_law_315 (by decide) ?_
    refine va_lald (D := D) hx hb hC.hK hP4 7 2 rfl rfl (kin (by decide)) d_law_316 ?_
    refine lv_iload hx hb d_law_317 (lv_at hl 0 rfl) ?_
    obtain ⟨hz8, hz7⟩ := hz9 hk0
    refine lv_if_eq (tgt := 326) hx hb d_law_319 (by decide) (fun h8 => ?_) (fun h8 => ?_)
    · refine lv_lconst (v := z.toInt64) hx hb d_law_326 (by rw [h8]; decide) ?_
      refine W.lcmp hx hb d_law_327 ?_
      rw [lcmp0 (show f' (0 : Int32).toNatClampNeg = _ from hz8)]
      refine lv_if_eq (tgt := 333) hx hb d_law_328 (by decide) (fun _ => ?_) (fun h8 => absurd rfl h8)
      refine lv_goto (tgt := 591) hx hb d_law_333 (by decide) ?_
      refine W.widen (k := 16 + (j + 1)) (n := 480 + 6 * (j + 1)) (by omega) (by omega) ?_
      exact kk H3 locs3 σ' μ' f' ls ⟨hP4, hM4, hR, hS3⟩ (lv_sub hl [2, 3, 4, 5, 6] rfl)
    · refine lv_lconst (v := z.toInt64) hx hb d_law_322 (by rw [hz7.resolve_left h8]; decide) ?_
      refine lv_goto (tgt := 327) hx hb d_law_323 (by decide) ?_
      refine W.lcmp hx hb d_law_327 ?_
      rw [lcmp0 (show f' (0 : Int32).toNatClampNeg = _ from hz8)]
      refine lv_if_eq (tgt := 333) hx hb d_law_328 (by decide) (fun _ => ?_) (fun h8 => absurd rfl h8)
      refine lv_goto (tgt := 591) hx hb d_law_333 (by decide) ?_
      refine W.widen (k := 16 + (j + 1)) (n := 480 + 6 * (j + 1)) (by omega) (by omega) ?_
      exact kk H3 locs3 σ' μ' f' ls ⟨hP4, hM4, hR, hS3⟩ (lv_sub hl [2, 3, 4, 5, 6] rfl)
