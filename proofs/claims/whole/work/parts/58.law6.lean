/-! THE CLAIM OUT OF ONE WALK OF THE LAW'S BODY. Your part is whole_start (and what it stands on); all else here is the same for every law, but numbers. -/
def R_law : String := "BeamDrawerLaw"
def lw_P (b : Addr) (xs : List Int32) (args : Array Value) (s : State) : Prop := args = #[.ref b] ∧ s.IntsAt b xs ∧ xs.length ≤ 1536 ∧ (Jvm.Cond.and given_1 narrow_1).before args s = true
def lw_Q (_ : Array Value) (s : State) (o : Outcome) (t : State) : Prop := o = .returned (some (.int 1)) ∧ Framed s o t [] 1050 8732
def lw_Z (below : List Frame) (a : Array Value) (s : State) : State → Prop := fun t => ∃ o, t.status = .running ∧ Ended t below o ∧ lw_Q a s o t
/-- the law's own end, with 1 on the stack, nothing written that was there before, its room as the claim has it -/
theorem lw_ret {p : Program} {l : Launch} {e : Env} {s : State} {m : MethodId} {below : List Frame} {meth : Method} {c : Code} {b : Nat} (hx : p.tables.exec = Jvm.exec) (hb : c.code = code) (hr : meth.sig.returnType = ret) (hlocks : meth.locks = false) {pc : Nat} {H : Heap} {ls : Array Slot} (hdg : decode code pc = .ok (.ireturn, 1)) : W p l e room_1 s m #[Value.ref b] below meth c H [] 1050 8732 (lw_Z below #[Value.ref b] s) (F0 m pc ls [.int 1]) := by
  intro T hT X
  obtain ⟨fs, hret, hrun, hended, hW, hframe⟩ := X.leave (v := some (.int 1)) (hlocks := hlocks) (fun h => by rw [hr] at h; cases h)
  have hmeth' : T.vm.method? m = some meth := X.method'
  refine ⟨T.setFrames fs, ?_, .returned (some (.int 1)), hrun, hended, rfl, ⟨_, rfl⟩, hW, hframe⟩
  jvm_step X.here [X.here.top, hx, hb, hdg, hmeth', hr, ret, narrow_b1]
  (try refine ⟨rfl, ?_⟩); (try refine ⟨rfl, ?_⟩)
  first | (intro acts; rw [hret _ acts rfl rfl rfl]) | rw [hret _ _ rfl rfl rfl]
  exact Steps.refl _
/-- what holds at the law's entry: the machine, the code, the tables' words (any of lw_tbl by 'hts w (by decide +kernel)'), the script of L ints xs at the cell b, what the Statement gives of the start (any of its parts by flat_of_before) -/
def lw_At (p : Program) (s : State) (m : MethodId) (meth : Method) (c : Code) (b L : Nat) (xs : Nat → Int32) : Prop :=
  p.tables.exec = Jvm.exec ∧ c.code = code ∧ meth.sig.returnType = ret ∧ c.maxLocals = 7 ∧ s.vm.findClass R_law = some m.cls ∧ (∀ w ∈ lw_tbl, w.before #[Value.ref b] s = true) ∧ va_X b L xs s s.heap ∧ b < s.heap.size ∧ meth.locks = false ∧ (Jvm.Cond.and given_1 narrow_1).before #[Value.ref b] s = true
section LLOOP
variable {p : Program} {l : Launch} {e : Env} {s : State} {m : MethodId} {below : List Frame} {meth : Method} {c : Code} {b L : Nat} {xs : Nat → Int32} {D : va_G} {cA ad am t : Nat → Nat}
set_option maxRecDepth 100000 in
set_option maxHeartbeats 4000000 in
theorem q_head (hC : LC p l s m c b L xs D cA ad am t) (hr : meth.sig.returnType = ret) (hlocks : meth.locks = false) (hL : L ≤ 1536) {j : Nat} (hj0 : 3 * j ≤ L) {H : Heap} {locs : List Loc} {σ μ : Nat → Nat → Int32} {f : Nat → Int64} {ls : Array Slot} (hI : LI D cA ad am s H locs σ μ f) (hl : lv_has ls 7 (lvs b ad am (nI (3 * j))))
    (kk : 3 * j + 3 ≤ L → W p l e room_1 s m #[Value.ref b] below meth c H locs (16 + j) (480 + 6 * j) (lw_Z below #[Value.ref b] s) (F0 m 32 ls [])) : W p l e room_1 s m #[Value.ref b] below meth c H locs (16 + j) (480 + 6 * j) (lw_Z below #[Value.ref b] s) (F0 m 23 ls []) := by
  have hx := hC.1
  have hb := hC.2.1
  have hS := hI.2.2.2
  refine lv_iload hx hb d_law_23 (lv_at hl 0 rfl) ?_
  refine lv_aload_n hx hb d_law_25 rfl (lv_at hl 4 rfl) ?_
  refine va_slen hx hb hC.hX hC.hbl hC.hbA hS d_law_26 ?_
  refine lv_iconst (v := (3 : Int32)) hx hb d_law_27 (by decide) ?_
  refine lv_isub hx hb d_law_28 ?_
  have e1 : (nI L - nI 3).toInt = (L : Int) - 3 := pk_sub_toInt (by omega) (by decide)
  have e2 : (nI (3 * j)).toInt = ((3 * j : Nat) : Int) := nI_toInt (by omega)
  refine lv_icmp_gt (tgt := 597) hx hb d_law_29 (by decide) (fun h9 => ?_) (fun h9 => ?_)
  · refine lv_iconst (v := (1 : Int32)) hx hb d_law_597 (by decide) ?_
    refine va_forget hS.2.2 ?_
    refine W.widen (k := 1050) (n := 8732) (by omega) (by omega) ?_
    exact lw_ret hx hb hr hlocks d_law_598
  · refine kk ?_
    have h8 : ¬ (nI L - nI 3) < nI (3 * j) := h9
    rw [Int32.lt_iff_toInt_lt, e1, e2] at h8
    omega
set_option maxRecDepth 100000 in
set_option maxHeartbeats 4000000 in
theorem q_loop (hC : LC p l s m c b L xs D cA ad am t) (hr : meth.sig.returnType = ret) (hlocks : meth.locks = false) (hL : L ≤ 1536) : ∀ (N j : Nat) (H : Heap) (locs : List Loc) (σ μ : Nat → Nat → Int32) (f : Nat → Int64) (ls : Array Slot), L < 3 * j + 3 * N + 3 → 3 * j ≤ L → LI D cA ad am s H locs σ μ f → lv_has ls 7 (lvs b ad am (nI (3 * j))) →
    W p l e room_1 s m #[Value.ref b] below meth c H locs (16 + j) (480 + 6 * j) (lw_Z below #[Value.ref b] s) (F0 m 23 ls []) := by
  intro N
  induction N with
  | zero =>
    intro j H locs σ μ f ls h1 h2 hI hl
    exact q_head hC hr hlocks hL h2 hI hl (fun h => absurd h (by omega))
  | succ N ih =>
    intro j H locs σ μ f ls h1 h2 hI hl
    refine q_head hC hr hlocks hL h2 hI hl (fun hj => ?_)
    have hx := hC.1
    have hb := hC.2.1
    have hS := hI.2.2.2
    have kk : LG p l e s m below meth c b D cA ad am j (lw_Z below #[Value.ref b] s) := by
      intro H1 locs1 σ1 μ1 f1 ls1 hI1 hl1
      refine lv_iinc (k := 0) (v := nI (3 * (j + 1))) (lv' := lvs b ad am (nI (3 * (j + 1)))) hx hb d_law_591 hl1 rfl ?_ (by decide) rfl (fun ls2 hl2 => ?_)
      · show nI (3 * j) + nI 3 = _
        rw [nI_add]
        congr 1
      · refine lv_goto (tgt := 23) hx hb d_law_594 (by decide) ?_
        exact ih (j + 1) H1 locs1 σ1 μ1 f1 ls2 (by omega) (by omega) hI1 hl2
    refine lv_aload_n hx hb d_law_32 rfl (lv_at hl 4 rfl) ?_
    refine lv_iload hx hb d_law_33 (lv_at hl 0 rfl) ?_
    refine va_sld hx hb hC.hX hC.hbl hC.hbA hS (vp_in_nI (by omega) (by omega)) d_law_35 ?_
    refine lv_bipush (v := (15 : Int32)) hx hb d_law_36 (by decide) ?_
    refine lv_iand hx hb d_law_38 ?_
    obtain ⟨o, ho, eo⟩ := pk_andE (xs (nI (3 * j)).toNatClampNeg) (m := (15 : Int32)) 4 (by decide)
    rw [eo]
    rcases (show o = 0 ∨ o = 1 ∨ o = 2 ∨ o = 3 ∨ o = 4 ∨ o = 5 ∨ o = 6 ∨ o = 7 ∨ o = 8 ∨ 9 ≤ o by omega) with rfl | rfl | rfl | rfl | rfl | rfl | rfl | rfl | rfl | h9
    · exact lv_tableIn (tgt := 88) hx hb d_law_39 (by decide) (by decide) rfl (by decide) (q_write hC hI hj hL hl kk)
    · exact lv_tableIn (tgt := 136) hx hb d_law_39 (by decide) (by decide) rfl (by decide) (q_clocks hC hI hj hL hl kk)
    · exact lv_tableIn (tgt := 192) hx hb d_law_39 (by decide) (by decide) rfl (by decide) (q_sync hC hI hj hL hl kk)
    · exact lv_tableIn (tgt := 205) hx hb d_law_39 (by decide) (by decide) rfl (by decide) (q_pixel hC hI hj hL hl kk)
    · exact lv_tableIn (tgt := 261) hx hb d_law_39 (by decide) (by decide) rfl (by decide) (q_met hC hI hj hL hl kk)
    · exact lv_tableIn (tgt := 336) hx hb d_law_39 (by decide) (by decide) rfl (by decide) (q_place hC hI hj hL hl kk)
    · exact lv_tableIn (tgt := 392) hx hb d_law_39 (by decide) (by decide) rfl (by decide) (q_there hC hI hj hL hl kk)
    · exact lv_tableIn (tgt := 467) hx hb d_law_39 (by decide) (by decide) rfl (by decide) (q_set hC hI hj hL hl kk)
    · exact lv_tableIn (tgt := 535) hx hb d_law_39 (by decide) (by decide) rfl (by decide) (q_count hC hI hj hL hl kk)
    · have e9 : (nI o).toInt = (o : Int) := nI_toInt (by omega)
      refine lv_tableOut (tgt := 591) hx hb d_law_39 (Or.inr (by rw [e9]; omega)) (by decide) ?_
      refine W.widen (k := 16 + (j + 1)) (n := 480 + 6 * (j + 1)) (by omega) (by omega) ?_
      exact kk H locs σ μ f ls hI hl
end LLOOP
