/-! words: one list for every method -/
def kGood : Cond → Bool
  | .fieldLinkNest .. => true
  | .methodLinkNest .. => true
  | .declares .. => true
  | .castable .. => true
  | w => goodWord w
def TB : List Cond := lw_tbl.filter kGood
theorem kTB {w : Cond} (h : w ∈ lw_tbl) (g : kGood w = true) : w ∈ TB := List.mem_filter.mpr ⟨h, g⟩
theorem kStable {w : Cond} (h : kGood w = true) {args a' : Array Value} {s U : State} (hW : s.WarmedH U.vm) (hb : w.before args s = true) : w.before a' U = true := by
  cases w with
  | fieldLinkNest a i b n d h => exact va_Nw.use rfl (va_Nw.warmF hW (va_Nw.of rfl hb))
  | methodLinkNest a i x h => exact va_Nw.use rfl (va_Nw.warmM hW (va_Nw.of rfl hb))
  | declares x => exact va_Nw.use rfl (va_Nw.warmD hW (va_Nw.of rfl hb))
  | castable a b => exact va_Nw.use rfl (va_Nw.warmC hW (va_Nw.of rfl hb))
  | _ => exact word_at hW (good_of_word h) hb
theorem kHws {c0 : Cond} (h0 : c0 ∈ TB) {args : Array Value} {s : State} (hT : ∀ w ∈ TB, w.before args s = true) : ∀ w ∈ (c0 :: TB), ∀ (a' : Array Value) (U : State), s.WarmedH U.vm → w.before a' U = true := by
  intro w hw a' U hW
  have hm : w ∈ TB := by
    rcases List.mem_cons.mp hw with rfl | h
    · exact h0
    · exact h
  exact kStable (List.mem_filter.mp hm).2 hW (hT w hm)
theorem kin {i : Int32} {n : Nat} (h : ¬ (i < 0 ∨ n ≤ i.toNatClampNeg)) : vp_in i n := h
section KC
variable {R : Room} {s : State} {args : Array Value} {own C host : String} {index maxL : Nat} {y : MethodName} {bytes : ByteArray} {ret : Option FieldType} {rm : Room}
/-- a method's words: code, its class is ready, no method handle, how many parameters -/
def kM (y : MethodName) (bytes : ByteArray) (maxL : Nat) (ret : Option FieldType) (n : Nat) : Prop := Cond.code y bytes maxL ret ∈ TB ∧ Cond.initialized y.cls ∈ TB ∧ y.cls ≠ "java/lang/invoke/MethodHandle" ∧ y.cls ≠ "java/lang/invoke/VarHandle" ∧ (parseMethodDescriptor y.desc).map (fun d => d.parameters.length) = some n
theorem kM_len {n : Nat} (h : kM y bytes maxL ret n) : ∀ sig, parseMethodDescriptor y.desc = some sig → n = sig.parameters.length := by
  intro sig hs
  have h2 := h.2.2.2.2
  rw [hs] at h2
  exact (Option.some.inj h2).symm
theorem kCB (n : Nat) (hT : ∀ w ∈ TB, w.before args s = true) (hl : Cond.methodLink own index y ∈ TB) (hM : kM y bytes maxL ret n) (hR : rm.frames + 1 ≤ R.frames ∧ 8 + (maxL + 11) + rm.locals ≤ R.locals) :
    CallB R s args own index y bytes maxL ret (.code y bytes maxL ret :: TB) rm rm.cells rm.slots n :=
  ⟨rfl, rfl, hR.1, hR.2, kHws hM.1 hT, List.mem_cons_self, hT _ hM.1, hT _ hM.2.1, ⟨hM.2.2.1, hM.2.2.2.1⟩, kM_len hM, hT _ hl⟩
theorem kCV (n : Nat) (hT : ∀ w ∈ TB, w.before args s = true) (hl : Cond.methodLink own index y ∈ TB) (hM : kM y bytes maxL ret n ∧ Cond.instanceMethod y ∈ TB ∧ Cond.selects C y y ∈ TB) (hR : rm.frames + 1 ≤ R.frames ∧ 8 + (maxL + 11) + rm.locals ≤ R.locals) :
    CallW R s args own C index y bytes maxL ret (.code y bytes maxL ret :: TB) rm rm.cells rm.slots n :=
  ⟨kCB n hT hl hM.1 hR, hT _ hM.2.1, hT _ hM.2.2⟩
theorem kCS (n : Nat) (hT : ∀ w ∈ TB, w.before args s = true) (hl : Cond.methodLink own index y ∈ TB) (hM : kM y bytes maxL ret n ∧ Cond.static y ∈ TB) (hR : rm.frames + 1 ≤ R.frames ∧ 8 + (maxL + 11) + rm.locals ≤ R.locals) :
    CallB R s args own index y bytes maxL ret (.code y bytes maxL ret :: TB) rm rm.cells rm.slots n ∧ (Cond.static y).before args s = true :=
  ⟨kCB n hT hl hM.1 hR, hT _ hM.2⟩
theorem kCI (n : Nat) (hT : ∀ w ∈ TB, w.before args s = true) (hl : Cond.methodLink own index y ∈ TB) (hM : kM y bytes maxL none n ∧ Cond.instanceMethod y ∈ TB) (hy : y.name = "<init>") (hR : rm.frames + 1 ≤ R.frames ∧ 8 + (maxL + 11) + rm.locals ≤ R.locals) :
    CallB R s args own index y bytes maxL none (.code y bytes maxL none :: TB) rm rm.cells rm.slots n ∧ y.name = "<init>" ∧ (Cond.instanceMethod y).before args s = true :=
  ⟨kCB n hT hl hM.1 hR, hy, hT _ hM.2⟩
theorem kCNB (n : Nat) (hT : ∀ w ∈ TB, w.before args s = true) (hl : Cond.methodLinkNest own index y host ∈ TB) (hM : kM y bytes maxL ret n) (hR : rm.frames + 1 ≤ R.frames ∧ 8 + (maxL + 11) + rm.locals ≤ R.locals) :
    va_CN R s args own index y host bytes maxL ret (.code y bytes maxL ret :: TB) rm rm.cells rm.slots n :=
  ⟨⟨rfl, rfl, hR.1, hR.2, kHws hM.1 hT, List.mem_cons_self⟩, hT _ hM.1, hT _ hM.2.1, ⟨hM.2.2.1, hM.2.2.2.1⟩, kM_len hM, hT _ hl⟩
theorem kCN (n : Nat) (hT : ∀ w ∈ TB, w.before args s = true) (hl : Cond.methodLinkNest own index y host ∈ TB) (hM : kM y bytes maxL ret n ∧ Cond.instanceMethod y ∈ TB ∧ Cond.selects C y y ∈ TB) (hR : rm.frames + 1 ≤ R.frames ∧ 8 + (maxL + 11) + rm.locals ≤ R.locals) :
    va_CN R s args own index y host bytes maxL ret (.code y bytes maxL ret :: TB) rm rm.cells rm.slots n ∧ (Cond.instanceMethod y).before args s = true ∧ (Cond.selects C y y).before args s = true :=
  ⟨kCNB n hT hl hM.1 hR, hT _ hM.2.1, hT _ hM.2.2⟩
theorem kCNI (n : Nat) (hT : ∀ w ∈ TB, w.before args s = true) (hl : Cond.methodLinkNest own index y host ∈ TB) (hM : kM y bytes maxL none n ∧ Cond.instanceMethod y ∈ TB) (hy : y.name = "<init>") (hR : rm.frames + 1 ≤ R.frames ∧ 8 + (maxL + 11) + rm.locals ≤ R.locals) :
    va_CN R s args own index y host bytes maxL none (.code y bytes maxL none :: TB) rm rm.cells rm.slots n ∧ y.name = "<init>" ∧ (Cond.instanceMethod y).before args s = true :=
  ⟨kCNB n hT hl hM.1 hR, hy, hT _ hM.2⟩
end KC
/-! addresses of an object's cells -/
def kA (n : Nat) (ad : Nat → Nat) : Nat → Prop := fun q => ∃ k, k < n ∧ q = ad k
def kap (n : Nat) (ad : Nat → Nat) : Prop := ∀ i j, i < n → j < n → ad i = ad j → i = j
theorem kD {n : Nat} {ad : Nat → Nat} {ws : va_W} (hap : kap n ad) (h : ws.map Prod.fst = (List.range n).map ad) : va_D (kA n ad) ws := by
  have key : ∀ (k : Nat) (q : Nat × va_E), ws[k]? = some q → k < n ∧ q.1 = ad k := by
    intro k q hk
    have h1 : (ws.map Prod.fst)[k]? = some q.1 := by rw [List.getElem?_map, hk]; rfl
    rw [h, List.getElem?_map] at h1
    by_cases hkn : k < n
    · rw [List.getElem?_range hkn] at h1
      exact ⟨hkn, (Option.some.inj h1).symm⟩
    · rw [List.getElem?_eq_none (by simp; omega)] at h1
      cases h1
  refine ⟨fun i j p q hi hj hpq => ?_, fun k q hk => ?_⟩
  · obtain ⟨h1, h2⟩ := key i p hi
    obtain ⟨h3, h4⟩ := key j q hj
    exact hap i j h1 h3 (by rw [← h2, ← h4]; exact hpq)
  · obtain ⟨h1, h2⟩ := key k q hk
    exact ⟨k, h1, h2⟩
def kup (σ : Nat → Nat → Int32) (k j : Nat) (v : Int32) : Nat → Nat → Int32 := fun a => if a = k then upd (σ a) j v else σ a
theorem kz_nar {x : Int32} (h : x = 0 ∨ x = 1) : narrow .boolean (.int x) = .int x := by rcases h with rfl | rfl <;> decide
theorem kz_fit {x : Int32} (h : x = 0 ∨ x = 1) : fits .boolean (.int x) = true := by rcases h with rfl | rfl <;> decide
