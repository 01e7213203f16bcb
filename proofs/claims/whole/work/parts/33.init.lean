theorem ml_B_1 : (Jvm.Cond.methodLink "BeamDrawer" (1 : Nat) ({ cls := "java/lang/Object", name := "<init>", desc := "()V" } : Jvm.MethodName)) ∈ TB := kTB (List.mem_append_right _ (List.mem_of_getElem? (i := 17) (by decide +kernel))) rfl
theorem ml_T_3 : (Jvm.Cond.methodLink "BeamDrawer$Timer" (3 : Nat) ({ cls := "java/lang/Object", name := "<init>", desc := "()V" } : Jvm.MethodName)) ∈ TB := kTB (List.mem_append_right _ (List.mem_of_getElem? (i := 25) (by decide +kernel))) rfl
theorem ml_M_1 : (Jvm.Cond.methodLink "BeamDrawerModel" (1 : Nat) ({ cls := "java/lang/Object", name := "<init>", desc := "()V" } : Jvm.MethodName)) ∈ TB := kTB (List.mem_append_right _ (List.mem_of_getElem? (i := 350) (by decide +kernel))) rfl
theorem wm_JO_init : (Jvm.Cond.instanceMethod ({ cls := "java/lang/Object", name := "<init>", desc := "()V" } : Jvm.MethodName)) ∈ TB := kTB (List.mem_append_right _ (List.mem_of_getElem? (i := 18) (by decide +kernel))) rfl
theorem wc_JO_init : (Jvm.Cond.code ({ cls := "java/lang/Object", name := "<init>", desc := "()V" } : Jvm.MethodName) object_method_1_code (1 : Nat) (Option.none : Option Jvm.ClassFile.FieldType)) ∈ TB := kTB (List.mem_append_right _ (List.mem_of_getElem? (i := 19) (by decide +kernel))) rfl
theorem cl_B_25 : (Jvm.Cond.classLink "BeamDrawer" (25 : Nat) "BeamDrawer$Timer") ∈ TB := kTB (List.mem_append_right _ (List.mem_of_getElem? (i := 20) (by decide +kernel))) rfl
theorem ins_T : (Jvm.Cond.instantiable "BeamDrawer$Timer" (4 : Nat)) ∈ TB := kTB (List.mem_append_right _ (List.mem_of_getElem? (i := 21) (by decide +kernel))) rfl
theorem ins_B : (Jvm.Cond.instantiable "BeamDrawer" (10 : Nat)) ∈ TB := kTB (List.mem_append_right _ (List.mem_of_getElem? (i := 13) (by decide +kernel))) rfl
theorem ins_M : (Jvm.Cond.instantiable "BeamDrawerModel" (17 : Nat)) ∈ TB := kTB (List.mem_append_right _ (List.mem_of_getElem? (i := 346) (by decide +kernel))) rfl
theorem ml_B_27 : (Jvm.Cond.methodLinkNest "BeamDrawer" (27 : Nat) ({ cls := "BeamDrawer$Timer", name := "<init>", desc := "()V" } : Jvm.MethodName) "BeamDrawer") ∈ TB := kTB (List.mem_append_right _ (List.mem_of_getElem? (i := 22) (by decide +kernel))) rfl
theorem wm_T_init : (Jvm.Cond.instanceMethod ({ cls := "BeamDrawer$Timer", name := "<init>", desc := "()V" } : Jvm.MethodName)) ∈ TB := kTB (List.mem_append_right _ (List.mem_of_getElem? (i := 23) (by decide +kernel))) rfl
theorem wc_T_init : (Jvm.Cond.code ({ cls := "BeamDrawer$Timer", name := "<init>", desc := "()V" } : Jvm.MethodName) prog_2_method_1_code (1 : Nat) (Option.none : Option Jvm.ClassFile.FieldType)) ∈ TB := kTB (List.mem_append_right _ (List.mem_of_getElem? (i := 24) (by decide +kernel))) rfl
theorem wm_B_init : (Jvm.Cond.instanceMethod ({ cls := "BeamDrawer", name := "<init>", desc := "()V" } : Jvm.MethodName)) ∈ TB := kTB (List.mem_append_right _ (List.mem_of_getElem? (i := 15) (by decide +kernel))) rfl
theorem wc_B_init : (Jvm.Cond.code ({ cls := "BeamDrawer", name := "<init>", desc := "()V" } : Jvm.MethodName) prog_1_method_1_code (1 : Nat) (Option.none : Option Jvm.ClassFile.FieldType)) ∈ TB := kTB (List.mem_append_right _ (List.mem_of_getElem? (i := 16) (by decide +kernel))) rfl
theorem wm_M_init : (Jvm.Cond.instanceMethod ({ cls := "BeamDrawerModel", name := "<init>", desc := "()V" } : Jvm.MethodName)) ∈ TB := kTB (List.mem_append_right _ (List.mem_of_getElem? (i := 348) (by decide +kernel))) rfl
theorem wc_M_init : (Jvm.Cond.code ({ cls := "BeamDrawerModel", name := "<init>", desc := "()V" } : Jvm.MethodName) prog_4_method_1_code (1 : Nat) (Option.none : Option Jvm.ClassFile.FieldType)) ∈ TB := kTB (List.mem_append_right _ (List.mem_of_getElem? (i := 349) (by decide +kernel))) rfl
theorem ac_I : (Jvm.Cond.arrayClass Jvm.ClassFile.FieldType.int) ∈ TB := kTB (List.mem_append_right _ (List.mem_of_getElem? (i := 41) (by decide +kernel))) rfl
theorem ac_Z : (Jvm.Cond.arrayClass Jvm.ClassFile.FieldType.boolean) ∈ TB := kTB (List.mem_append_right _ (List.mem_of_getElem? (i := 403) (by decide +kernel))) rfl
theorem ac_J : (Jvm.Cond.arrayClass Jvm.ClassFile.FieldType.long) ∈ TB := kTB (List.mem_append_right _ (List.mem_of_getElem? (i := 521) (by decide +kernel))) rfl
theorem cl_L_8 : (Jvm.Cond.classLink "BeamDrawerLaw" (8 : Nat) "BeamDrawer") ∈ TB := kTB (List.mem_append_right _ (List.mem_of_getElem? (i := 12) (by decide +kernel))) rfl
theorem cl_L_42 : (Jvm.Cond.classLink "BeamDrawerLaw" (42 : Nat) "BeamDrawerModel") ∈ TB := kTB (List.mem_append_right _ (List.mem_of_getElem? (i := 345) (by decide +kernel))) rfl
theorem cl_L_13 : (Jvm.Cond.classLink "BeamDrawerLaw" (13 : Nat) "java/util/NoSuchElementException") ∈ TB := kTB (List.mem_append_right _ (List.mem_of_getElem? (i := 158) (by decide +kernel))) rfl
theorem cl_L_15 : (Jvm.Cond.classLink "BeamDrawerLaw" (15 : Nat) "java/lang/IllegalArgumentException") ∈ TB := kTB (List.mem_append_right _ (List.mem_of_getElem? (i := 159) (by decide +kernel))) rfl
theorem ca_n : (Jvm.Cond.castable "java/util/NoSuchElementException" "java/util/NoSuchElementException") ∈ TB := kTB (List.mem_append_right _ (List.mem_of_getElem? (i := 166) (by decide +kernel))) rfl
theorem ca_i : (Jvm.Cond.castable "java/lang/IllegalArgumentException" "java/lang/IllegalArgumentException") ∈ TB := kTB (List.mem_append_right _ (List.mem_of_getElem? (i := 228) (by decide +kernel))) rfl
theorem ml_L_41 : (Jvm.Cond.methodLink "BeamDrawerLaw" (41 : Nat) ({ cls := "BeamDrawer", name := "<init>", desc := "()V" } : Jvm.MethodName)) ∈ TB := kTB (List.mem_append_right _ (List.mem_of_getElem? (i := 14) (by decide +kernel))) rfl
theorem ml_L_44 : (Jvm.Cond.methodLink "BeamDrawerLaw" (44 : Nat) ({ cls := "BeamDrawerModel", name := "<init>", desc := "()V" } : Jvm.MethodName)) ∈ TB := kTB (List.mem_append_right _ (List.mem_of_getElem? (i := 347) (by decide +kernel))) rfl
theorem wi_L : (Jvm.Cond.initialized "BeamDrawerLaw") ∈ TB := kTB (List.mem_append_right _ (List.mem_of_getElem? (i := 0) (by decide +kernel))) rfl
def y_B_init : MethodName := ⟨R_B, "<init>", "()V"⟩
abbrev b_B_init : ByteArray := prog_1_method_1_code
def w_B_init : List Cond := .code y_B_init b_B_init 1 none :: TB
theorem d_B_init_0 : decode b_B_init 0 = .ok (.aload_n 0, 1) := by decide +kernel
theorem d_B_init_1 : decode b_B_init 1 = .ok (.invokespecial 1, 3) := by decide +kernel
theorem d_B_init_4 : decode b_B_init 4 = .ok (.aload_n 0, 1) := by decide +kernel
theorem d_B_init_5 : decode b_B_init 5 = .ok (.bipush 36, 2) := by decide +kernel
theorem d_B_init_7 : decode b_B_init 7 = .ok (.newarray .int, 2) := by decide +kernel
theorem d_B_init_9 : decode b_B_init 9 = .ok (.putfield 9, 3) := by decide +kernel
theorem d_B_init_12 : decode b_B_init 12 = .ok (.aload_n 0, 1) := by decide +kernel
theorem d_B_init_13 : decode b_B_init 13 = .ok (.iconst 2, 1) := by decide +kernel
theorem d_B_init_14 : decode b_B_init 14 = .ok (.newarray .int, 2) := by decide +kernel
theorem d_B_init_16 : decode b_B_init 16 = .ok (.putfield 13, 3) := by decide +kernel
theorem d_B_init_19 : decode b_B_init 19 = .ok (.aload_n 0, 1) := by decide +kernel
theorem d_B_init_20 : decode b_B_init 20 = .ok (.iconst 5, 1) := by decide +kernel
theorem d_B_init_21 : decode b_B_init 21 = .ok (.newarray .int, 2) := by decide +kernel
theorem d_B_init_23 : decode b_B_init 23 = .ok (.putfield 16, 3) := by decide +kernel
theorem d_B_init_26 : decode b_B_init 26 = .ok (.aload_n 0, 1) := by decide +kernel
theorem d_B_init_27 : decode b_B_init 27 = .ok (.sipush 160, 3) := by decide +kernel
theorem d_B_init_30 : decode b_B_init 30 = .ok (.newarray .int, 2) := by decide +kernel
theorem d_B_init_32 : decode b_B_init 32 = .ok (.putfield 19, 3) := by decide +kernel
theorem d_B_init_35 : decode b_B_init 35 = .ok (.aload_n 0, 1) := by decide +kernel
theorem d_B_init_36 : decode b_B_init 36 = .ok (.bipush 6, 2) := by decide +kernel
theorem d_B_init_38 : decode b_B_init 38 = .ok (.newarray .int, 2) := by decide +kernel
theorem d_B_init_40 : decode b_B_init 40 = .ok (.putfield 22, 3) := by decide +kernel
theorem d_B_init_43 : decode b_B_init 43 = .ok (.aload_n 0, 1) := by decide +kernel
theorem d_B_init_44 : decode b_B_init 44 = .ok (.new 25, 3) := by decide +kernel
theorem d_B_init_47 : decode b_B_init 47 = .ok (.dup, 1) := by decide +kernel
theorem d_B_init_48 : decode b_B_init 48 = .ok (.invokespecial 27, 3) := by decide +kernel
theorem d_B_init_51 : decode b_B_init 51 = .ok (.putfield 28, 3) := by decide +kernel
theorem d_B_init_54 : decode b_B_init 54 = .ok (.return_, 1) := by decide +kernel
def y_T_init : MethodName := ⟨R_T, "<init>", "()V"⟩
abbrev b_T_init : ByteArray := prog_2_method_1_code
def w_T_init : List Cond := .code y_T_init b_T_init 1 none :: TB
theorem d_T_init_0 : decode b_T_init 0 = .ok (.aload_n 0, 1) := by decide +kernel
theorem d_T_init_1 : decode b_T_init 1 = .ok (.invokespecial 3, 3) := by decide +kernel
theorem d_T_init_4 : decode b_T_init 4 = .ok (.aload_n 0, 1) := by decide +kernel
theorem d_T_init_5 : decode b_T_init 5 = .ok (.sipush 1024, 3) := by decide +kernel
theorem d_T_init_8 : decode b_T_init 8 = .ok (.putfield 9, 3) := by decide +kernel
theorem d_T_init_11 : decode b_T_init 11 = .ok (.aload_n 0, 1) := by decide +kernel
theorem d_T_init_12 : decode b_T_init 12 = .ok (.sipush 3072, 3) := by decide +kernel
theorem d_T_init_15 : decode b_T_init 15 = .ok (.putfield 15, 3) := by decide +kernel
theorem d_T_init_18 : decode b_T_init 18 = .ok (.return_, 1) := by decide +kernel
def y_M_init : MethodName := ⟨R_M, "<init>", "()V"⟩
abbrev b_M_init : ByteArray := prog_4_method_1_code
def w_M_init : List Cond := .code y_M_init b_M_init 1 none :: TB
theorem d_M_init_0 : decode b_M_init 0 = .ok (.aload_n 0, 1) := by decide +kernel
theorem d_M_init_1 : decode b_M_init 1 = .ok (.invokespecial 1, 3) := by decide +kernel
theorem d_M_init_4 : decode b_M_init 4 = .ok (.aload_n 0, 1) := by decide +kernel
theorem d_M_init_5 : decode b_M_init 5 = .ok (.bipush 28, 2) := by decide +kernel
theorem d_M_init_7 : decode b_M_init 7 = .ok (.newarray .int, 2) := by decide +kernel
theorem d_M_init_9 : decode b_M_init 9 = .ok (.putfield 7, 3) := by decide +kernel
theorem d_M_init_12 : decode b_M_init 12 = .ok (.aload_n 0, 1) := by decide +kernel
theorem d_M_init_13 : decode b_M_init 13 = .ok (.iconst 5, 1) := by decide +kernel
theorem d_M_init_14 : decode b_M_init 14 = .ok (.newarray .int, 2) := by decide +kernel
theorem d_M_init_16 : decode b_M_init 16 = .ok (.putfield 13, 3) := by decide +kernel
theorem d_M_init_19 : decode b_M_init 19 = .ok (.aload_n 0, 1) := by decide +kernel
theorem d_M_init_20 : decode b_M_init 20 = .ok (.iconst 2, 1) := by decide +kernel
theorem d_M_init_21 : decode b_M_init 21 = .ok (.newarray .int, 2) := by decide +kernel
theorem d_M_init_23 : decode b_M_init 23 = .ok (.putfield 16, 3) := by decide +kernel
theorem d_M_init_26 : decode b_M_init 26 = .ok (.aload_n 0, 1) := by decide +kernel
theorem d_M_init_27 : decode b_M_init 27 = .ok (.iconst 2, 1) := by decide +kernel
theorem d_M_init_28 : decode b_M_init 28 = .ok (.newarray .int, 2) := by decide +kernel
theorem d_M_init_30 : decode b_M_init 30 = .ok (.putfield 19, 3) := by decide +kernel
theorem d_M_init_33 : decode b_M_init 33 = .ok (.aload_n 0, 1) := by decide +kernel
theorem d_M_init_34 : decode b_M_init 34 = .ok (.bipush 36, 2) := by decide +kernel
theorem d_M_init_36 : decode b_M_init 36 = .ok (.newarray .boolean, 2) := by decide +kernel
theorem d_M_init_38 : decode b_M_init 38 = .ok (.putfield 22, 3) := by decide +kernel
theorem d_M_init_41 : decode b_M_init 41 = .ok (.aload_n 0, 1) := by decide +kernel
theorem d_M_init_42 : decode b_M_init 42 = .ok (.sipush 160, 3) := by decide +kernel
theorem d_M_init_45 : decode b_M_init 45 = .ok (.newarray .int, 2) := by decide +kernel
theorem d_M_init_47 : decode b_M_init 47 = .ok (.putfield 26, 3) := by decide +kernel
theorem d_M_init_50 : decode b_M_init 50 = .ok (.aload_n 0, 1) := by decide +kernel
theorem d_M_init_51 : decode b_M_init 51 = .ok (.bipush 6, 2) := by decide +kernel
theorem d_M_init_53 : decode b_M_init 53 = .ok (.newarray .boolean, 2) := by decide +kernel
theorem d_M_init_55 : decode b_M_init 55 = .ok (.putfield 29, 3) := by decide +kernel
theorem d_M_init_58 : decode b_M_init 58 = .ok (.aload_n 0, 1) := by decide +kernel
theorem d_M_init_59 : decode b_M_init 59 = .ok (.sipush 1024, 3) := by decide +kernel
theorem d_M_init_62 : decode b_M_init 62 = .ok (.putfield 32, 3) := by decide +kernel
theorem d_M_init_65 : decode b_M_init 65 = .ok (.return_, 1) := by decide +kernel
section KNEW
variable {p : Program} {l : Launch} {e : Env} {R : Room} {s : State} {m : MethodId} {args : Array Value} {below : List Frame} {meth : Method} {c : Code} {H : Heap} {locs : List Loc} {cells slots : Nat} {Q : State → Prop}
variable {cc : ByteArray} {pc : Nat} {ls : Array Slot} {rest : List Value} {D : va_G} {cl : List vw_C} {A : Nat → Prop} {tys : List (ClassId × FieldType)} {ws : va_W} {H0 : Heap}
theorem knewa (hexec : p.tables.exec = Jvm.exec) (hb : c.code = cc) {atype : ArrayType} (harr : (Cond.arrayClass (newarray.typeOf atype)).before args s = true) {ty : FieldType} (hty : newarray.typeOf atype = ty) (hK : va_K D cl tys s) (hP : va_P D cl ws H) (hD : va_D A ws) (hS : va_S A H0 H locs) (hA : ∀ q, H0.size ≤ q → A q) (t0 : Nat) {cT : ClassId} (ht : tys[t0]? = some (cT, ty)) (hR : ∀ c9 : ClassId, va_RA s c9 ty → s.vm.findClass ("[" ++ ty.toString) = some c9)
    {n : Int32} {N' : Nat} {a0 : vp_A} (ha : ∀ cA : ClassId, vp_cell cA a0 = arrV cA N' (fun _ => defaultValue ty)) (hn : ¬ n < 0) (hN : n.toNatClampNeg = N') (hbytes : N' * componentBytes ty ≤ 536870912) (hcells : cells + 1 ≤ R.cells) (hslots : slots + N' ≤ R.slots) (hdg : decode cc pc = .ok (.newarray atype, 2))
    (kk : ∀ (q : Nat) (H1 : Heap), va_P D cl (ws ++ [(q, .inl (cT, a0))]) H1 → va_D A (ws ++ [(q, .inl (cT, a0))]) → va_S A H0 H1 locs →
      W p l e R s m args below meth c H1 locs (cells + 1) (slots + N') Q (F0 m (pc + 2) ls (.ref q :: rest))) : W p l e R s m args below meth c H locs cells slots Q (F0 m pc ls (.int n :: rest)) := by
  refine va_newa hexec hb harr hty hK hP hD hS hA ha hn hN hbytes hcells hslots hdg (fun q c9 H1 hK1 hP1 hD1 hS1 => ?_)
  have h1 := hR c9 (hK1.2 tys.length (c9, ty) (by simp)).2
  have h2 := hR cT (hK.2 t0 _ ht).2
  have e : c9 = cT := Option.some.inj (h1.symm.trans h2)
  subst e
  exact kk q H1 hP1 hD1 hS1
end KNEW
/-- the addresses of a list of cells -/
def kadr (ws : va_W) (k : Nat) : Nat := (ws.map Prod.fst).getD k 0
theorem kadr_ap {A : Nat → Prop} {ws : va_W} {n : Nat} (hn : ws.length = n) (hD : va_D A ws) : kap n (kadr ws) := by
  intro i j hi hj h
  have gi : ws[i]? = some (ws[i]'(by omega)) := List.getElem?_eq_getElem (by omega)
  have gj : ws[j]? = some (ws[j]'(by omega)) := List.getElem?_eq_getElem (by omega)
  refine hD.1 i j _ _ gi gj ?_
  have e1 : kadr ws i = (ws[i]'(by omega)).1 := by simp [kadr, List.getD, gi]
  have e2 : kadr ws j = (ws[j]'(by omega)).1 := by simp [kadr, List.getD, gj]
  rw [← e1, ← e2]; exact h
theorem kadr_in {A : Nat → Prop} {ws : va_W} {n : Nat} (hn : ws.length = n) (hD : va_D A ws) : ∀ k, k < n → A (kadr ws k) := by
  intro i hi
  have gi : ws[i]? = some (ws[i]'(by omega)) := List.getElem?_eq_getElem (by omega)
  have e1 : kadr ws i = (ws[i]'(by omega)).1 := by simp [kadr, List.getD, gi]
  rw [e1]; exact hD.2 i _ gi
def s0 : Nat → Nat → Int32 := fun a => match a with
  | 5 => fun j => match j with
    | 5 => 1024
    | 6 => 3072
    | _ => 0
  | _ => fun _ => 0
def m0 : Nat → Nat → Int32 := fun a => match a with
  | 7 => fun j => match j with
    | 7 => 1024
    | _ => 0
  | _ => fun _ => 0
section KCVJ
variable {p : Program} {l : Launch} {e : Env} {R : Room} {s : State} {m : MethodId} {args : Array Value} {below : List Frame} {meth : Method} {c : Code} {H : Heap} {locs : List Loc} {cells slots : Nat} {Q : State → Prop}
variable {pc : Nat} {ls : Array Slot} {rest st0 : List Value} {a : Array Value} {A0 A1 : Nat → Prop} {free : Addr → Prop} {H0 : Heap} {D : va_G} {ws' : va_W}
/-- a void call on a part of the world -/
theorem kcvJ (hr : va_Run p l e R s m args below meth c H locs cells slots 0 0 (F0 m pc ls st0) rest (kQv D ws' A1 a) free) (hS : va_S A0 H0 H locs) (hA : ∀ q, q < H.size → A1 q → A0 q) (hf : ∀ q, free q → A0 q)
    (kk : ∀ (H1 : Heap) (locs1 : List Loc), va_P D classes ws' H1 → H.size ≤ H1.size → (∀ q : Nat, q < H.size → ¬ A1 q → H1[q]? = H[q]?) → va_S A0 H0 H1 locs1 → W p l e R s m args below meth c H1 locs1 cells slots Q (F0 m (pc + 3) ls rest)) : W p l e R s m args below meth c H locs cells slots Q (F0 m pc ls st0) := by
  intro T hT X
  obtain ⟨v, st₀, t, T', L, h0, X', hL, e1, e2, ⟨hv, hp, hF⟩, st⟩ := hr T hT X
  cases hv
  obtain ⟨k1, k2, k3⟩ := vx_keep h0 e1 hS hA hf hL hF
  obtain ⟨t2, a1, b1⟩ := kk T'.heap (locs ++ L) (by rw [e1]; exact hp) k1 k2 k3 T' rfl X'
  exact ⟨t2, st t2 a1, b1⟩
/-- .. that answers an int -/
theorem kciJ {r : Int32} (hr : va_Run p l e R s m args below meth c H locs cells slots 0 0 (F0 m pc ls st0) rest (kQi D ws' A1 r a) free) (hS : va_S A0 H0 H locs) (hA : ∀ q, q < H.size → A1 q → A0 q) (hf : ∀ q, free q → A0 q)
    (kk : ∀ (H1 : Heap) (locs1 : List Loc), va_P D classes ws' H1 → H.size ≤ H1.size → (∀ q : Nat, q < H.size → ¬ A1 q → H1[q]? = H[q]?) → va_S A0 H0 H1 locs1 → W p l e R s m args below meth c H1 locs1 cells slots Q (F0 m (pc + 3) ls (.int r :: rest))) : W p l e R s m args below meth c H locs cells slots Q (F0 m pc ls st0) := by
  intro T hT X
  obtain ⟨v, st₀, t, T', L, h0, X', hL, e1, e2, ⟨hv, hp, hF⟩, st⟩ := hr T hT X
  cases hv
  obtain ⟨k1, k2, k3⟩ := vx_keep h0 e1 hS hA hf hL hF
  obtain ⟨t2, a1, b1⟩ := kk T'.heap (locs ++ L) (by rw [e1]; exact hp) k1 k2 k3 T' rfl X'
  exact ⟨t2, st t2 a1, b1⟩
end KCVJ
set_option maxRecDepth 100000 in
set_option maxHeartbeats 4000000 in
theorem c_T_init (l : Launch) (D : va_G) (cA : Nat → Nat) (h0 sz : Nat) : Met l y_T_init w_T_init ({ frames := 1, cells := 0, slots := 0, locals := 12 } : Room) (va_Pc [.ref h0] (fun U => U.heap.size = sz ∧ va_P D classes [(h0, .inr (1, [.int 0, .int 0, .int 0, .int 0]))] U.heap ∧ va_K D classes (kty cA) U ∧ va_D (fun _ => True) [(h0, .inr (1, [.int 0, .int 0, .int 0, .int 0]))])) (kQv D [(h0, .inr (1, [.int 0, .int 1024, .int 3072, .int 0]))] (va_A [(h0, .inr (1, [.int 0, .int 0, .int 0, .int 0]))] sz)) 0 0 (va_A [(h0, .inr (1, [.int 0, .int 0, .int 0, .int 0]))] sz) := by
  refine Met.ofW (cc := b_T_init) (maxL := 1) (ret := none) (by decide) rfl ?_
  intro p e s m args below meth c s₁ B hml hv
  obtain ⟨rfl, hsz, hP, hK, hD0⟩ := hv
  have hx := B.exec
  have hb := B.bytes
  have hr := B.returns
  have hlocks := B.notSynchronized
  have hT : ∀ w ∈ TB, w.before ([.ref h0] : List Value).toArray s = true := fun w h => atoms_spec (ws := w_T_init) B.pre w (List.mem_cons_of_mem _ h)
  have hown : s.vm.findClass R_T = some m.cls := findClass_of_methodNamed B.named
  have hin : meth.name = "<init>" := (name_of_methodNamed B.named B.method).1
  subst hsz
  have hD := hD0.self (sz := s.heap.size)
  generalize hAe : va_A [(h0, .inr (1, [.int 0, .int 0, .int 0, .int 0]))] s.heap.size = A at hD ⊢
  have hA : ∀ q : Nat, s.heap.size ≤ q → A q := fun q h => by rw [← hAe]; exact Or.inr h
  have hS : va_S A s.heap s.heap [] := va_S.rf
  have hl := lv_entry ([.ref h0]) (n := 1) (Nat.le_of_ble_eq_true rfl)
  rw [lg_entry_eq]
  generalize (lg_sl ([.ref h0]) ++ List.replicate (1 - (lg_sl ([.ref h0])).length) Slot.unset).toArray = ls at hl ⊢
  have hl : lv_has ls 1 [(0, .ref h0)] := hl
  refine lv_aload_n hx hb d_T_init_0 rfl (lv_at hl 0 rfl) ?_
  refine W.objInit hx hb hown (hT _ ml_T_3) (hT _ wm_JO_init) (hT _ wc_JO_init) (g := F0 m (0 + 1) ls [.ref h0]) rfl (by rw [hml]; exact hl.1) rfl d_T_init_1 (Nat.le_of_ble_eq_true rfl) (Nat.le_of_ble_eq_true rfl) ?_
  refine W.eq (g2 := F0 m 4 ls []) rfl ?_
  refine lv_aload_n hx hb d_T_init_4 rfl (lv_at hl 0 rfl) ?_
  refine lv_sipush (v := (1024 : Int32)) hx hb d_T_init_5 (by decide) ?_
  refine va_put (D := D) (ci := 1) (v := .int (1024 : Int32)) (ty := .int) (C := R_T) (T := F_T) (N := 4) hx hb hT in_T ft_T ft_T_ok n_T hown hK hP hD hS 0 rfl rfl 1 (by decide) (hT _ fl_T_9) (fun _ h9 => h9) rfl (by decide +kernel) rfl rfl (Nat.le_of_ble_eq_true rfl) d_T_init_8 (fun H locs hP hD hS => ?_)
  have hP : va_P D classes [(h0, .inr (1, [.int 0, .int 1024, .int 0, .int 0]))] H := hP
  have hD : va_D A [(h0, .inr (1, [.int 0, .int 1024, .int 0, .int 0]))] := hD
  refine lv_aload_n hx hb d_T_init_11 rfl (lv_at hl 0 rfl) ?_
  refine lv_sipush (v := (3072 : Int32)) hx hb d_T_init_12 (by decide) ?_
  refine va_put (D := D) (ci := 1) (v := .int (3072 : Int32)) (ty := .int) (C := R_T) (T := F_T) (N := 4) hx hb hT in_T ft_T ft_T_ok n_T hown hK hP hD hS 0 rfl rfl 2 (by decide) (hT _ fl_T_15) (fun _ h9 => h9) rfl (by decide +kernel) rfl rfl (Nat.le_of_ble_eq_true rfl) d_T_init_15 (fun H locs hP hD hS => ?_)
  have hP : va_P D classes [(h0, .inr (1, [.int 0, .int 1024, .int 3072, .int 0]))] H := hP
  have hD : va_D A [(h0, .inr (1, [.int 0, .int 1024, .int 3072, .int 0]))] := hD
  exact W.vret hx hb hr (fun t ht hW => ⟨rfl, by rw [ht]; exact hP, hS.F ht⟩) hS.2.2 d_T_init_18
set_option maxRecDepth 100000 in
set_option maxHeartbeats 4000000 in
theorem c_B_init (l : Launch) (D : va_G) (cA : Nat → Nat) (h0 sz : Nat) : Met l y_B_init w_B_init ({ frames := 2, cells := 6, slots := 213, locals := 32 } : Room) (va_Pc [.ref h0] (fun U => U.heap.size = sz ∧ va_P D classes [(h0, .inr (0, [.null, .null, .null, .null, .null, .null, .int 0, .int 0, .int 0, .int 0]))] U.heap ∧ va_K D classes (kty cA) U ∧ va_D (fun _ => True) [(h0, .inr (0, [.null, .null, .null, .null, .null, .null, .int 0, .int 0, .int 0, .int 0]))])) (va_Qv (fun ad : Nat → Nat => ad 0 = h0 ∧ kap 7 ad ∧ ∀ k, k < 7 → va_A [(h0, .inr (0, [.null, .null, .null, .null, .null, .null, .int 0, .int 0, .int 0, .int 0]))] sz (ad k)) (fun ad t => va_P D classes (bw cA ad s0) t.heap) (va_A [(h0, .inr (0, [.null, .null, .null, .null, .null, .null, .int 0, .int 0, .int 0, .int 0]))] sz)) 6 213 (va_A [(h0, .inr (0, [.null, .null, .null, .null, .null, .null, .int 0, .int 0, .int 0, .int 0]))] sz) := by
  refine Met.ofW (cc := b_B_init) (maxL := 1) (ret := none) (by decide) rfl ?_
  intro p e s m args below meth c s₁ B hml hv
  obtain ⟨rfl, hsz, hP, hK, hD0⟩ := hv
  have hx := B.exec
  have hb := B.bytes
  have hr := B.returns
  have hlocks := B.notSynchronized
  have hT : ∀ w ∈ TB, w.before ([.ref h0] : List Value).toArray s = true := fun w h => atoms_spec (ws := w_B_init) B.pre w (List.mem_cons_of_mem _ h)
  have hown : s.vm.findClass R_B = some m.cls := findClass_of_methodNamed B.named
  have hin : meth.name = "<init>" := (name_of_methodNamed B.named B.method).1
  subst hsz
  have hD := hD0.self (sz := s.heap.size)
  generalize hAe : va_A [(h0, .inr (0, [.null, .null, .null, .null, .null, .null, .int 0, .int 0, .int 0, .int 0]))] s.heap.size = A at hD ⊢
  have hA : ∀ q : Nat, s.heap.size ≤ q → A q := fun q h => by rw [← hAe]; exact Or.inr h
  have hS : va_S A s.heap s.heap [] := va_S.rf
  have hl := lv_entry ([.ref h0]) (n := 1) (Nat.le_of_ble_eq_true rfl)
  rw [lg_entry_eq]
  generalize (lg_sl ([.ref h0]) ++ List.replicate (1 - (lg_sl ([.ref h0])).length) Slot.unset).toArray = ls at hl ⊢
  have hl : lv_has ls 1 [(0, .ref h0)] := hl
  refine lv_aload_n hx hb d_B_init_0 rfl (lv_at hl 0 rfl) ?_
  refine W.objInit hx hb hown (hT _ ml_B_1) (hT _ wm_JO_init) (hT _ wc_JO_init) (g := F0 m (0 + 1) ls [.ref h0]) rfl (by rw [hml]; exact hl.1) rfl d_B_init_1 (Nat.le_of_ble_eq_true rfl) (Nat.le_of_ble_eq_true rfl) ?_
  refine W.eq (g2 := F0 m 4 ls []) rfl ?_
  refine lv_aload_n hx hb d_B_init_4 rfl (lv_at hl 0 rfl) ?_
  refine lv_bipush (v := (36 : Int32)) hx hb d_B_init_5 (by decide) ?_
  refine knewa (atype := .int) (a0 := (36, .inl (s0 0))) (ty := .int) hx hb (hT _ ac_I) rfl hK hP hD hS hA 0 rfl (fun _ h => h) (fun _ => rfl) (by decide) (by decide) (by decide) (by decide) (by decide) d_B_init_7 (fun q1 H hP hD hS => ?_)
  have hP : va_P D classes [(h0, .inr (0, [.null, .null, .null, .null, .null, .null, .int 0, .int 0, .int 0, .int 0])), (q1, .inl (cA 0, 36, .inl (s0 0)))] H := hP
  have hD : va_D A [(h0, .inr (0, [.null, .null, .null, .null, .null, .null, .int 0, .int 0, .int 0, .int 0])), (q1, .inl (cA 0, 36, .inl (s0 0)))] := hD
  refine W.widen (k := 1) (n := 36) (by decide) (by decide) ?_
  refine va_putF (D := D) (ci := 0) (v := .ref q1) (ty := .array .int) (C := R_B) (T := F_B) (N := 10) hx hb hT in_B ft_B ft_B_ok n_B hown hK hP hD hS 0 rfl rfl 0 (by decide) (hT _ fl_B_9) (fun _ h9 => h9) rfl hin rfl (by decide +kernel) rfl rfl (Nat.le_of_ble_eq_true rfl) d_B_init_9 (fun H locs hP hD hS => ?_)
  have hP : va_P D classes [(h0, .inr (0, [.ref q1, .null, .null, .null, .null, .null, .int 0, .int 0, .int 0, .int 0])), (q1, .inl (cA 0, 36, .inl (s0 0)))] H := hP
  have hD : va_D A [(h0, .inr (0, [.ref q1, .null, .null, .null, .null, .null, .int 0, .int 0, .int 0, .int 0])), (q1, .inl (cA 0, 36, .inl (s0 0)))] := hD
  refine lv_aload_n hx hb d_B_init_12 rfl (lv_at hl 0 rfl) ?_
  refine lv_iconst (v := (2 : Int32)) hx hb d_B_init_13 (by decide) ?_
  refine knewa (atype := .int) (a0 := (2, .inl (s0 1))) (ty := .int) hx hb (hT _ ac_I) rfl hK hP hD hS hA 0 rfl (fun _ h => h) (fun _ => rfl) (by decide) (by decide) (by decide) (by decide) (by decide) d_B_init_14 (fun q2 H hP hD hS => ?_)
  have hP : va_P D classes [(h0, .inr (0, [.ref q1, .null, .null, .null, .null, .null, .int 0, .int 0, .int 0, .int 0])), (q1, .inl (cA 0, 36, .inl (s0 0))), (q2, .inl (cA 0, 2, .inl (s0 1)))] H := hP
  have hD : va_D A [(h0, .inr (0, [.ref q1, .null, .null, .null, .null, .null, .int 0, .int 0, .int 0, .int 0])), (q1, .inl (cA 0, 36, .inl (s0 0))), (q2, .inl (cA 0, 2, .inl (s0 1)))] := hD
  refine W.widen (k := 2) (n := 38) (by decide) (by decide) ?_
  refine va_putF (D := D) (ci := 0) (v := .ref q2) (ty := .array .int) (C := R_B) (T := F_B) (N := 10) hx hb hT in_B ft_B ft_B_ok n_B hown hK hP hD hS 0 rfl rfl 1 (by decide) (hT _ fl_B_13) (fun _ h9 => h9) rfl hin rfl (by decide +kernel) rfl rfl (Nat.le_of_ble_eq_true rfl) d_B_init_16 (fun H locs hP hD hS => ?_)
  have hP : va_P D classes [(h0, .inr (0, [.ref q1, .ref q2, .null, .null, .null, .null, .int 0, .int 0, .int 0, .int 0])), (q1, .inl (cA 0, 36, .inl (s0 0))), (q2, .inl (cA 0, 2, .inl (s0 1)))] H := hP
  have hD : va_D A [(h0, .inr (0, [.ref q1, .ref q2, .null, .null, .null, .null, .int 0, .int 0, .int 0, .int 0])), (q1, .inl (cA 0, 36, .inl (s0 0))), (q2, .inl (cA 0, 2, .inl (s0 1)))] := hD
  refine lv_aload_n hx hb d_B_init_19 rfl (lv_at hl 0 rfl) ?_
  refine lv_iconst (v := (5 : Int32)) hx hb d_B_init_20 (by decide) ?_
  refine knewa (atype := .int) (a0 := (5, .inl (s0 2))) (ty := .int) hx hb (hT _ ac_I) rfl hK hP hD hS hA 0 rfl (fun _ h => h) (fun _ => rfl) (by decide) (by decide) (by decide) (by decide) (by decide) d_B_init_21 (fun q3 H hP hD hS => ?_)
  have hP : va_P D classes [(h0, .inr (0, [.ref q1, .ref q2, .null, .null, .null, .null, .int 0, .int 0, .int 0, .int 0])), (q1, .inl (cA 0, 36, .inl (s0 0))), (q2, .inl (cA 0, 2, .inl (s0 1))), (q3, .inl (cA 0, 5, .inl (s0 2)))] H := hP
  have hD : va_D A [(h0, .inr (0, [.ref q1, .ref q2, .null, .null, .null, .null, .int 0, .int 0, .int 0, .int 0])), (q1, .inl (cA 0, 36, .inl (s0 0))), (q2, .inl (cA 0, 2, .inl (s0 1))), (q3, .inl (cA 0, 5, .inl (s0 2)))] := hD
  refine W.widen (k := 3) (n := 43) (by decide) (by decide) ?_
  refine va_putF (D := D) (ci := 0) (v := .ref q3) (ty := .array .int) (C := R_B) (T := F_B) (N := 10) hx hb hT in_B ft_B ft_B_ok n_B hown hK hP hD hS 0 rfl rfl 2 (by decide) (hT _ fl_B_16) (fun _ h9 => h9) rfl hin rfl (by decide +kernel) rfl rfl (Nat.le_of_ble_eq_true rfl) d_B_init_23 (fun H locs hP hD hS => ?_)
  have hP : va_P D classes [(h0, .inr (0, [.ref q1, .ref q2, .ref q3, .null, .null, .null, .int 0, .int 0, .int 0, .int 0])), (q1, .inl (cA 0, 36, .inl (s0 0))), (q2, .inl (cA 0, 2, .inl (s0 1))), (q3, .inl (cA 0, 5, .inl (s0 2)))] H := hP
  have hD : va_D A [(h0, .inr (0, [.ref q1, .ref q2, .ref q3, .null, .null, .null, .int 0, .int 0, .int 0, .int 0])), (q1, .inl (cA 0, 36, .inl (s0 0))), (q2, .inl (cA 0, 2, .inl (s0 1))), (q3, .inl (cA 0, 5, .inl (s0 2)))] := hD
  refine lv_aload_n hx hb d_B_init_26 rfl (lv_at hl 0 rfl) ?_
  refine lv_sipush (v := (160 : Int32)) hx hb d_B_init_27 (by decide) ?_
  refine knewa (atype := .int) (a0 := (160, .inl (s0 3))) (ty := .int) hx hb (hT _ ac_I) rfl hK hP hD hS hA 0 rfl (fun _ h => h) (fun _ => rfl) (by decide) (by decide) (by decide) (by decide) (by decide) d_B_init_30 (fun q4 H hP hD hS => ?_)
  have hP : va_P D classes [(h0, .inr (0, [.ref q1, .ref q2, .ref q3, .null, .null, .null, .int 0, .int 0, .int 0, .int 0])), (q1, .inl (cA 0, 36, .inl (s0 0))), (q2, .inl (cA 0, 2, .inl (s0 1))), (q3, .inl (cA 0, 5, .inl (s0 2))), (q4, .inl (cA 0, 160, .inl (s0 3)))] H := hP
  have hD : va_D A [(h0, .inr (0, [.ref q1, .ref q2, .ref q3, .null, .null, .null, .int 0, .int 0, .int 0, .int 0])), (q1, .inl (cA 0, 36, .inl (s0 0))), (q2, .inl (cA 0, 2, .inl (s0 1))), (q3, .inl (cA 0, 5, .inl (s0 2))), (q4, .inl (cA 0, 160, .inl (s0 3)))] := hD
  refine W.widen (k := 4) (n := 203) (by decide) (by decide) ?_
  refine va_putF (D := D) (ci := 0) (v := .ref q4) (ty := .array .int) (C := R_B) (T := F_B) (N := 10) hx hb hT in_B ft_B ft_B_ok n_B hown hK hP hD hS 0 rfl rfl 3 (by decide) (hT _ fl_B_19) (fun _ h9 => h9) rfl hin rfl (by decide +kernel) rfl rfl (Nat.le_of_ble_eq_true rfl) d_B_init_32 (fun H locs hP hD hS => ?_)
  have hP : va_P D classes [(h0, .inr (0, [.ref q1, .ref q2, .ref q3, .ref q4, .null, .null, .int 0, .int 0, .int 0, .int 0])), (q1, .inl (cA 0, 36, .inl (s0 0))), (q2, .inl (cA 0, 2, .inl (s0 1))), (q3, .inl (cA 0, 5, .inl (s0 2))), (q4, .inl (cA 0, 160, .inl (s0 3)))] H := hP
  have hD : va_D A [(h0, .inr (0, [.ref q1, .ref q2, .ref q3, .ref q4, .null, .null, .int 0, .int 0, .int 0, .int 0])), (q1, .inl (cA 0, 36, .inl (s0 0))), (q2, .inl (cA 0, 2, .inl (s0 1))), (q3, .inl (cA 0, 5, .inl (s0 2))), (q4, .inl (cA 0, 160, .inl (s0 3)))] := hD
  refine lv_aload_n hx hb d_B_init_35 rfl (lv_at hl 0 rfl) ?_
  refine lv_bipush (v := (6 : Int32)) hx hb d_B_init_36 (by decide) ?_
  refine knewa (atype := .int) (a0 := (6, .inl (s0 4))) (ty := .int) hx hb (hT _ ac_I) rfl hK hP hD hS hA 0 rfl (fun _ h => h) (fun _ => rfl) (by decide) (by decide) (by decide) (by decide) (by decide) d_B_init_38 (fun q5 H hP hD hS => ?_)
  have hP : va_P D classes [(h0, .inr (0, [.ref q1, .ref q2, .ref q3, .ref q4, .null, .null, .int 0, .int 0, .int 0, .int 0])), (q1, .inl (cA 0, 36, .inl (s0 0))), (q2, .inl (cA 0, 2, .inl (s0 1))), (q3, .inl (cA 0, 5, .inl (s0 2))), (q4, .inl (cA 0, 160, .inl (s0 3))), (q5, .inl (cA 0, 6, .inl (s0 4)))] H := hP
  have hD : va_D A [(h0, .inr (0, [.ref q1, .ref q2, .ref q3, .ref q4, .null, .null, .int 0, .int 0, .int 0, .int 0])), (q1, .inl (cA 0, 36, .inl (s0 0))), (q2, .inl (cA 0, 2, .inl (s0 1))), (q3, .inl (cA 0, 5, .inl (s0 2))), (q4, .inl (cA 0, 160, .inl (s0 3))), (q5, .inl (cA 0, 6, .inl (s0 4)))] := hD
  refine W.widen (k := 5) (n := 209) (by decide) (by decide) ?_
  refine va_putF (D := D) (ci := 0) (v := .ref q5) (ty := .array .int) (C := R_B) (T := F_B) (N := 10) hx hb hT in_B ft_B ft_B_ok n_B hown hK hP hD hS 0 rfl rfl 4 (by decide) (hT _ fl_B_22) (fun _ h9 => h9) rfl hin rfl (by decide +kernel) rfl rfl (Nat.le_of_ble_eq_true rfl) d_B_init_40 (fun H locs hP hD hS => ?_)
  have hP : va_P D classes [(h0, .inr (0, [.ref q1, .ref q2, .ref q3, .ref q4, .ref q5, .null, .int 0, .int 0, .int 0, .int 0])), (q1, .inl (cA 0, 36, .inl (s0 0))), (q2, .inl (cA 0, 2, .inl (s0 1))), (q3, .inl (cA 0, 5, .inl (s0 2))), (q4, .inl (cA 0, 160, .inl (s0 3))), (q5, .inl (cA 0, 6, .inl (s0 4)))] H := hP
  have hD : va_D A [(h0, .inr (0, [.ref q1, .ref q2, .ref q3, .ref q4, .ref q5, .null, .int 0, .int 0, .int 0, .int 0])), (q1, .inl (cA 0, 36, .inl (s0 0))), (q2, .inl (cA 0, 2, .inl (s0 1))), (q3, .inl (cA 0, 5, .inl (s0 2))), (q4, .inl (cA 0, 160, .inl (s0 3))), (q5, .inl (cA 0, 6, .inl (s0 4)))] := hD
  refine lv_aload_n hx hb d_B_init_43 rfl (lv_at hl 0 rfl) ?_
  refine va_new (ci := 1) (fs := [.int 0, .int 0, .int 0, .int 0]) (C := R_T) (T := F_T) (N := 4) hx hb hT in_T ft_T ft_T_ok hown (hT _ cl_B_25) (hT _ ins_T) (hT _ wi_T) hK hP hD hS hA rfl (fun j hj => by rcases (show j = 0 ∨ j = 1 ∨ j = 2 ∨ j = 3 by omega) with rfl | rfl | rfl | rfl <;> rfl) (by decide) (by decide) d_B_init_44 (fun q6 H hP hD hS => ?_)
  have hP : va_P D classes [(h0, .inr (0, [.ref q1, .ref q2, .ref q3, .ref q4, .ref q5, .null, .int 0, .int 0, .int 0, .int 0])), (q1, .inl (cA 0, 36, .inl (s0 0))), (q2, .inl (cA 0, 2, .inl (s0 1))), (q3, .inl (cA 0, 5, .inl (s0 2))), (q4, .inl (cA 0, 160, .inl (s0 3))), (q5, .inl (cA 0, 6, .inl (s0 4))), (q6, .inr (1, [.int 0, .int 0, .int 0, .int 0]))] H := hP
  have hD : va_D A [(h0, .inr (0, [.ref q1, .ref q2, .ref q3, .ref q4, .ref q5, .null, .int 0, .int 0, .int 0, .int 0])), (q1, .inl (cA 0, 36, .inl (s0 0))), (q2, .inl (cA 0, 2, .inl (s0 1))), (q3, .inl (cA 0, 5, .inl (s0 2))), (q4, .inl (cA 0, 160, .inl (s0 3))), (q5, .inl (cA 0, 6, .inl (s0 4))), (q6, .inr (1, [.int 0, .int 0, .int 0, .int 0]))] := hD
  refine W.widen (k := 6) (n := 213) (by decide) (by decide) ?_
  refine lv_dup hx hb d_B_init_47 rfl ?_
  have hPc := hP.sub (ws' := [(q6, .inr (1, [.int 0, .int 0, .int 0, .int 0]))]) [6] rfl
  have hDc := hD.sub (ws' := [(q6, .inr (1, [.int 0, .int 0, .int 0, .int 0]))]) [6] (by decide) rfl
  have hFc := va_free (wc := [(q6, .inr (1, [.int 0, .int 0, .int 0, .int 0]))]) hD hS hA [6] rfl
  refine kcvJ (va_runIN (As := []) (rest := [.ref q6, .ref h0]) ⟨hx, hb, hml, hown, hT⟩ (c_T_init l D cA q6 H.size) (kCNI 0 hT ml_B_27 ⟨⟨wc_T_init, wi_T, by decide +kernel, by decide +kernel, by decide +kernel⟩, wm_T_init⟩ rfl ⟨Nat.le_of_ble_eq_true rfl, Nat.le_of_ble_eq_true rfl⟩) ⟨fun a U g mk q => by obtain ⟨q0, q1, qP, qK, qD⟩ := q; exact ⟨q0, q1, qP, va_K.moved (u := U) (U := U.calling g mk a) (Vm.Alike.refl U.vm) qK, qD⟩, fun U hU hW => ⟨rfl, by rw [hU], by rw [hU]; exact hPc, va_K.moved hW.alike hK, hDc.weaken (fun _ _ _ _ => trivial)⟩⟩ rfl rfl hl.1 rfl (lv_room (Nat.le_of_ble_eq_true rfl)) d_B_init_48 ⟨by decide, by decide⟩) hS (fun q _ h => hFc q h) hFc (fun H1 locs hP1 hz1 hk1 hS => ?_)
  have hDq : va_D (va_A [(q6, .inr (1, [.int 0, .int 0, .int 0, .int 0]))] H.size) [(q6, .inr (1, [.int 0, .int 1024, .int 3072, .int 0]))] := ⟨fun i j x y hi hj _ => by have h1 := (List.getElem?_eq_some_iff.mp hi).1; have h2 := (List.getElem?_eq_some_iff.mp hj).1; simp at h1 h2; omega, fun k x hx9 => Or.inl ⟨k, _, by have h1 := (List.getElem?_eq_some_iff.mp hx9).1; simp at h1; subst h1; simp at hx9; subst hx9; rfl⟩⟩
  obtain ⟨hP, hD⟩ := va_join (wr := [(h0, .inr (0, [.ref q1, .ref q2, .ref q3, .ref q4, .ref q5, .null, .int 0, .int 0, .int 0, .int 0])), (q1, .inl (cA 0, 36, .inl (s0 0))), (q2, .inl (cA 0, 2, .inl (s0 1))), (q3, .inl (cA 0, 5, .inl (s0 2))), (q4, .inl (cA 0, 160, .inl (s0 3))), (q5, .inl (cA 0, 6, .inl (s0 4)))]) (w1 := [(q6, .inr (1, [.int 0, .int 1024, .int 3072, .int 0]))]) hP hD [6] [0, 1, 2, 3, 4, 5] rfl rfl (by decide) (by decide) hk1 hFc hP1 hDq
  generalize H1 = H at hP hS ⊢
  have hP : va_P D classes [(h0, .inr (0, [.ref q1, .ref q2, .ref q3, .ref q4, .ref q5, .null, .int 0, .int 0, .int 0, .int 0])), (q1, .inl (cA 0, 36, .inl (s0 0))), (q2, .inl (cA 0, 2, .inl (s0 1))), (q3, .inl (cA 0, 5, .inl (s0 2))), (q4, .inl (cA 0, 160, .inl (s0 3))), (q5, .inl (cA 0, 6, .inl (s0 4))), (q6, .inr (1, [.int 0, .int 1024, .int 3072, .int 0]))] H := hP
  have hD : va_D A [(h0, .inr (0, [.ref q1, .ref q2, .ref q3, .ref q4, .ref q5, .null, .int 0, .int 0, .int 0, .int 0])), (q1, .inl (cA 0, 36, .inl (s0 0))), (q2, .inl (cA 0, 2, .inl (s0 1))), (q3, .inl (cA 0, 5, .inl (s0 2))), (q4, .inl (cA 0, 160, .inl (s0 3))), (q5, .inl (cA 0, 6, .inl (s0 4))), (q6, .inr (1, [.int 0, .int 1024, .int 3072, .int 0]))] := hD
  refine va_putF (D := D) (ci := 0) (v := .ref q6) (ty := .object "BeamDrawer$Timer") (C := R_B) (T := F_B) (N := 10) hx hb hT in_B ft_B ft_B_ok n_B hown hK hP hD hS 0 rfl rfl 5 (by decide) (hT _ fl_B_28) (fun _ h9 => h9) rfl hin rfl (by decide +kernel) rfl rfl (Nat.le_of_ble_eq_true rfl) d_B_init_51 (fun H locs hP hD hS => ?_)
  have hP : va_P D classes [(h0, .inr (0, [.ref q1, .ref q2, .ref q3, .ref q4, .ref q5, .ref q6, .int 0, .int 0, .int 0, .int 0])), (q1, .inl (cA 0, 36, .inl (s0 0))), (q2, .inl (cA 0, 2, .inl (s0 1))), (q3, .inl (cA 0, 5, .inl (s0 2))), (q4, .inl (cA 0, 160, .inl (s0 3))), (q5, .inl (cA 0, 6, .inl (s0 4))), (q6, .inr (1, [.int 0, .int 1024, .int 3072, .int 0]))] H := hP
  have hD : va_D A [(h0, .inr (0, [.ref q1, .ref q2, .ref q3, .ref q4, .ref q5, .ref q6, .int 0, .int 0, .int 0, .int 0])), (q1, .inl (cA 0, 36, .inl (s0 0))), (q2, .inl (cA 0, 2, .inl (s0 1))), (q3, .inl (cA 0, 5, .inl (s0 2))), (q4, .inl (cA 0, 160, .inl (s0 3))), (q5, .inl (cA 0, 6, .inl (s0 4))), (q6, .inr (1, [.int 0, .int 1024, .int 3072, .int 0]))] := hD
  exact W.vret hx hb hr (fun t ht hW => ⟨⟨kadr [(h0, .inr (0, [.ref q1, .ref q2, .ref q3, .ref q4, .ref q5, .ref q6, .int 0, .int 0, .int 0, .int 0])), (q1, .inl (cA 0, 36, .inl (s0 0))), (q2, .inl (cA 0, 2, .inl (s0 1))), (q3, .inl (cA 0, 5, .inl (s0 2))), (q4, .inl (cA 0, 160, .inl (s0 3))), (q5, .inl (cA 0, 6, .inl (s0 4))), (q6, .inr (1, [.int 0, .int 1024, .int 3072, .int 0]))], rfl, ⟨rfl, kadr_ap rfl hD, kadr_in rfl hD⟩, by show va_P D classes _ t.heap; rw [ht]; exact hP⟩, hS.F ht⟩) hS.2.2 d_B_init_54
set_option maxRecDepth 100000 in
set_option maxHeartbeats 4000000 in
theorem c_M_init (l : Launch) (D : va_G) (cA : Nat → Nat) (h0 sz : Nat) : Met l y_M_init w_M_init ({ frames := 1, cells := 7, slots := 239, locals := 12 } : Room) (va_Pc [.ref h0] (fun U => U.heap.size = sz ∧ va_P D classes [(h0, .inr (2, [.int 0, .null, .null, .null, .null, .int 0, .int 0, .null, .null, .null, .int 0, .int 0, .int 0, .int 0, .int 0, .int 0, .int 0]))] U.heap ∧ va_K D classes (kty cA) U ∧ va_D (fun _ => True) [(h0, .inr (2, [.int 0, .null, .null, .null, .null, .int 0, .int 0, .null, .null, .null, .int 0, .int 0, .int 0, .int 0, .int 0, .int 0, .int 0]))])) (va_Qv (fun ad : Nat → Nat => ad 0 = h0 ∧ kap 8 ad ∧ ∀ k, k < 8 → va_A [(h0, .inr (2, [.int 0, .null, .null, .null, .null, .int 0, .int 0, .null, .null, .null, .int 0, .int 0, .int 0, .int 0, .int 0, .int 0, .int 0]))] sz (ad k)) (fun ad t => va_P D classes (mw cA ad m0) t.heap) (va_A [(h0, .inr (2, [.int 0, .null, .null, .null, .null, .int 0, .int 0, .null, .null, .null, .int 0, .int 0, .int 0, .int 0, .int 0, .int 0, .int 0]))] sz)) 7 239 (va_A [(h0, .inr (2, [.int 0, .null, .null, .null, .null, .int 0, .int 0, .null, .null, .null, .int 0, .int 0, .int 0, .int 0, .int 0, .int 0, .int 0]))] sz) := by
  refine Met.ofW (cc := b_M_init) (maxL := 1) (ret := none) (by decide) rfl ?_
  intro p e s m args below meth c s₁ B hml hv
  obtain ⟨rfl, hsz, hP, hK, hD0⟩ := hv
  have hx := B.exec
  have hb := B.bytes
  have hr := B.returns
  have hlocks := B.notSynchronized
  have hT : ∀ w ∈ TB, w.before ([.ref h0] : List Value).toArray s = true := fun w h => atoms_spec (ws := w_M_init) B.pre w (List.mem_cons_of_mem _ h)
  have hown : s.vm.findClass R_M = some m.cls := findClass_of_methodNamed B.named
  have hin : meth.name = "<init>" := (name_of_methodNamed B.named B.method).1
  subst hsz
  have hD := hD0.self (sz := s.heap.size)
  generalize hAe : va_A [(h0, .inr (2, [.int 0, .null, .null, .null, .null, .int 0, .int 0, .null, .null, .null, .int 0, .int 0, .int 0, .int 0, .int 0, .int 0, .int 0]))] s.heap.size = A at hD ⊢
  have hA : ∀ q : Nat, s.heap.size ≤ q → A q := fun q h => by rw [← hAe]; exact Or.inr h
  have hS : va_S A s.heap s.heap [] := va_S.rf
  have hl := lv_entry ([.ref h0]) (n := 1) (Nat.le_of_ble_eq_true rfl)
  rw [lg_entry_eq]
  generalize (lg_sl ([.ref h0]) ++ List.replicate (1 - (lg_sl ([.ref h0])).length) Slot.unset).toArray = ls at hl ⊢
  have hl : lv_has ls 1 [(0, .ref h0)] := hl
  refine lv_aload_n hx hb d_M_init_0 rfl (lv_at hl 0 rfl) ?_
  refine W.objInit hx hb hown (hT _ ml_M_1) (hT _ wm_JO_init) (hT _ wc_JO_init) (g := F0 m (0 + 1) ls [.ref h0]) rfl (by rw [hml]; exact hl.1) rfl d_M_init_1 (Nat.le_of_ble_eq_true rfl) (Nat.le_of_ble_eq_true rfl) ?_
  refine W.eq (g2 := F0 m 4 ls []) rfl ?_
  refine lv_aload_n hx hb d_M_init_4 rfl (lv_at hl 0 rfl) ?_
  refine lv_bipush (v := (28 : Int32)) hx hb d_M_init_5 (by decide) ?_
  refine knewa (atype := .int) (a0 := (28, .inl (m0 0))) (ty := .int) hx hb (hT _ ac_I) rfl hK hP hD hS hA 0 rfl (fun _ h => h) (fun _ => rfl) (by decide) (by decide) (by decide) (by decide) (by decide) d_M_init_7 (fun q1 H hP hD hS => ?_)
  have hP : va_P D classes [(h0, .inr (2, [.int 0, .null, .null, .null, .null, .int 0, .int 0, .null, .null, .null, .int 0, .int 0, .int 0, .int 0, .int 0, .int 0, .int 0])), (q1, .inl (cA 0, 28, .inl (m0 0)))] H := hP
  have hD : va_D A [(h0, .inr (2, [.int 0, .null, .null, .null, .null, .int 0, .int 0, .null, .null, .null, .int 0, .int 0, .int 0, .int 0, .int 0, .int 0, .int 0])), (q1, .inl (cA 0, 28, .inl (m0 0)))] := hD
  refine W.widen (k := 1) (n := 28) (by decide) (by decide) ?_
  refine va_putF (D := D) (ci := 2) (v := .ref q1) (ty := .array .int) (C := R_M) (T := F_M) (N := 17) hx hb hT in_M ft_M ft_M_ok n_M hown hK hP hD hS 0 rfl rfl 1 (by decide) (hT _ fl_M_7) (fun _ h9 => h9) rfl hin rfl (by decide +kernel) rfl rfl (Nat.le_of_ble_eq_true rfl) d_M_init_9 (fun H locs hP hD hS => ?_)
  have hP : va_P D classes [(h0, .inr (2, [.int 0, .ref q1, .null, .null, .null, .int 0, .int 0, .null, .null, .null, .int 0, .int 0, .int 0, .int 0, .int 0, .int 0, .int 0])), (q1, .inl (cA 0, 28, .inl (m0 0)))] H := hP
  have hD : va_D A [(h0, .inr (2, [.int 0, .ref q1, .null, .null, .null, .int 0, .int 0, .null, .null, .null, .int 0, .int 0, .int 0, .int 0, .int 0, .int 0, .int 0])), (q1, .inl (cA 0, 28, .inl (m0 0)))] := hD
  refine lv_aload_n hx hb d_M_init_12 rfl (lv_at hl 0 rfl) ?_
  refine lv_iconst (v := (5 : Int32)) hx hb d_M_init_13 (by decide) ?_
  refine knewa (atype := .int) (a0 := (5, .inl (m0 1))) (ty := .int) hx hb (hT _ ac_I) rfl hK hP hD hS hA 0 rfl (fun _ h => h) (fun _ => rfl) (by decide) (by decide) (by decide) (by decide) (by decide) d_M_init_14 (fun q2 H hP hD hS => ?_)
  have hP : va_P D classes [(h0, .inr (2, [.int 0, .ref q1, .null, .null, .null, .int 0, .int 0, .null, .null, .null, .int 0, .int 0, .int 0, .int 0, .int 0, .int 0, .int 0])), (q1, .inl (cA 0, 28, .inl (m0 0))), (q2, .inl (cA 0, 5, .inl (m0 1)))] H := hP
  have hD : va_D A [(h0, .inr (2, [.int 0, .ref q1, .null, .null, .null, .int 0, .int 0, .null, .null, .null, .int 0, .int 0, .int 0, .int 0, .int 0, .int 0, .int 0])), (q1, .inl (cA 0, 28, .inl (m0 0))), (q2, .inl (cA 0, 5, .inl (m0 1)))] := hD
  refine W.widen (k := 2) (n := 33) (by decide) (by decide) ?_
  refine va_putF (D := D) (ci := 2) (v := .ref q2) (ty := .array .int) (C := R_M) (T := F_M) (N := 17) hx hb hT in_M ft_M ft_M_ok n_M hown hK hP hD hS 0 rfl rfl 2 (by decide) (hT _ fl_M_13) (fun _ h9 => h9) rfl hin rfl (by decide +kernel) rfl rfl (Nat.le_of_ble_eq_true rfl) d_M_init_16 (fun H locs hP hD hS => ?_)
  have hP : va_P D classes [(h0, .inr (2, [.int 0, .ref q1, .ref q2, .null, .null, .int 0, .int 0, .null, .null, .null, .int 0, .int 0, .int 0, .int 0, .int 0, .int 0, .int 0])), (q1, .inl (cA 0, 28, .inl (m0 0))), (q2, .inl (cA 0, 5, .inl (m0 1)))] H := hP
  have hD : va_D A [(h0, .inr (2, [.int 0, .ref q1, .ref q2, .null, .null, .int 0, .int 0, .null, .null, .null, .int 0, .int 0, .int 0, .int 0, .int 0, .int 0, .int 0])), (q1, .inl (cA 0, 28, .inl (m0 0))), (q2, .inl (cA 0, 5, .inl (m0 1)))] := hD
  refine lv_aload_n hx hb d_M_init_19 rfl (lv_at hl 0 rfl) ?_
  refine lv_iconst (v := (2 : Int32)) hx hb d_M_init_20 (by decide) ?_
  refine knewa (atype := .int) (a0 := (2, .inl (m0 2))) (ty := .int) hx hb (hT _ ac_I) rfl hK hP hD hS hA 0 rfl (fun _ h => h) (fun _ => rfl) (by decide) (by decide) (by decide) (by decide) (by decide) d_M_init_21 (fun q3 H hP hD hS => ?_)
  have hP : va_P D classes [(h0, .inr (2, [.int 0, .ref q1, .ref q2, .null, .null, .int 0, .int 0, .null, .null, .null, .int 0, .int 0, .int 0, .int 0, .int 0, .int 0, .int 0])), (q1, .inl (cA 0, 28, .inl (m0 0))), (q2, .inl (cA 0, 5, .inl (m0 1))), (q3, .inl (cA 0, 2, .inl (m0 2)))] H := hP
  have hD : va_D A [(h0, .inr (2, [.int 0, .ref q1, .ref q2, .null, .null, .int 0, .int 0, .null, .null, .null, .int 0, .int 0, .int 0, .int 0, .int 0, .int 0, .int 0])), (q1, .inl (cA 0, 28, .inl (m0 0))), (q2, .inl (cA 0, 5, .inl (m0 1))), (q3, .inl (cA 0, 2, .inl (m0 2)))] := hD
  refine W.widen (k := 3) (n := 35) (by decide) (by decide) ?_
  refine va_putF (D := D) (ci := 2) (v := .ref q3) (ty := .array .int) (C := R_M) (T := F_M) (N := 17) hx hb hT in_M ft_M ft_M_ok n_M hown hK hP hD hS 0 rfl rfl 3 (by decide) (hT _ fl_M_16) (fun _ h9 => h9) rfl hin rfl (by decide +kernel) rfl rfl (Nat.le_of_ble_eq_true rfl) d_M_init_23 (fun H locs hP hD hS => ?_)
  have hP : va_P D classes [(h0, .inr (2, [.int 0, .ref q1, .ref q2, .ref q3, .null, .int 0, .int 0, .null, .null, .null, .int 0, .int 0, .int 0, .int 0, .int 0, .int 0, .int 0])), (q1, .inl (cA 0, 28, .inl (m0 0))), (q2, .inl (cA 0, 5, .inl (m0 1))), (q3, .inl (cA 0, 2, .inl (m0 2)))] H := hP
  have hD : va_D A [(h0, .inr (2, [.int 0, .ref q1, .ref q2, .ref q3, .null, .int 0, .int 0, .null, .null, .null, .int 0, .int 0, .int 0, .int 0, .int 0, .int 0, .int 0])), (q1, .inl (cA 0, 28, .inl (m0 0))), (q2, .inl (cA 0, 5, .inl (m0 1))), (q3, .inl (cA 0, 2, .inl (m0 2)))] := hD
  refine lv_aload_n hx hb d_M_init_26 rfl (lv_at hl 0 rfl) ?_
  refine lv_iconst (v := (2 : Int32)) hx hb d_M_init_27 (by decide) ?_
  refine knewa (atype := .int) (a0 := (2, .inl (m0 3))) (ty := .int) hx hb (hT _ ac_I) rfl hK hP hD hS hA 0 rfl (fun _ h => h) (fun _ => rfl) (by decide) (by decide) (by decide) (by decide) (by decide) d_M_init_28 (fun q4 H hP hD hS => ?_)
  have hP : va_P D classes [(h0, .inr (2, [.int 0, .ref q1, .ref q2, .ref q3, .null, .int 0, .int 0, .null, .null, .null, .int 0, .int 0, .int 0, .int 0, .int 0, .int 0, .int 0])), (q1, .inl (cA 0, 28, .inl (m0 0))), (q2, .inl (cA 0, 5, .inl (m0 1))), (q3, .inl (cA 0, 2, .inl (m0 2))), (q4, .inl (cA 0, 2, .inl (m0 3)))] H := hP
  have hD : va_D A [(h0, .inr (2, [.int 0, .ref q1, .ref q2, .ref q3, .null, .int 0, .int 0, .null, .null, .null, .int 0, .int 0, .int 0, .int 0, .int 0, .int 0, .int 0])), (q1, .inl (cA 0, 28, .inl (m0 0))), (q2, .inl (cA 0, 5, .inl (m0 1))), (q3, .inl (cA 0, 2, .inl (m0 2))), (q4, .inl (cA 0, 2, .inl (m0 3)))] := hD
  refine W.widen (k := 4) (n := 37) (by decide) (by decide) ?_
  refine va_putF (D := D) (ci := 2) (v := .ref q4) (ty := .array .int) (C := R_M) (T := F_M) (N := 17) hx hb hT in_M ft_M ft_M_ok n_M hown hK hP hD hS 0 rfl rfl 4 (by decide) (hT _ fl_M_19) (fun _ h9 => h9) rfl hin rfl (by decide +kernel) rfl rfl (Nat.le_of_ble_eq_true rfl) d_M_init_30 (fun H locs hP hD hS => ?_)
  have hP : va_P D classes [(h0, .inr (2, [.int 0, .ref q1, .ref q2, .ref q3, .ref q4, .int 0, .int 0, .null, .null, .null, .int 0, .int 0, .int 0, .int 0, .int 0, .int 0, .int 0])), (q1, .inl (cA 0, 28, .inl (m0 0))), (q2, .inl (cA 0, 5, .inl (m0 1))), (q3, .inl (cA 0, 2, .inl (m0 2))), (q4, .inl (cA 0, 2, .inl (m0 3)))] H := hP
  have hD : va_D A [(h0, .inr (2, [.int 0, .ref q1, .ref q2, .ref q3, .ref q4, .int 0, .int 0, .null, .null, .null, .int 0, .int 0, .int 0, .int 0, .int 0, .int 0, .int 0])), (q1, .inl (cA 0, 28, .inl (m0 0))), (q2, .inl (cA 0, 5, .inl (m0 1))), (q3, .inl (cA 0, 2, .inl (m0 2))), (q4, .inl (cA 0, 2, .inl (m0 3)))] := hD
  refine lv_aload_n hx hb d_M_init_33 rfl (lv_at hl 0 rfl) ?_
  refine lv_bipush (v := (36 : Int32)) hx hb d_M_init_34 (by decide) ?_
  refine knewa (atype := .boolean) (a0 := (36, .inl (m0 4))) (ty := .boolean) hx hb (hT _ ac_Z) rfl hK hP hD hS hA 1 rfl (fun _ h => h) (fun _ => rfl) (by decide) (by decide) (by decide) (by decide) (by decide) d_M_init_36 (fun q5 H hP hD hS => ?_)
  have hP : va_P D classes [(h0, .inr (2, [.int 0, .ref q1, .ref q2, .ref q3, .ref q4, .int 0, .int 0, .null, .null, .null, .int 0, .int 0, .int 0, .int 0, .int 0, .int 0, .int 0])), (q1, .inl (cA 0, 28, .inl (m0 0))), (q2, .inl (cA 0, 5, .inl (m0 1))), (q3, .inl (cA 0, 2, .inl (m0 2))), (q4, .inl (cA 0, 2, .inl (m0 3))), (q5, .inl (cA 1, 36, .inl (m0 4)))] H := hP
  have hD : va_D A [(h0, .inr (2, [.int 0, .ref q1, .ref q2, .ref q3, .ref q4, .int 0, .int 0, .null, .null, .null, .int 0, .int 0, .int 0, .int 0, .int 0, .int 0, .int 0])), (q1, .inl (cA 0, 28, .inl (m0 0))), (q2, .inl (cA 0, 5, .inl (m0 1))), (q3, .inl (cA 0, 2, .inl (m0 2))), (q4, .inl (cA 0, 2, .inl (m0 3))), (q5, .inl (cA 1, 36, .inl (m0 4)))] := hD
  refine W.widen (k := 5) (n := 73) (by decide) (by decide) ?_
  refine va_putF (D := D) (ci := 2) (v := .ref q5) (ty := .array .boolean) (C := R_M) (T := F_M) (N := 17) hx hb hT in_M ft_M ft_M_ok n_M hown hK hP hD hS 0 rfl rfl 7 (by decide) (hT _ fl_M_22) (fun _ h9 => h9) rfl hin rfl (by decide +kernel) rfl rfl (Nat.le_of_ble_eq_true rfl) d_M_init_38 (fun H locs hP hD hS => ?_)
  have hP : va_P D classes [(h0, .inr (2, [.int 0, .ref q1, .ref q2, .ref q3, .ref q4, .int 0, .int 0, .ref q5, .null, .null, .int 0, .int 0, .int 0, .int 0, .int 0, .int 0, .int 0])), (q1, .inl (cA 0, 28, .inl (m0 0))), (q2, .inl (cA 0, 5, .inl (m0 1))), (q3, .inl (cA 0, 2, .inl (m0 2))), (q4, .inl (cA 0, 2, .inl (m0 3))), (q5, .inl (cA 1, 36, .inl (m0 4)))] H := hP
  have hD : va_D A [(h0, .inr (2, [.int 0, .ref q1, .ref q2, .ref q3, .ref q4, .int 0, .int 0, .ref q5, .null, .null, .int 0, .int 0, .int 0, .int 0, .int 0, .int 0, .int 0])), (q1, .inl (cA 0, 28, .inl (m0 0))), (q2, .inl (cA 0, 5, .inl (m0 1))), (q3, .inl (cA 0, 2, .inl (m0 2))), (q4, .inl (cA 0, 2, .inl (m0 3))), (q5, .inl (cA 1, 36, .inl (m0 4)))] := hD
  refine lv_aload_n hx hb d_M_init_41 rfl (lv_at hl 0 rfl) ?_
  refine lv_sipush (v := (160 : Int32)) hx hb d_M_init_42 (by decide) ?_
  refine knewa (atype := .int) (a0 := (160, .inl (m0 5))) (ty := .int) hx hb (hT _ ac_I) rfl hK hP hD hS hA 0 rfl (fun _ h => h) (fun _ => rfl) (by decide) (by decide) (by decide) (by decide) (by decide) d_M_init_45 (fun q6 H hP hD hS => ?_)
  have hP : va_P D classes [(h0, .inr (2, [.int 0, .ref q1, .ref q2, .ref q3, .ref q4, .int 0, .int 0, .ref q5, .null, .null, .int 0, .int 0, .int 0, .int 0, .int 0, .int 0, .int 0])), (q1, .inl (cA 0, 28, .inl (m0 0))), (q2, .inl (cA 0, 5, .inl (m0 1))), (q3, .inl (cA 0, 2, .inl (m0 2))), (q4, .inl (cA 0, 2, .inl (m0 3))), (q5, .inl (cA 1, 36, .inl (m0 4))), (q6, .inl (cA 0, 160, .inl (m0 5)))] H := hP
  have hD : va_D A [(h0, .inr (2, [.int 0, .ref q1, .ref q2, .ref q3, .ref q4, .int 0, .int 0, .ref q5, .null, .null, .int 0, .int 0, .int 0, .int 0, .int 0, .int 0, .int 0])), (q1, .inl (cA 0, 28, .inl (m0 0))), (q2, .inl (cA 0, 5, .inl (m0 1))), (q3, .inl (cA 0, 2, .inl (m0 2))), (q4, .inl (cA 0, 2, .inl (m0 3))), (q5, .inl (cA 1, 36, .inl (m0 4))), (q6, .inl (cA 0, 160, .inl (m0 5)))] := hD
  refine W.widen (k := 6) (n := 233) (by decide) (by decide) ?_
  refine va_putF (D := D) (ci := 2) (v := .ref q6) (ty := .array .int) (C := R_M) (T := F_M) (N := 17) hx hb hT in_M ft_M ft_M_ok n_M hown hK hP hD hS 0 rfl rfl 8 (by decide) (hT _ fl_M_26) (fun _ h9 => h9) rfl hin rfl (by decide +kernel) rfl rfl (Nat.le_of_ble_eq_true rfl) d_M_init_47 (fun H locs hP hD hS => ?_)
  have hP : va_P D classes [(h0, .inr (2, [.int 0, .ref q1, .ref q2, .ref q3, .ref q4, .int 0, .int 0, .ref q5, .ref q6, .null, .int 0, .int 0, .int 0, .int 0, .int 0, .int 0, .int 0])), (q1, .inl (cA 0, 28, .inl (m0 0))), (q2, .inl (cA 0, 5, .inl (m0 1))), (q3, .inl (cA 0, 2, .inl (m0 2))), (q4, .inl (cA 0, 2, .inl (m0 3))), (q5, .inl (cA 1, 36, .inl (m0 4))), (q6, .inl (cA 0, 160, .inl (m0 5)))] H := hP
  have hD : va_D A [(h0, .inr (2, [.int 0, .ref q1, .ref q2, .ref q3, .ref q4, .int 0, .int 0, .ref q5, .ref q6, .null, .int 0, .int 0, .int 0, .int 0, .int 0, .int 0, .int 0])), (q1, .inl (cA 0, 28, .inl (m0 0))), (q2, .inl (cA 0, 5, .inl (m0 1))), (q3, .inl (cA 0, 2, .inl (m0 2))), (q4, .inl (cA 0, 2, .inl (m0 3))), (q5, .inl (cA 1, 36, .inl (m0 4))), (q6, .inl (cA 0, 160, .inl (m0 5)))] := hD
  refine lv_aload_n hx hb d_M_init_50 rfl (lv_at hl 0 rfl) ?_
  refine lv_bipush (v := (6 : Int32)) hx hb d_M_init_51 (by decide) ?_
  refine knewa (atype := .boolean) (a0 := (6, .inl (m0 6))) (ty := .boolean) hx hb (hT _ ac_Z) rfl hK hP hD hS hA 1 rfl (fun _ h => h) (fun _ => rfl) (by decide) (by decide) (by decide) (by decide) (by decide) d_M_init_53 (fun q7 H hP hD hS => ?_)
  have hP : va_P D classes [(h0, .inr (2, [.int 0, .ref q1, .ref q2, .ref q3, .ref q4, .int 0, .int 0, .ref q5, .ref q6, .null, .int 0, .int 0, .int 0, .int 0, .int 0, .int 0, .int 0])), (q1, .inl (cA 0, 28, .inl (m0 0))), (q2, .inl (cA 0, 5, .inl (m0 1))), (q3, .inl (cA 0, 2, .inl (m0 2))), (q4, .inl (cA 0, 2, .inl (m0 3))), (q5, .inl (cA 1, 36, .inl (m0 4))), (q6, .inl (cA 0, 160, .inl (m0 5))), (q7, .inl (cA 1, 6, .inl (m0 6)))] H := hP
  have hD : va_D A [(h0, .inr (2, [.int 0, .ref q1, .ref q2, .ref q3, .ref q4, .int 0, .int 0, .ref q5, .ref q6, .null, .int 0, .int 0, .int 0, .int 0, .int 0, .int 0, .int 0])), (q1, .inl (cA 0, 28, .inl (m0 0))), (q2, .inl (cA 0, 5, .inl (m0 1))), (q3, .inl (cA 0, 2, .inl (m0 2))), (q4, .inl (cA 0, 2, .inl (m0 3))), (q5, .inl (cA 1, 36, .inl (m0 4))), (q6, .inl (cA 0, 160, .inl (m0 5))), (q7, .inl (cA 1, 6, .inl (m0 6)))] := hD
  refine W.widen (k := 7) (n := 239) (by decide) (by decide) ?_
  refine va_putF (D := D) (ci := 2) (v := .ref q7) (ty := .array .boolean) (C := R_M) (T := F_M) (N := 17) hx hb hT in_M ft_M ft_M_ok n_M hown hK hP hD hS 0 rfl rfl 9 (by decide) (hT _ fl_M_29) (fun _ h9 => h9) rfl hin rfl (by decide +kernel) rfl rfl (Nat.le_of_ble_eq_true rfl) d_M_init_55 (fun H locs hP hD hS => ?_)
  have hP : va_P D classes [(h0, .inr (2, [.int 0, .ref q1, .ref q2, .ref q3, .ref q4, .int 0, .int 0, .ref q5, .ref q6, .ref q7, .int 0, .int 0, .int 0, .int 0, .int 0, .int 0, .int 0])), (q1, .inl (cA 0, 28, .inl (m0 0))), (q2, .inl (cA 0, 5, .inl (m0 1))), (q3, .inl (cA 0, 2, .inl (m0 2))), (q4, .inl (cA 0, 2, .inl (m0 3))), (q5, .inl (cA 1, 36, .inl (m0 4))), (q6, .inl (cA 0, 160, .inl (m0 5))), (q7, .inl (cA 1, 6, .inl (m0 6)))] H := hP
  have hD : va_D A [(h0, .inr (2, [.int 0, .ref q1, .ref q2, .ref q3, .ref q4, .int 0, .int 0, .ref q5, .ref q6, .ref q7, .int 0, .int 0, .int 0, .int 0, .int 0, .int 0, .int 0])), (q1, .inl (cA 0, 28, .inl (m0 0))), (q2, .inl (cA 0, 5, .inl (m0 1))), (q3, .inl (cA 0, 2, .inl (m0 2))), (q4, .inl (cA 0, 2, .inl (m0 3))), (q5, .inl (cA 1, 36, .inl (m0 4))), (q6, .inl (cA 0, 160, .inl (m0 5))), (q7, .inl (cA 1, 6, .inl (m0 6)))] := hD
  refine lv_aload_n hx hb d_M_init_58 rfl (lv_at hl 0 rfl) ?_
  refine lv_sipush (v := (1024 : Int32)) hx hb d_M_init_59 (by decide) ?_
  refine va_put (D := D) (ci := 2) (v := .int (1024 : Int32)) (ty := .int) (C := R_M) (T := F_M) (N := 17) hx hb hT in_M ft_M ft_M_ok n_M hown hK hP hD hS 0 rfl rfl 14 (by decide) (hT _ fl_M_32) (fun _ h9 => h9) rfl (by decide +kernel) rfl rfl (Nat.le_of_ble_eq_true rfl) d_M_init_62 (fun H locs hP hD hS => ?_)
  have hP : va_P D classes [(h0, .inr (2, [.int 0, .ref q1, .ref q2, .ref q3, .ref q4, .int 0, .int 0, .ref q5, .ref q6, .ref q7, .int 0, .int 0, .int 0, .int 0, .int 1024, .int 0, .int 0])), (q1, .inl (cA 0, 28, .inl (m0 0))), (q2, .inl (cA 0, 5, .inl (m0 1))), (q3, .inl (cA 0, 2, .inl (m0 2))), (q4, .inl (cA 0, 2, .inl (m0 3))), (q5, .inl (cA 1, 36, .inl (m0 4))), (q6, .inl (cA 0, 160, .inl (m0 5))), (q7, .inl (cA 1, 6, .inl (m0 6)))] H := hP
  have hD : va_D A [(h0, .inr (2, [.int 0, .ref q1, .ref q2, .ref q3, .ref q4, .int 0, .int 0, .ref q5, .ref q6, .ref q7, .int 0, .int 0, .int 0, .int 0, .int 1024, .int 0, .int 0])), (q1, .inl (cA 0, 28, .inl (m0 0))), (q2, .inl (cA 0, 5, .inl (m0 1))), (q3, .inl (cA 0, 2, .inl (m0 2))), (q4, .inl (cA 0, 2, .inl (m0 3))), (q5, .inl (cA 1, 36, .inl (m0 4))), (q6, .inl (cA 0, 160, .inl (m0 5))), (q7, .inl (cA 1, 6, .inl (m0 6)))] := hD
  exact W.vret hx hb hr (fun t ht hW => ⟨⟨kadr [(h0, .inr (2, [.int 0, .ref q1, .ref q2, .ref q3, .ref q4, .int 0, .int 0, .ref q5, .ref q6, .ref q7, .int 0, .int 0, .int 0, .int 0, .int 1024, .int 0, .int 0])), (q1, .inl (cA 0, 28, .inl (m0 0))), (q2, .inl (cA 0, 5, .inl (m0 1))), (q3, .inl (cA 0, 2, .inl (m0 2))), (q4, .inl (cA 0, 2, .inl (m0 3))), (q5, .inl (cA 1, 36, .inl (m0 4))), (q6, .inl (cA 0, 160, .inl (m0 5))), (q7, .inl (cA 1, 6, .inl (m0 6)))], rfl, ⟨rfl, kadr_ap rfl hD, kadr_in rfl hD⟩, by show va_P D classes _ t.heap; rw [ht]; exact hP⟩, hS.F ht⟩) hS.2.2 d_M_init_65
