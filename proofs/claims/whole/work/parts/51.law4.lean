theorem wc_M_write : (Jvm.Cond.code ({ cls := "BeamDrawerModel", name := "write", desc := "(II)V" } : Jvm.MethodName) prog_4_method_11_code (3 : Nat) (Option.none : Option Jvm.ClassFile.FieldType)) ∈ TB := kTB (List.mem_append_right _ (List.mem_of_getElem? (i := 411) (by decide +kernel))) rfl
theorem wm_M_write : (Jvm.Cond.instanceMethod ({ cls := "BeamDrawerModel", name := "write", desc := "(II)V" } : Jvm.MethodName)) ∈ TB := kTB (List.mem_append_right _ (List.mem_of_getElem? (i := 409) (by decide +kernel))) rfl
theorem wsel_M_write : (Jvm.Cond.selects "BeamDrawerModel" ({ cls := "BeamDrawerModel", name := "write", desc := "(II)V" } : Jvm.MethodName) ({ cls := "BeamDrawerModel", name := "write", desc := "(II)V" } : Jvm.MethodName)) ∈ TB := kTB (List.mem_append_right _ (List.mem_of_getElem? (i := 410) (by decide +kernel))) rfl
theorem mi_M_write : kM y_M_write b_M_write 3 none 2 ∧ Cond.instanceMethod y_M_write ∈ TB ∧ Cond.selects R_M y_M_write y_M_write ∈ TB := ⟨⟨wc_M_write, wi_M, by decide +kernel, by decide +kernel, by decide +kernel⟩, wm_M_write, wsel_M_write⟩
theorem ml_L_50 : (Jvm.Cond.methodLink "BeamDrawerLaw" (50 : Nat) ({ cls := "BeamDrawerModel", name := "write", desc := "(II)V" } : Jvm.MethodName)) ∈ TB := kTB (List.mem_append_right _ (List.mem_of_getElem? (i := 408) (by decide +kernel))) rfl
theorem ml_L_45 : (Jvm.Cond.methodLink "BeamDrawerLaw" (45 : Nat) ({ cls := "BeamDrawerLaw", name := "write", desc := "(LBeamDrawer;II)I" } : Jvm.MethodName)) ∈ TB := kTB (List.mem_append_right _ (List.mem_of_getElem? (i := 155) (by decide +kernel))) rfl
theorem wc_M_clocks : (Jvm.Cond.code ({ cls := "BeamDrawerModel", name := "clocks", desc := "(I)I" } : Jvm.MethodName) prog_4_method_23_code (3 : Nat) (Option.some Jvm.ClassFile.FieldType.int)) ∈ TB := kTB (List.mem_append_right _ (List.mem_of_getElem? (i := 447) (by decide +kernel))) rfl
theorem wm_M_clocks : (Jvm.Cond.instanceMethod ({ cls := "BeamDrawerModel", name := "clocks", desc := "(I)I" } : Jvm.MethodName)) ∈ TB := kTB (List.mem_append_right _ (List.mem_of_getElem? (i := 445) (by decide +kernel))) rfl
theorem wsel_M_clocks : (Jvm.Cond.selects "BeamDrawerModel" ({ cls := "BeamDrawerModel", name := "clocks", desc := "(I)I" } : Jvm.MethodName) ({ cls := "BeamDrawerModel", name := "clocks", desc := "(I)I" } : Jvm.MethodName)) ∈ TB := kTB (List.mem_append_right _ (List.mem_of_getElem? (i := 446) (by decide +kernel))) rfl
theorem mi_M_clocks : kM y_M_clocks b_M_clocks 3 (some .int) 1 ∧ Cond.instanceMethod y_M_clocks ∈ TB ∧ Cond.selects R_M y_M_clocks y_M_clocks ∈ TB := ⟨⟨wc_M_clocks, wi_M, by decide +kernel, by decide +kernel, by decide +kernel⟩, wm_M_clocks, wsel_M_clocks⟩
theorem ml_L_58 : (Jvm.Cond.methodLink "BeamDrawerLaw" (58 : Nat) ({ cls := "BeamDrawerModel", name := "clocks", desc := "(I)I" } : Jvm.MethodName)) ∈ TB := kTB (List.mem_append_right _ (List.mem_of_getElem? (i := 444) (by decide +kernel))) rfl
theorem ml_L_55 : (Jvm.Cond.methodLink "BeamDrawerLaw" (55 : Nat) ({ cls := "BeamDrawerLaw", name := "clocks", desc := "(LBeamDrawer;I[J)I" } : Jvm.MethodName)) ∈ TB := kTB (List.mem_append_right _ (List.mem_of_getElem? (i := 274) (by decide +kernel))) rfl
theorem wc_M_pixel : (Jvm.Cond.code ({ cls := "BeamDrawerModel", name := "pixel", desc := "(I)I" } : Jvm.MethodName) prog_4_method_26_code (2 : Nat) (Option.some Jvm.ClassFile.FieldType.int)) ∈ TB := kTB (List.mem_append_right _ (List.mem_of_getElem? (i := 497) (by decide +kernel))) rfl
theorem wm_M_pixel : (Jvm.Cond.instanceMethod ({ cls := "BeamDrawerModel", name := "pixel", desc := "(I)I" } : Jvm.MethodName)) ∈ TB := kTB (List.mem_append_right _ (List.mem_of_getElem? (i := 495) (by decide +kernel))) rfl
theorem wsel_M_pixel : (Jvm.Cond.selects "BeamDrawerModel" ({ cls := "BeamDrawerModel", name := "pixel", desc := "(I)I" } : Jvm.MethodName) ({ cls := "BeamDrawerModel", name := "pixel", desc := "(I)I" } : Jvm.MethodName)) ∈ TB := kTB (List.mem_append_right _ (List.mem_of_getElem? (i := 496) (by decide +kernel))) rfl
theorem mi_M_pixel : kM y_M_pixel b_M_pixel 2 (some .int) 1 ∧ Cond.instanceMethod y_M_pixel ∈ TB ∧ Cond.selects R_M y_M_pixel y_M_pixel ∈ TB := ⟨⟨wc_M_pixel, wi_M, by decide +kernel, by decide +kernel, by decide +kernel⟩, wm_M_pixel, wsel_M_pixel⟩
theorem ml_L_65 : (Jvm.Cond.methodLink "BeamDrawerLaw" (65 : Nat) ({ cls := "BeamDrawerModel", name := "pixel", desc := "(I)I" } : Jvm.MethodName)) ∈ TB := kTB (List.mem_append_right _ (List.mem_of_getElem? (i := 494) (by decide +kernel))) rfl
theorem ml_L_63 : (Jvm.Cond.methodLink "BeamDrawerLaw" (63 : Nat) ({ cls := "BeamDrawerLaw", name := "pixel", desc := "(LBeamDrawer;I[J)I" } : Jvm.MethodName)) ∈ TB := kTB (List.mem_append_right _ (List.mem_of_getElem? (i := 281) (by decide +kernel))) rfl
theorem wc_M_met : (Jvm.Cond.code ({ cls := "BeamDrawerModel", name := "met", desc := "(II)Z" } : Jvm.MethodName) prog_4_method_27_code (3 : Nat) (Option.some Jvm.ClassFile.FieldType.boolean)) ∈ TB := kTB (List.mem_append_right _ (List.mem_of_getElem? (i := 504) (by decide +kernel))) rfl
theorem wm_M_met : (Jvm.Cond.instanceMethod ({ cls := "BeamDrawerModel", name := "met", desc := "(II)Z" } : Jvm.MethodName)) ∈ TB := kTB (List.mem_append_right _ (List.mem_of_getElem? (i := 502) (by decide +kernel))) rfl
theorem wsel_M_met : (Jvm.Cond.selects "BeamDrawerModel" ({ cls := "BeamDrawerModel", name := "met", desc := "(II)Z" } : Jvm.MethodName) ({ cls := "BeamDrawerModel", name := "met", desc := "(II)Z" } : Jvm.MethodName)) ∈ TB := kTB (List.mem_append_right _ (List.mem_of_getElem? (i := 503) (by decide +kernel))) rfl
theorem mi_M_met : kM y_M_met b_M_met 3 (some .boolean) 2 ∧ Cond.instanceMethod y_M_met ∈ TB ∧ Cond.selects R_M y_M_met y_M_met ∈ TB := ⟨⟨wc_M_met, wi_M, by decide +kernel, by decide +kernel, by decide +kernel⟩, wm_M_met, wsel_M_met⟩
theorem ml_L_69 : (Jvm.Cond.methodLink "BeamDrawerLaw" (69 : Nat) ({ cls := "BeamDrawerModel", name := "met", desc := "(II)Z" } : Jvm.MethodName)) ∈ TB := kTB (List.mem_append_right _ (List.mem_of_getElem? (i := 501) (by decide +kernel))) rfl
theorem ml_L_66 : (Jvm.Cond.methodLink "BeamDrawerLaw" (66 : Nat) ({ cls := "BeamDrawerLaw", name := "met", desc := "(LBeamDrawer;II[J)I" } : Jvm.MethodName)) ∈ TB := kTB (List.mem_append_right _ (List.mem_of_getElem? (i := 291) (by decide +kernel))) rfl
theorem wc_M_place : (Jvm.Cond.code ({ cls := "BeamDrawerModel", name := "place", desc := "(I)I" } : Jvm.MethodName) prog_4_method_28_code (2 : Nat) (Option.some Jvm.ClassFile.FieldType.int)) ∈ TB := kTB (List.mem_append_right _ (List.mem_of_getElem? (i := 508) (by decide +kernel))) rfl
theorem wm_M_place : (Jvm.Cond.instanceMethod ({ cls := "BeamDrawerModel", name := "place", desc := "(I)I" } : Jvm.MethodName)) ∈ TB := kTB (List.mem_append_right _ (List.mem_of_getElem? (i := 506) (by decide +kernel))) rfl
theorem wsel_M_place : (Jvm.Cond.selects "BeamDrawerModel" ({ cls := "BeamDrawerModel", name := "place", desc := "(I)I" } : Jvm.MethodName) ({ cls := "BeamDrawerModel", name := "place", desc := "(I)I" } : Jvm.MethodName)) ∈ TB := kTB (List.mem_append_right _ (List.mem_of_getElem? (i := 507) (by decide +kernel))) rfl
theorem mi_M_place : kM y_M_place b_M_place 2 (some .int) 1 ∧ Cond.instanceMethod y_M_place ∈ TB ∧ Cond.selects R_M y_M_place y_M_place ∈ TB := ⟨⟨wc_M_place, wi_M, by decide +kernel, by decide +kernel, by decide +kernel⟩, wm_M_place, wsel_M_place⟩
theorem ml_L_72 : (Jvm.Cond.methodLink "BeamDrawerLaw" (72 : Nat) ({ cls := "BeamDrawerModel", name := "place", desc := "(I)I" } : Jvm.MethodName)) ∈ TB := kTB (List.mem_append_right _ (List.mem_of_getElem? (i := 505) (by decide +kernel))) rfl
theorem ml_L_70 : (Jvm.Cond.methodLink "BeamDrawerLaw" (70 : Nat) ({ cls := "BeamDrawerLaw", name := "place", desc := "(LBeamDrawer;I[J)I" } : Jvm.MethodName)) ∈ TB := kTB (List.mem_append_right _ (List.mem_of_getElem? (i := 301) (by decide +kernel))) rfl
theorem wc_M_there : (Jvm.Cond.code ({ cls := "BeamDrawerModel", name := "there", desc := "(II)Z" } : Jvm.MethodName) prog_4_method_29_code (3 : Nat) (Option.some Jvm.ClassFile.FieldType.boolean)) ∈ TB := kTB (List.mem_append_right _ (List.mem_of_getElem? (i := 512) (by decide +kernel))) rfl
theorem wm_M_there : (Jvm.Cond.instanceMethod ({ cls := "BeamDrawerModel", name := "there", desc := "(II)Z" } : Jvm.MethodName)) ∈ TB := kTB (List.mem_append_right _ (List.mem_of_getElem? (i := 510) (by decide +kernel))) rfl
theorem wsel_M_there : (Jvm.Cond.selects "BeamDrawerModel" ({ cls := "BeamDrawerModel", name := "there", desc := "(II)Z" } : Jvm.MethodName) ({ cls := "BeamDrawerModel", name := "there", desc := "(II)Z" } : Jvm.MethodName)) ∈ TB := kTB (List.mem_append_right _ (List.mem_of_getElem? (i := 511) (by decide +kernel))) rfl
theorem mi_M_there : kM y_M_there b_M_there 3 (some .boolean) 2 ∧ Cond.instanceMethod y_M_there ∈ TB ∧ Cond.selects R_M y_M_there y_M_there ∈ TB := ⟨⟨wc_M_there, wi_M, by decide +kernel, by decide +kernel, by decide +kernel⟩, wm_M_there, wsel_M_there⟩
theorem ml_L_75 : (Jvm.Cond.methodLink "BeamDrawerLaw" (75 : Nat) ({ cls := "BeamDrawerModel", name := "there", desc := "(II)Z" } : Jvm.MethodName)) ∈ TB := kTB (List.mem_append_right _ (List.mem_of_getElem? (i := 509) (by decide +kernel))) rfl
theorem ml_L_73 : (Jvm.Cond.methodLink "BeamDrawerLaw" (73 : Nat) ({ cls := "BeamDrawerLaw", name := "there", desc := "(LBeamDrawer;II[J)I" } : Jvm.MethodName)) ∈ TB := kTB (List.mem_append_right _ (List.mem_of_getElem? (i := 308) (by decide +kernel))) rfl
theorem wc_M_set : (Jvm.Cond.code ({ cls := "BeamDrawerModel", name := "set", desc := "(II)I" } : Jvm.MethodName) prog_4_method_30_code (4 : Nat) (Option.some Jvm.ClassFile.FieldType.int)) ∈ TB := kTB (List.mem_append_right _ (List.mem_of_getElem? (i := 516) (by decide +kernel))) rfl
theorem wm_M_set : (Jvm.Cond.instanceMethod ({ cls := "BeamDrawerModel", name := "set", desc := "(II)I" } : Jvm.MethodName)) ∈ TB := kTB (List.mem_append_right _ (List.mem_of_getElem? (i := 514) (by decide +kernel))) rfl
theorem wsel_M_set : (Jvm.Cond.selects "BeamDrawerModel" ({ cls := "BeamDrawerModel", name := "set", desc := "(II)I" } : Jvm.MethodName) ({ cls := "BeamDrawerModel", name := "set", desc := "(II)I" } : Jvm.MethodName)) ∈ TB := kTB (List.mem_append_right _ (List.mem_of_getElem? (i := 515) (by decide +kernel))) rfl
theorem mi_M_set : kM y_M_set b_M_set 4 (some .int) 2 ∧ Cond.instanceMethod y_M_set ∈ TB ∧ Cond.selects R_M y_M_set y_M_set ∈ TB := ⟨⟨wc_M_set, wi_M, by decide +kernel, by decide +kernel, by decide +kernel⟩, wm_M_set, wsel_M_set⟩
theorem ml_L_78 : (Jvm.Cond.methodLink "BeamDrawerLaw" (78 : Nat) ({ cls := "BeamDrawerModel", name := "set", desc := "(II)I" } : Jvm.MethodName)) ∈ TB := kTB (List.mem_append_right _ (List.mem_of_getElem? (i := 513) (by decide +kernel))) rfl
theorem ml_L_76 : (Jvm.Cond.methodLink "BeamDrawerLaw" (76 : Nat) ({ cls := "BeamDrawerLaw", name := "set", desc := "(LBeamDrawer;II[J)I" } : Jvm.MethodName)) ∈ TB := kTB (List.mem_append_right _ (List.mem_of_getElem? (i := 315) (by decide +kernel))) rfl
theorem wc_M_count : (Jvm.Cond.code ({ cls := "BeamDrawerModel", name := "count", desc := "(I)I" } : Jvm.MethodName) prog_4_method_31_code (4 : Nat) (Option.some Jvm.ClassFile.FieldType.int)) ∈ TB := kTB (List.mem_append_right _ (List.mem_of_getElem? (i := 520) (by decide +kernel))) rfl
theorem wm_M_count : (Jvm.Cond.instanceMethod ({ cls := "BeamDrawerModel", name := "count", desc := "(I)I" } : Jvm.MethodName)) ∈ TB := kTB (List.mem_append_right _ (List.mem_of_getElem? (i := 518) (by decide +kernel))) rfl
theorem wsel_M_count : (Jvm.Cond.selects "BeamDrawerModel" ({ cls := "BeamDrawerModel", name := "count", desc := "(I)I" } : Jvm.MethodName) ({ cls := "BeamDrawerModel", name := "count", desc := "(I)I" } : Jvm.MethodName)) ∈ TB := kTB (List.mem_append_right _ (List.mem_of_getElem? (i := 519) (by decide +kernel))) rfl
theorem mi_M_count : kM y_M_count b_M_count 4 (some .int) 1 ∧ Cond.instanceMethod y_M_count ∈ TB ∧ Cond.selects R_M y_M_count y_M_count ∈ TB := ⟨⟨wc_M_count, wi_M, by decide +kernel, by decide +kernel, by decide +kernel⟩, wm_M_count, wsel_M_count⟩
theorem ml_L_81 : (Jvm.Cond.methodLink "BeamDrawerLaw" (81 : Nat) ({ cls := "BeamDrawerModel", name := "count", desc := "(I)I" } : Jvm.MethodName)) ∈ TB := kTB (List.mem_append_right _ (List.mem_of_getElem? (i := 517) (by decide +kernel))) rfl
theorem ml_L_79 : (Jvm.Cond.methodLink "BeamDrawerLaw" (79 : Nat) ({ cls := "BeamDrawerLaw", name := "count", desc := "(LBeamDrawer;I[J)I" } : Jvm.MethodName)) ∈ TB := kTB (List.mem_append_right _ (List.mem_of_getElem? (i := 328) (by decide +kernel))) rfl
theorem wc_M_sync : (Jvm.Cond.code ({ cls := "BeamDrawerModel", name := "sync", desc := "()I" } : Jvm.MethodName) prog_4_method_24_code (3 : Nat) (Option.some Jvm.ClassFile.FieldType.int)) ∈ TB := kTB (List.mem_append_right _ (List.mem_of_getElem? (i := 493) (by decide +kernel))) rfl
theorem wm_M_sync : (Jvm.Cond.instanceMethod ({ cls := "BeamDrawerModel", name := "sync", desc := "()I" } : Jvm.MethodName)) ∈ TB := kTB (List.mem_append_right _ (List.mem_of_getElem? (i := 491) (by decide +kernel))) rfl
theorem wsel_M_sync : (Jvm.Cond.selects "BeamDrawerModel" ({ cls := "BeamDrawerModel", name := "sync", desc := "()I" } : Jvm.MethodName) ({ cls := "BeamDrawerModel", name := "sync", desc := "()I" } : Jvm.MethodName)) ∈ TB := kTB (List.mem_append_right _ (List.mem_of_getElem? (i := 492) (by decide +kernel))) rfl
theorem mi_M_sync : kM y_M_sync b_M_sync 3 (some .int) 0 ∧ Cond.instanceMethod y_M_sync ∈ TB ∧ Cond.selects R_M y_M_sync y_M_sync ∈ TB := ⟨⟨wc_M_sync, wi_M, by decide +kernel, by decide +kernel, by decide +kernel⟩, wm_M_sync, wsel_M_sync⟩
theorem ml_L_62 : (Jvm.Cond.methodLink "BeamDrawerLaw" (62 : Nat) ({ cls := "BeamDrawerModel", name := "sync", desc := "()I" } : Jvm.MethodName)) ∈ TB := kTB (List.mem_append_right _ (List.mem_of_getElem? (i := 490) (by decide +kernel))) rfl
theorem wc_M_thrown : (Jvm.Cond.code ({ cls := "BeamDrawerModel", name := "thrown", desc := "()I" } : Jvm.MethodName) prog_4_method_2_code (1 : Nat) (Option.some Jvm.ClassFile.FieldType.int)) ∈ TB := kTB (List.mem_append_right _ (List.mem_of_getElem? (i := 407) (by decide +kernel))) rfl
theorem wm_M_thrown : (Jvm.Cond.instanceMethod ({ cls := "BeamDrawerModel", name := "thrown", desc := "()I" } : Jvm.MethodName)) ∈ TB := kTB (List.mem_append_right _ (List.mem_of_getElem? (i := 405) (by decide +kernel))) rfl
theorem wsel_M_thrown : (Jvm.Cond.selects "BeamDrawerModel" ({ cls := "BeamDrawerModel", name := "thrown", desc := "()I" } : Jvm.MethodName) ({ cls := "BeamDrawerModel", name := "thrown", desc := "()I" } : Jvm.MethodName)) ∈ TB := kTB (List.mem_append_right _ (List.mem_of_getElem? (i := 406) (by decide +kernel))) rfl
theorem mi_M_thrown : kM y_M_thrown b_M_thrown 1 (some .int) 0 ∧ Cond.instanceMethod y_M_thrown ∈ TB ∧ Cond.selects R_M y_M_thrown y_M_thrown ∈ TB := ⟨⟨wc_M_thrown, wi_M, by decide +kernel, by decide +kernel, by decide +kernel⟩, wm_M_thrown, wsel_M_thrown⟩
theorem ml_L_51 : (Jvm.Cond.methodLink "BeamDrawerLaw" (51 : Nat) ({ cls := "BeamDrawerModel", name := "thrown", desc := "()I" } : Jvm.MethodName)) ∈ TB := kTB (List.mem_append_right _ (List.mem_of_getElem? (i := 404) (by decide +kernel))) rfl
theorem wc_B_sync : (Jvm.Cond.code ({ cls := "BeamDrawer", name := "sync", desc := "()I" } : Jvm.MethodName) prog_1_method_4_code (2 : Nat) (Option.some Jvm.ClassFile.FieldType.int)) ∈ TB := kTB (List.mem_append_right _ (List.mem_of_getElem? (i := 76) (by decide +kernel))) rfl
theorem wm_B_sync : (Jvm.Cond.instanceMethod ({ cls := "BeamDrawer", name := "sync", desc := "()I" } : Jvm.MethodName)) ∈ TB := kTB (List.mem_append_right _ (List.mem_of_getElem? (i := 74) (by decide +kernel))) rfl
theorem wsel_B_sync : (Jvm.Cond.selects "BeamDrawer" ({ cls := "BeamDrawer", name := "sync", desc := "()I" } : Jvm.MethodName) ({ cls := "BeamDrawer", name := "sync", desc := "()I" } : Jvm.MethodName)) ∈ TB := kTB (List.mem_append_right _ (List.mem_of_getElem? (i := 75) (by decide +kernel))) rfl
theorem mi_B_sync : kM y_B_sync b_B_sync 2 (some .int) 0 ∧ Cond.instanceMethod y_B_sync ∈ TB ∧ Cond.selects R_B y_B_sync y_B_sync ∈ TB := ⟨⟨wc_B_sync, wi_B, by decide +kernel, by decide +kernel, by decide +kernel⟩, wm_B_sync, wsel_B_sync⟩
theorem ml_L_59 : (Jvm.Cond.methodLink "BeamDrawerLaw" (59 : Nat) ({ cls := "BeamDrawer", name := "sync", desc := "()I" } : Jvm.MethodName)) ∈ TB := kTB (List.mem_append_right _ (List.mem_of_getElem? (i := 73) (by decide +kernel))) rfl
/-! the law: what holds throughout, what holds between two turns -/
theorem kCSW {R : Room} {s : State} {args : Array Value} {own : String} {index maxL : Nat} {y : MethodName} {bytes : ByteArray} {ret : Option FieldType} {hh : List (Nat × Nat × Nat × Nat)} {rm : Room} (n : Nat) (hT : ∀ w ∈ TB, w.before args s = true) (hl : Cond.methodLink own index y ∈ TB) (hc : Cond.codeWith y bytes maxL ret hh ∈ TB) (hi : Cond.initialized y.cls ∈ TB) (hs : Cond.static y ∈ TB)
    (hd : y.cls ≠ "java/lang/invoke/MethodHandle" ∧ y.cls ≠ "java/lang/invoke/VarHandle" ∧ (parseMethodDescriptor y.desc).map (fun d => d.parameters.length) = some n) (hR : rm.frames + 1 ≤ R.frames ∧ 8 + (maxL + 11) + rm.locals ≤ R.locals) :
    vx_CSW R s args own index y bytes maxL ret hh (.codeWith y bytes maxL ret hh :: TB) rm rm.cells rm.slots n :=
  ⟨⟨rfl, rfl, hR.1, hR.2, kHws hc hT, List.mem_cons_self⟩, hT _ hc, hT _ hi, ⟨hd.1, hd.2.1⟩, fun sig h => by have h2 := hd.2.2; rw [h] at h2; exact (Option.some.inj h2).symm, hT _ hl, hT _ hs⟩
theorem kP_other {D : va_G} {ws : va_W} {H H1 : Heap} {n : Nat} {am : Nat → Nat} {A1 : Nat → Prop} (h : va_P D classes ws H) (hf : ws.map Prod.fst = (List.range n).map am) (hno : ∀ k, k < n → ¬ A1 (am k)) (hq : ∀ q : Nat, q < H.size → ¬ A1 q → H1[q]? = H[q]?) : va_P D classes ws H1 := by
  refine h.kept fun k q hk => hq _ (vx_lt h hk) ?_
  have h1 : (ws.map Prod.fst)[k]? = some q.1 := by rw [List.getElem?_map, hk]; rfl
  rw [hf, List.getElem?_map] at h1
  by_cases hkn : k < n
  · rw [List.getElem?_range hkn] at h1
    have e : am k = q.1 := Option.some.inj h1
    rw [← e]
    exact hno k hkn
  · rw [List.getElem?_eq_none (by simp; omega)] at h1
    cases h1
def lA (s : State) : Nat → Prop := fun q => s.heap.size ≤ q
def xPreA (A : Nat → Prop) (U : State) : Prop := vx_Zq Bundle.tN "UNASSIGNED_STACK" Bundle.steD A U U.heap ∧ vx_Zq Bundle.tN "SUPPRESSED_SENTINEL" Bundle.listD A U U.heap
/-- throughout -/
def LC (p : Program) (l : Launch) (s : State) (m : MethodId) (c : Code) (b L : Nat) (xs : Nat → Int32) (D : va_G) (cA ad am t : Nat → Nat) : Prop :=
  p.tables.exec = Jvm.exec ∧ c.code = code ∧ c.maxLocals = 7 ∧ s.vm.findClass R_L = some m.cls ∧ (∀ w ∈ TB, w.before #[Value.ref b] s = true) ∧ va_X b L xs s s.heap ∧ b < s.heap.size ∧ l.stackTraces = false ∧ va_K D classes (kty cA) s ∧ kZ (lA s) t s ∧ xPreA (lA s) s ∧ va_Nc kIAE kNSE s ∧ kap 8 ad ∧ kap 8 am ∧ (∀ i j, i < 8 → j < 8 → ad i ≠ am j) ∧ (∀ k, k < 8 → lA s (ad k)) ∧ (∀ k, k < 8 → lA s (am k))
/-- between two turns -/
def LI (D : va_G) (cA ad am : Nat → Nat) (s : State) (H : Heap) (locs : List Loc) (σ μ : Nat → Nat → Int32) (f : Nat → Int64) : Prop :=
  va_P D classes (bo cA ad σ f) H ∧ va_P D classes (mw cA am μ) H ∧ Rel σ μ ∧ va_S (lA s) s.heap H locs
abbrev lvs (b : Nat) (ad am : Nat → Nat) (i : Int32) : List (Nat × Value) := [(4, .int i), (3, .ref (ad 7)), (2, .ref (am 0)), (1, .ref (ad 0)), (0, .ref b)]
section LRULES
variable {p : Program} {l : Launch} {e : Env} {s : State} {m : MethodId} {below : List Frame} {meth : Method} {c : Code} {H : Heap} {locs : List Loc} {b L : Nat} {xs : Nat → Int32} {D : va_G} {cA ad am t : Nat → Nat} {σ μ : Nat → Nat → Int32} {f : Nat → Int64}
theorem lpreS {As : List Value} (hC : LC p l s m c b L xs D cA ad am t) (hI : LI D cA ad am s H locs σ μ f) : PreS s H (va_Pc As (lPre D cA ad t σ f)) As := by
  obtain ⟨-, -, -, -, -, -, -, -, hK, hZ, hX, hN, hap, hapm, hdis, hA1, hA2⟩ := hC
  obtain ⟨hP, -, -, hS⟩ := hI
  refine ⟨fun a U g mk q => ?_, fun U hU hW => ⟨rfl, ?_, va_K.moved hW.alike hK, ?_, ?_, va_Nc.moved hW.alike hN⟩⟩
  · obtain ⟨q0, qP, qK, qZ, qX, qN⟩ := q
    exact ⟨q0, qP, va_K.moved (u := U) (U := U.calling g mk a) (Vm.Alike.refl U.vm) qK, kZ.at (U := U.calling g mk a) qZ (va_S.rf (A := kA 8 ad)) rfl (Vm.Alike.refl U.vm), qX.at rfl (Vm.Alike.refl U.vm), va_Nc.moved (u := U) (U := U.calling g mk a) (Vm.Alike.refl U.vm) qN⟩
  · rw [hU]
    exact hP
  · exact (hZ.at hS hU hW.alike).narrow fun q ⟨k, hk, e⟩ => by rw [e]; exact hA1 k hk
  · unfold xPre
    rw [hU]
    exact ⟨((vx_Zq.moved hW.alike (vx_Zq.kept hX.1 hS.2.1))).narrow (fun _ h => h.elim), ((vx_Zq.moved hW.alike (vx_Zq.kept hX.2 hS.2.1))).narrow (fun _ h => h.elim)⟩
theorem lpreB {As : List Value} (hC : LC p l s m c b L xs D cA ad am t) (hI : LI D cA ad am s H locs σ μ f) : PreV s H R_B (ad 0) (va_Pc (.ref (ad 0) :: As) (bPre D cA ad t σ)) As := by
  obtain ⟨-, -, -, -, -, -, -, -, hK, hZ, hX, hN, hap, hapm, hdis, hA1, hA2⟩ := hC
  obtain ⟨hP, -, -, hS⟩ := hI
  have hP7 := bo_7 hP
  exact ⟨bblind, va_recv (q0 := 0) (ci := 0) hK hP7 rfl rfl, fun U hU hW => ⟨rfl, by rw [hU]; exact hP7, va_K.moved hW.alike hK, (hZ.at hS hU hW.alike).narrow fun q ⟨k, hk, e⟩ => by rw [e]; exact hA1 k (by omega)⟩⟩
theorem lpreM {As : List Value} (hC : LC p l s m c b L xs D cA ad am t) (hI : LI D cA ad am s H locs σ μ f) : PreV s H R_M (am 0) (va_Pc (.ref (am 0) :: As) (mPre D cA am μ)) As := by
  obtain ⟨-, -, -, -, -, -, -, -, hK, hZ, hX, hN, hap, hapm, hdis, hA1, hA2⟩ := hC
  exact mpreV hK hI.2.1
theorem LC.fix (hC : LC p l s m c b L xs D cA ad am t) : CallFix p m c code 7 s #[Value.ref b] TB R_L := ⟨hC.1, hC.2.1, hC.2.2.1, hC.2.2.2.1, hC.2.2.2.2.1⟩
/-- the class's side has moved -/
theorem LI.sB {H1 : Heap} {σ' : Nat → Nat → Int32} {f' : Nat → Int64} (hC : LC p l s m c b L xs D cA ad am t) (hI : LI D cA ad am s H locs σ μ f) (hP : va_P D classes (bo cA ad σ' f') H1) (hq : ∀ q : Nat, q < H.size → ¬ kA 8 ad q → H1[q]? = H[q]?) : va_P D classes (bo cA ad σ' f') H1 ∧ va_P D classes (mw cA am μ) H1 := by
  obtain ⟨-, -, -, -, -, -, -, -, hK, hZ, hX, hN, hap, hapm, hdis, hA1, hA2⟩ := hC
  exact ⟨hP, kP_other (n := 8) (am := am) (A1 := kA 8 ad) hI.2.1 rfl (fun k hk ⟨j, hj, e⟩ => hdis j k hj hk e.symm) hq⟩
/-- the reference's side has moved -/
theorem LI.sM {H1 : Heap} {μ' : Nat → Nat → Int32} (hC : LC p l s m c b L xs D cA ad am t) (hP : va_P D classes (bo cA ad σ f) H) (hM : va_P D classes (mw cA am μ') H1) (hq : ∀ q : Nat, q < H.size → ¬ kA 8 am q → H1[q]? = H[q]?) : va_P D classes (bo cA ad σ f) H1 ∧ va_P D classes (mw cA am μ') H1 := by
  obtain ⟨-, -, -, -, -, -, -, -, hK, hZ, hX, hN, hap, hapm, hdis, hA1, hA2⟩ := hC
  exact ⟨kP_other (n := 8) (am := ad) (A1 := kA 8 am) hP rfl (fun k hk ⟨j, hj, e⟩ => hdis k j hk hj e) hq, hM⟩
theorem LC.inB (hC : LC p l s m c b L xs D cA ad am t) : ∀ q, kA 8 ad q → lA s q := by
  obtain ⟨-, -, -, -, -, -, -, -, -, -, -, -, -, -, -, hA1, -⟩ := hC
  exact fun q ⟨k, hk, e⟩ => by rw [e]; exact hA1 k hk
theorem LC.inM (hC : LC p l s m c b L xs D cA ad am t) : ∀ q, kA 8 am q → lA s q := by
  obtain ⟨-, -, -, -, -, -, -, -, -, -, -, -, -, -, -, -, hA2⟩ := hC
  exact fun q ⟨k, hk, e⟩ => by rw [e]; exact hA2 k hk
theorem LC.hap (hC : LC p l s m c b L xs D cA ad am t) : kap 8 ad := hC.2.2.2.2.2.2.2.2.2.2.2.2.1
theorem LC.hapm (hC : LC p l s m c b L xs D cA ad am t) : kap 8 am := hC.2.2.2.2.2.2.2.2.2.2.2.2.2.1
theorem LC.hl0 (hC : LC p l s m c b L xs D cA ad am t) : l.stackTraces = false := hC.2.2.2.2.2.2.2.1
theorem LC.hK (hC : LC p l s m c b L xs D cA ad am t) : va_K D classes (kty cA) s := hC.2.2.2.2.2.2.2.2.1
theorem LC.hX (hC : LC p l s m c b L xs D cA ad am t) : va_X b L xs s s.heap := hC.2.2.2.2.2.1
theorem LC.hbl (hC : LC p l s m c b L xs D cA ad am t) : b < s.heap.size := hC.2.2.2.2.2.2.1
theorem LC.hbA (hC : LC p l s m c b L xs D cA ad am t) : ¬ lA s b := fun h => Nat.lt_irrefl _ (Nat.lt_of_lt_of_le hC.hbl h)
theorem lcmp0 {x y : Int64} (h : x = y) : lg_cmp x y = 0 := by
  subst h
  unfold lg_cmp
  simp
/-- where a turn ends -/
def LG (p : Program) (l : Launch) (e : Env) (s : State) (m : MethodId) (below : List Frame) (meth : Method) (c : Code) (b : Nat) (D : va_G) (cA ad am : Nat → Nat) (j : Nat) (Q : State → Prop) : Prop :=
  ∀ (H : Heap) (locs : List Loc) (σ μ : Nat → Nat → Int32) (f : Nat → Int64) (ls : Array Slot), LI D cA ad am s H locs σ μ f → lv_has ls 7 (lvs b ad am (nI (3 * j))) →
    W p l e room_1 s m #[Value.ref b] below meth c H locs (16 + (j + 1)) (480 + 6 * (j + 1)) Q (F0 m 591 ls [])
end LRULES
