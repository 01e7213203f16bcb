theorem wc_L_write : (Jvm.Cond.codeWith ({ cls := "BeamDrawerLaw", name := "write", desc := "(LBeamDrawer;II)I" } : Jvm.MethodName) method_3_code (4 : Nat) (Option.some Jvm.ClassFile.FieldType.int) [((0 : Nat), (6 : Nat), (9 : Nat), (13 : Nat)), ((0 : Nat), (6 : Nat), (12 : Nat), (15 : Nat))]) ∈ TB := kTB (List.mem_append_right _ (List.mem_of_getElem? (i := 157) (by decide +kernel))) rfl
theorem wst_L_write : (Jvm.Cond.static ({ cls := "BeamDrawerLaw", name := "write", desc := "(LBeamDrawer;II)I" } : Jvm.MethodName)) ∈ TB := kTB (List.mem_append_right _ (List.mem_of_getElem? (i := 156) (by decide +kernel))) rfl
theorem ml_L_7 : (Jvm.Cond.methodLink "BeamDrawerLaw" (7 : Nat) ({ cls := "BeamDrawer", name := "write", desc := "(II)V" } : Jvm.MethodName)) ∈ TB := kTB (List.mem_append_right _ (List.mem_of_getElem? (i := 160) (by decide +kernel))) rfl
theorem wc_B_write : (Jvm.Cond.code ({ cls := "BeamDrawer", name := "write", desc := "(II)V" } : Jvm.MethodName) prog_1_method_2_code (3 : Nat) (Option.none : Option Jvm.ClassFile.FieldType)) ∈ TB := kTB (List.mem_append_right _ (List.mem_of_getElem? (i := 163) (by decide +kernel))) rfl
theorem wm_B_write : (Jvm.Cond.instanceMethod ({ cls := "BeamDrawer", name := "write", desc := "(II)V" } : Jvm.MethodName)) ∈ TB := kTB (List.mem_append_right _ (List.mem_of_getElem? (i := 161) (by decide +kernel))) rfl
theorem wsel_B_write : (Jvm.Cond.selects "BeamDrawer" ({ cls := "BeamDrawer", name := "write", desc := "(II)V" } : Jvm.MethodName) ({ cls := "BeamDrawer", name := "write", desc := "(II)V" } : Jvm.MethodName)) ∈ TB := kTB (List.mem_append_right _ (List.mem_of_getElem? (i := 162) (by decide +kernel))) rfl
theorem mi_B_write : kM y_B_write b_B_write 3 none 2 ∧ Cond.instanceMethod y_B_write ∈ TB ∧ Cond.selects R_B y_B_write y_B_write ∈ TB := ⟨⟨wc_B_write, wi_B, by decide +kernel, by decide +kernel, by decide +kernel⟩, wm_B_write, wsel_B_write⟩
theorem wc_L_clocks : (Jvm.Cond.codeWith ({ cls := "BeamDrawerLaw", name := "clocks", desc := "(LBeamDrawer;I[J)I" } : Jvm.MethodName) method_4_code (4 : Nat) (Option.some Jvm.ClassFile.FieldType.int) [((0 : Nat), (9 : Nat), (12 : Nat), (15 : Nat))]) ∈ TB := kTB (List.mem_append_right _ (List.mem_of_getElem? (i := 276) (by decide +kernel))) rfl
theorem wst_L_clocks : (Jvm.Cond.static ({ cls := "BeamDrawerLaw", name := "clocks", desc := "(LBeamDrawer;I[J)I" } : Jvm.MethodName)) ∈ TB := kTB (List.mem_append_right _ (List.mem_of_getElem? (i := 275) (by decide +kernel))) rfl
theorem ml_L_17 : (Jvm.Cond.methodLink "BeamDrawerLaw" (17 : Nat) ({ cls := "BeamDrawer", name := "clocks", desc := "(I)I" } : Jvm.MethodName)) ∈ TB := kTB (List.mem_append_right _ (List.mem_of_getElem? (i := 277) (by decide +kernel))) rfl
theorem wc_B_clocks : (Jvm.Cond.code ({ cls := "BeamDrawer", name := "clocks", desc := "(I)I" } : Jvm.MethodName) prog_1_method_3_code (2 : Nat) (Option.some Jvm.ClassFile.FieldType.int)) ∈ TB := kTB (List.mem_append_right _ (List.mem_of_getElem? (i := 280) (by decide +kernel))) rfl
theorem wm_B_clocks : (Jvm.Cond.instanceMethod ({ cls := "BeamDrawer", name := "clocks", desc := "(I)I" } : Jvm.MethodName)) ∈ TB := kTB (List.mem_append_right _ (List.mem_of_getElem? (i := 278) (by decide +kernel))) rfl
theorem wsel_B_clocks : (Jvm.Cond.selects "BeamDrawer" ({ cls := "BeamDrawer", name := "clocks", desc := "(I)I" } : Jvm.MethodName) ({ cls := "BeamDrawer", name := "clocks", desc := "(I)I" } : Jvm.MethodName)) ∈ TB := kTB (List.mem_append_right _ (List.mem_of_getElem? (i := 279) (by decide +kernel))) rfl
theorem mi_B_clocks : kM y_B_clocks b_B_clocks 2 (some .int) 1 ∧ Cond.instanceMethod y_B_clocks ∈ TB ∧ Cond.selects R_B y_B_clocks y_B_clocks ∈ TB := ⟨⟨wc_B_clocks, wi_B, by decide +kernel, by decide +kernel, by decide +kernel⟩, wm_B_clocks, wsel_B_clocks⟩
theorem wc_L_pixel : (Jvm.Cond.codeWith ({ cls := "BeamDrawerLaw", name := "pixel", desc := "(LBeamDrawer;I[J)I" } : Jvm.MethodName) method_5_code (4 : Nat) (Option.some Jvm.ClassFile.FieldType.int) [((0 : Nat), (9 : Nat), (12 : Nat), (13 : Nat))]) ∈ TB := kTB (List.mem_append_right _ (List.mem_of_getElem? (i := 283) (by decide +kernel))) rfl
theorem wst_L_pixel : (Jvm.Cond.static ({ cls := "BeamDrawerLaw", name := "pixel", desc := "(LBeamDrawer;I[J)I" } : Jvm.MethodName)) ∈ TB := kTB (List.mem_append_right _ (List.mem_of_getElem? (i := 282) (by decide +kernel))) rfl
theorem ml_L_21 : (Jvm.Cond.methodLink "BeamDrawerLaw" (21 : Nat) ({ cls := "BeamDrawer", name := "pixel", desc := "(I)I" } : Jvm.MethodName)) ∈ TB := kTB (List.mem_append_right _ (List.mem_of_getElem? (i := 284) (by decide +kernel))) rfl
theorem wc_B_pixel : (Jvm.Cond.code ({ cls := "BeamDrawer", name := "pixel", desc := "(I)I" } : Jvm.MethodName) prog_1_method_5_code (2 : Nat) (Option.some Jvm.ClassFile.FieldType.int)) ∈ TB := kTB (List.mem_append_right _ (List.mem_of_getElem? (i := 287) (by decide +kernel))) rfl
theorem wm_B_pixel : (Jvm.Cond.instanceMethod ({ cls := "BeamDrawer", name := "pixel", desc := "(I)I" } : Jvm.MethodName)) ∈ TB := kTB (List.mem_append_right _ (List.mem_of_getElem? (i := 285) (by decide +kernel))) rfl
theorem wsel_B_pixel : (Jvm.Cond.selects "BeamDrawer" ({ cls := "BeamDrawer", name := "pixel", desc := "(I)I" } : Jvm.MethodName) ({ cls := "BeamDrawer", name := "pixel", desc := "(I)I" } : Jvm.MethodName)) ∈ TB := kTB (List.mem_append_right _ (List.mem_of_getElem? (i := 286) (by decide +kernel))) rfl
theorem mi_B_pixel : kM y_B_pixel b_B_pixel 2 (some .int) 1 ∧ Cond.instanceMethod y_B_pixel ∈ TB ∧ Cond.selects R_B y_B_pixel y_B_pixel ∈ TB := ⟨⟨wc_B_pixel, wi_B, by decide +kernel, by decide +kernel, by decide +kernel⟩, wm_B_pixel, wsel_B_pixel⟩
theorem wc_L_met : (Jvm.Cond.codeWith ({ cls := "BeamDrawerLaw", name := "met", desc := "(LBeamDrawer;II[J)I" } : Jvm.MethodName) method_6_code (5 : Nat) (Option.some Jvm.ClassFile.FieldType.int) [((0 : Nat), (17 : Nat), (20 : Nat), (13 : Nat))]) ∈ TB := kTB (List.mem_append_right _ (List.mem_of_getElem? (i := 293) (by decide +kernel))) rfl
theorem wst_L_met : (Jvm.Cond.static ({ cls := "BeamDrawerLaw", name := "met", desc := "(LBeamDrawer;II[J)I" } : Jvm.MethodName)) ∈ TB := kTB (List.mem_append_right _ (List.mem_of_getElem? (i := 292) (by decide +kernel))) rfl
theorem ml_L_24 : (Jvm.Cond.methodLink "BeamDrawerLaw" (24 : Nat) ({ cls := "BeamDrawer", name := "met", desc := "(II)Z" } : Jvm.MethodName)) ∈ TB := kTB (List.mem_append_right _ (List.mem_of_getElem? (i := 294) (by decide +kernel))) rfl
theorem wc_B_met : (Jvm.Cond.code ({ cls := "BeamDrawer", name := "met", desc := "(II)Z" } : Jvm.MethodName) prog_1_method_6_code (3 : Nat) (Option.some Jvm.ClassFile.FieldType.boolean)) ∈ TB := kTB (List.mem_append_right _ (List.mem_of_getElem? (i := 297) (by decide +kernel))) rfl
theorem wm_B_met : (Jvm.Cond.instanceMethod ({ cls := "BeamDrawer", name := "met", desc := "(II)Z" } : Jvm.MethodName)) ∈ TB := kTB (List.mem_append_right _ (List.mem_of_getElem? (i := 295) (by decide +kernel))) rfl
theorem wsel_B_met : (Jvm.Cond.selects "BeamDrawer" ({ cls := "BeamDrawer", name := "met", desc := "(II)Z" } : Jvm.MethodName) ({ cls := "BeamDrawer", name := "met", desc := "(II)Z" } : Jvm.MethodName)) ∈ TB := kTB (List.mem_append_right _ (List.mem_of_getElem? (i := 296) (by decide +kernel))) rfl
theorem mi_B_met : kM y_B_met b_B_met 3 (some .boolean) 2 ∧ Cond.instanceMethod y_B_met ∈ TB ∧ Cond.selects R_B y_B_met y_B_met ∈ TB := ⟨⟨wc_B_met, wi_B, by decide +kernel, by decide +kernel, by decide +kernel⟩, wm_B_met, wsel_B_met⟩
theorem wc_L_place : (Jvm.Cond.codeWith ({ cls := "BeamDrawerLaw", name := "place", desc := "(LBeamDrawer;I[J)I" } : Jvm.MethodName) method_7_code (4 : Nat) (Option.some Jvm.ClassFile.FieldType.int) [((0 : Nat), (9 : Nat), (12 : Nat), (13 : Nat))]) ∈ TB := kTB (List.mem_append_right _ (List.mem_of_getElem? (i := 303) (by decide +kernel))) rfl
theorem wst_L_place : (Jvm.Cond.static ({ cls := "BeamDrawerLaw", name := "place", desc := "(LBeamDrawer;I[J)I" } : Jvm.MethodName)) ∈ TB := kTB (List.mem_append_right _ (List.mem_of_getElem? (i := 302) (by decide +kernel))) rfl
theorem ml_L_28 : (Jvm.Cond.methodLink "BeamDrawerLaw" (28 : Nat) ({ cls := "BeamDrawer", name := "place", desc := "(I)I" } : Jvm.MethodName)) ∈ TB := kTB (List.mem_append_right _ (List.mem_of_getElem? (i := 304) (by decide +kernel))) rfl
theorem wc_B_place : (Jvm.Cond.code ({ cls := "BeamDrawer", name := "place", desc := "(I)I" } : Jvm.MethodName) prog_1_method_7_code (2 : Nat) (Option.some Jvm.ClassFile.FieldType.int)) ∈ TB := kTB (List.mem_append_right _ (List.mem_of_getElem? (i := 307) (by decide +kernel))) rfl
theorem wm_B_place : (Jvm.Cond.instanceMethod ({ cls := "BeamDrawer", name := "place", desc := "(I)I" } : Jvm.MethodName)) ∈ TB := kTB (List.mem_append_right _ (List.mem_of_getElem? (i := 305) (by decide +kernel))) rfl
theorem wsel_B_place : (Jvm.Cond.selects "BeamDrawer" ({ cls := "BeamDrawer", name := "place", desc := "(I)I" } : Jvm.MethodName) ({ cls := "BeamDrawer", name := "place", desc := "(I)I" } : Jvm.MethodName)) ∈ TB := kTB (List.mem_append_right _ (List.mem_of_getElem? (i := 306) (by decide +kernel))) rfl
theorem mi_B_place : kM y_B_place b_B_place 2 (some .int) 1 ∧ Cond.instanceMethod y_B_place ∈ TB ∧ Cond.selects R_B y_B_place y_B_place ∈ TB := ⟨⟨wc_B_place, wi_B, by decide +kernel, by decide +kernel, by decide +kernel⟩, wm_B_place, wsel_B_place⟩
theorem wc_L_there : (Jvm.Cond.codeWith ({ cls := "BeamDrawerLaw", name := "there", desc := "(LBeamDrawer;II[J)I" } : Jvm.MethodName) method_8_code (5 : Nat) (Option.some Jvm.ClassFile.FieldType.int) [((0 : Nat), (17 : Nat), (20 : Nat), (13 : Nat))]) ∈ TB := kTB (List.mem_append_right _ (List.mem_of_getElem? (i := 310) (by decide +kernel))) rfl
theorem wst_L_there : (Jvm.Cond.static ({ cls := "BeamDrawerLaw", name := "there", desc := "(LBeamDrawer;II[J)I" } : Jvm.MethodName)) ∈ TB := kTB (List.mem_append_right _ (List.mem_of_getElem? (i := 309) (by decide +kernel))) rfl
theorem ml_L_31 : (Jvm.Cond.methodLink "BeamDrawerLaw" (31 : Nat) ({ cls := "BeamDrawer", name := "there", desc := "(II)Z" } : Jvm.MethodName)) ∈ TB := kTB (List.mem_append_right _ (List.mem_of_getElem? (i := 311) (by decide +kernel))) rfl
theorem wc_B_there : (Jvm.Cond.code ({ cls := "BeamDrawer", name := "there", desc := "(II)Z" } : Jvm.MethodName) prog_1_method_8_code (3 : Nat) (Option.some Jvm.ClassFile.FieldType.boolean)) ∈ TB := kTB (List.mem_append_right _ (List.mem_of_getElem? (i := 314) (by decide +kernel))) rfl
theorem wm_B_there : (Jvm.Cond.instanceMethod ({ cls := "BeamDrawer", name := "there", desc := "(II)Z" } : Jvm.MethodName)) ∈ TB := kTB (List.mem_append_right _ (List.mem_of_getElem? (i := 312) (by decide +kernel))) rfl
theorem wsel_B_there : (Jvm.Cond.selects "BeamDrawer" ({ cls := "BeamDrawer", name := "there", desc := "(II)Z" } : Jvm.MethodName) ({ cls := "BeamDrawer", name := "there", desc := "(II)Z" } : Jvm.MethodName)) ∈ TB := kTB (List.mem_append_right _ (List.mem_of_getElem? (i := 313) (by decide +kernel))) rfl
theorem mi_B_there : kM y_B_there b_B_there 3 (some .boolean) 2 ∧ Cond.instanceMethod y_B_there ∈ TB ∧ Cond.selects R_B y_B_there y_B_there ∈ TB := ⟨⟨wc_B_there, wi_B, by decide +kernel, by decide +kernel, by decide +kernel⟩, wm_B_there, wsel_B_there⟩
theorem wc_L_set : (Jvm.Cond.codeWith ({ cls := "BeamDrawerLaw", name := "set", desc := "(LBeamDrawer;II[J)I" } : Jvm.MethodName) method_9_code (5 : Nat) (Option.some Jvm.ClassFile.FieldType.int) [((0 : Nat), (10 : Nat), (13 : Nat), (13 : Nat)), ((0 : Nat), (10 : Nat), (17 : Nat), (15 : Nat))]) ∈ TB := kTB (List.mem_append_right _ (List.mem_of_getElem? (i := 317) (by decide +kernel))) rfl
theorem wst_L_set : (Jvm.Cond.static ({ cls := "BeamDrawerLaw", name := "set", desc := "(LBeamDrawer;II[J)I" } : Jvm.MethodName)) ∈ TB := kTB (List.mem_append_right _ (List.mem_of_getElem? (i := 316) (by decide +kernel))) rfl
theorem ml_L_34 : (Jvm.Cond.methodLink "BeamDrawerLaw" (34 : Nat) ({ cls := "BeamDrawer", name := "set", desc := "(II)I" } : Jvm.MethodName)) ∈ TB := kTB (List.mem_append_right _ (List.mem_of_getElem? (i := 318) (by decide +kernel))) rfl
theorem wc_B_set : (Jvm.Cond.code ({ cls := "BeamDrawer", name := "set", desc := "(II)I" } : Jvm.MethodName) prog_1_method_9_code (4 : Nat) (Option.some Jvm.ClassFile.FieldType.int)) ∈ TB := kTB (List.mem_append_right _ (List.mem_of_getElem? (i := 321) (by decide +kernel))) rfl
theorem wm_B_set : (Jvm.Cond.instanceMethod ({ cls := "BeamDrawer", name := "set", desc := "(II)I" } : Jvm.MethodName)) ∈ TB := kTB (List.mem_append_right _ (List.mem_of_getElem? (i := 319) (by decide +kernel))) rfl
theorem wsel_B_set : (Jvm.Cond.selects "BeamDrawer" ({ cls := "BeamDrawer", name := "set", desc := "(II)I" } : Jvm.MethodName) ({ cls := "BeamDrawer", name := "set", desc := "(II)I" } : Jvm.MethodName)) ∈ TB := kTB (List.mem_append_right _ (List.mem_of_getElem? (i := 320) (by decide +kernel))) rfl
theorem mi_B_set : kM y_B_set b_B_set 4 (some .int) 2 ∧ Cond.instanceMethod y_B_set ∈ TB ∧ Cond.selects R_B y_B_set y_B_set ∈ TB := ⟨⟨wc_B_set, wi_B, by decide +kernel, by decide +kernel, by decide +kernel⟩, wm_B_set, wsel_B_set⟩
theorem wc_L_count : (Jvm.Cond.codeWith ({ cls := "BeamDrawerLaw", name := "count", desc := "(LBeamDrawer;I[J)I" } : Jvm.MethodName) method_10_code (4 : Nat) (Option.some Jvm.ClassFile.FieldType.int) [((0 : Nat), (9 : Nat), (12 : Nat), (13 : Nat))]) ∈ TB := kTB (List.mem_append_right _ (List.mem_of_getElem? (i := 330) (by decide +kernel))) rfl
theorem wst_L_count : (Jvm.Cond.static ({ cls := "BeamDrawerLaw", name := "count", desc := "(LBeamDrawer;I[J)I" } : Jvm.MethodName)) ∈ TB := kTB (List.mem_append_right _ (List.mem_of_getElem? (i := 329) (by decide +kernel))) rfl
theorem ml_L_38 : (Jvm.Cond.methodLink "BeamDrawerLaw" (38 : Nat) ({ cls := "BeamDrawer", name := "count", desc := "(I)I" } : Jvm.MethodName)) ∈ TB := kTB (List.mem_append_right _ (List.mem_of_getElem? (i := 331) (by decide +kernel))) rfl
theorem wc_B_count : (Jvm.Cond.code ({ cls := "BeamDrawer", name := "count", desc := "(I)I" } : Jvm.MethodName) prog_1_method_10_code (2 : Nat) (Option.some Jvm.ClassFile.FieldType.int)) ∈ TB := kTB (List.mem_append_right _ (List.mem_of_getElem? (i := 334) (by decide +kernel))) rfl
theorem wm_B_count : (Jvm.Cond.instanceMethod ({ cls := "BeamDrawer", name := "count", desc := "(I)I" } : Jvm.MethodName)) ∈ TB := kTB (List.mem_append_right _ (List.mem_of_getElem? (i := 332) (by decide +kernel))) rfl
theorem wsel_B_count : (Jvm.Cond.selects "BeamDrawer" ({ cls := "BeamDrawer", name := "count", desc := "(I)I" } : Jvm.MethodName) ({ cls := "BeamDrawer", name := "count", desc := "(I)I" } : Jvm.MethodName)) ∈ TB := kTB (List.mem_append_right _ (List.mem_of_getElem? (i := 333) (by decide +kernel))) rfl
theorem mi_B_count : kM y_B_count b_B_count 2 (some .int) 1 ∧ Cond.instanceMethod y_B_count ∈ TB ∧ Cond.selects R_B y_B_count y_B_count ∈ TB := ⟨⟨wc_B_count, wi_B, by decide +kernel, by decide +kernel, by decide +kernel⟩, wm_B_count, wsel_B_count⟩
def y_L_write : MethodName := ⟨R_L, "write", "(LBeamDrawer;II)I"⟩
abbrev b_L_write : ByteArray := method_3_code
theorem d_L_write_0 : decode b_L_write 0 = .ok (.aload_n 0, 1) := by decide +kernel
theorem d_L_write_1 : decode b_L_write 1 = .ok (.iload_n 1, 1) := by decide +kernel
theorem d_L_write_2 : decode b_L_write 2 = .ok (.iload_n 2, 1) := by decide +kernel
theorem d_L_write_3 : decode b_L_write 3 = .ok (.invokevirtual 7, 3) := by decide +kernel
theorem d_L_write_6 : decode b_L_write 6 = .ok (.goto 9, 3) := by decide +kernel
theorem d_L_write_9 : decode b_L_write 9 = .ok (.astore_n 3, 1) := by decide +kernel
theorem d_L_write_10 : decode b_L_write 10 = .ok (.iconst 1, 1) := by decide +kernel
theorem d_L_write_11 : decode b_L_write 11 = .ok (.ireturn, 1) := by decide +kernel
theorem d_L_write_12 : decode b_L_write 12 = .ok (.astore_n 3, 1) := by decide +kernel
theorem d_L_write_13 : decode b_L_write 13 = .ok (.iconst 2, 1) := by decide +kernel
theorem d_L_write_14 : decode b_L_write 14 = .ok (.ireturn, 1) := by decide +kernel
theorem d_L_write_15 : decode b_L_write 15 = .ok (.iconst 0, 1) := by decide +kernel
theorem d_L_write_16 : decode b_L_write 16 = .ok (.ireturn, 1) := by decide +kernel
def w_L_write : List Cond := .codeWith y_L_write b_L_write 4 (some .int) [(0, 6, 9, 13), (0, 6, 12, 15)] :: TB
def y_L_clocks : MethodName := ⟨R_L, "clocks", "(LBeamDrawer;I[J)I"⟩
abbrev b_L_clocks : ByteArray := method_4_code
theorem d_L_clocks_0 : decode b_L_clocks 0 = .ok (.aload_n 2, 1) := by decide +kernel
theorem d_L_clocks_1 : decode b_L_clocks 1 = .ok (.iconst 0, 1) := by decide +kernel
theorem d_L_clocks_2 : decode b_L_clocks 2 = .ok (.aload_n 0, 1) := by decide +kernel
theorem d_L_clocks_3 : decode b_L_clocks 3 = .ok (.iload_n 1, 1) := by decide +kernel
theorem d_L_clocks_4 : decode b_L_clocks 4 = .ok (.invokevirtual 17, 3) := by decide +kernel
theorem d_L_clocks_7 : decode b_L_clocks 7 = .ok (.i2l, 1) := by decide +kernel
theorem d_L_clocks_8 : decode b_L_clocks 8 = .ok (.lastore, 1) := by decide +kernel
theorem d_L_clocks_9 : decode b_L_clocks 9 = .ok (.goto 6, 3) := by decide +kernel
theorem d_L_clocks_12 : decode b_L_clocks 12 = .ok (.astore_n 3, 1) := by decide +kernel
theorem d_L_clocks_13 : decode b_L_clocks 13 = .ok (.iconst 1, 1) := by decide +kernel
theorem d_L_clocks_14 : decode b_L_clocks 14 = .ok (.ireturn, 1) := by decide +kernel
theorem d_L_clocks_15 : decode b_L_clocks 15 = .ok (.iconst 0, 1) := by decide +kernel
theorem d_L_clocks_16 : decode b_L_clocks 16 = .ok (.ireturn, 1) := by decide +kernel
def w_L_clocks : List Cond := .codeWith y_L_clocks b_L_clocks 4 (some .int) [(0, 9, 12, 15)] :: TB
def y_L_pixel : MethodName := ⟨R_L, "pixel", "(LBeamDrawer;I[J)I"⟩
abbrev b_L_pixel : ByteArray := method_5_code
theorem d_L_pixel_0 : decode b_L_pixel 0 = .ok (.aload_n 2, 1) := by decide +kernel
theorem d_L_pixel_1 : decode b_L_pixel 1 = .ok (.iconst 0, 1) := by decide +kernel
theorem d_L_pixel_2 : decode b_L_pixel 2 = .ok (.aload_n 0, 1) := by decide +kernel
theorem d_L_pixel_3 : decode b_L_pixel 3 = .ok (.iload_n 1, 1) := by decide +kernel
theorem d_L_pixel_4 : decode b_L_pixel 4 = .ok (.invokevirtual 21, 3) := by decide +kernel
theorem d_L_pixel_7 : decode b_L_pixel 7 = .ok (.i2l, 1) := by decide +kernel
theorem d_L_pixel_8 : decode b_L_pixel 8 = .ok (.lastore, 1) := by decide +kernel
theorem d_L_pixel_9 : decode b_L_pixel 9 = .ok (.goto 6, 3) := by decide +kernel
theorem d_L_pixel_12 : decode b_L_pixel 12 = .ok (.astore_n 3, 1) := by decide +kernel
theorem d_L_pixel_13 : decode b_L_pixel 13 = .ok (.iconst 1, 1) := by decide +kernel
theorem d_L_pixel_14 : decode b_L_pixel 14 = .ok (.ireturn, 1) := by decide +kernel
theorem d_L_pixel_15 : decode b_L_pixel 15 = .ok (.iconst 0, 1) := by decide +kernel
theorem d_L_pixel_16 : decode b_L_pixel 16 = .ok (.ireturn, 1) := by decide +kernel
def w_L_pixel : List Cond := .codeWith y_L_pixel b_L_pixel 4 (some .int) [(0, 9, 12, 13)] :: TB
def y_L_met : MethodName := ⟨R_L, "met", "(LBeamDrawer;II[J)I"⟩
abbrev b_L_met : ByteArray := method_6_code
theorem d_L_met_0 : decode b_L_met 0 = .ok (.aload_n 3, 1) := by decide +kernel
theorem d_L_met_1 : decode b_L_met 1 = .ok (.iconst 0, 1) := by decide +kernel
theorem d_L_met_2 : decode b_L_met 2 = .ok (.aload_n 0, 1) := by decide +kernel
theorem d_L_met_3 : decode b_L_met 3 = .ok (.iload_n 1, 1) := by decide +kernel
theorem d_L_met_4 : decode b_L_met 4 = .ok (.iload_n 2, 1) := by decide +kernel
theorem d_L_met_5 : decode b_L_met 5 = .ok (.invokevirtual 24, 3) := by decide +kernel
theorem d_L_met_8 : decode b_L_met 8 = .ok (.ifCond .eq 7, 3) := by decide +kernel
theorem d_L_met_11 : decode b_L_met 11 = .ok (.lconst 1, 1) := by decide +kernel
theorem d_L_met_12 : decode b_L_met 12 = .ok (.goto 4, 3) := by decide +kernel
theorem d_L_met_15 : decode b_L_met 15 = .ok (.lconst 0, 1) := by decide +kernel
theorem d_L_met_16 : decode b_L_met 16 = .ok (.lastore, 1) := by decide +kernel
theorem d_L_met_17 : decode b_L_met 17 = .ok (.goto 7, 3) := by decide +kernel
theorem d_L_met_20 : decode b_L_met 20 = .ok (.astore 4, 2) := by decide +kernel
theorem d_L_met_22 : decode b_L_met 22 = .ok (.iconst 1, 1) := by decide +kernel
theorem d_L_met_23 : decode b_L_met 23 = .ok (.ireturn, 1) := by decide +kernel
theorem d_L_met_24 : decode b_L_met 24 = .ok (.iconst 0, 1) := by decide +kernel
theorem d_L_met_25 : decode b_L_met 25 = .ok (.ireturn, 1) := by decide +kernel
def w_L_met : List Cond := .codeWith y_L_met b_L_met 5 (some .int) [(0, 17, 20, 13)] :: TB
def y_L_place : MethodName := ⟨R_L, "place", "(LBeamDrawer;I[J)I"⟩
abbrev b_L_place : ByteArray := method_7_code
theorem d_L_place_0 : decode b_L_place 0 = .ok (.aload_n 2, 1) := by decide +kernel
theorem d_L_place_1 : decode b_L_place 1 = .ok (.iconst 0, 1) := by decide +kernel
theorem d_L_place_2 : decode b_L_place 2 = .ok (.aload_n 0, 1) := by decide +kernel
theorem d_L_place_3 : decode b_L_place 3 = .ok (.iload_n 1, 1) := by decide +kernel
theorem d_L_place_4 : decode b_L_place 4 = .ok (.invokevirtual 28, 3) := by decide +kernel
theorem d_L_place_7 : decode b_L_place 7 = .ok (.i2l, 1) := by decide +kernel
theorem d_L_place_8 : decode b_L_place 8 = .ok (.lastore, 1) := by decide +kernel
theorem d_L_place_9 : decode b_L_place 9 = .ok (.goto 6, 3) := by decide +kernel
theorem d_L_place_12 : decode b_L_place 12 = .ok (.astore_n 3, 1) := by decide +kernel
theorem d_L_place_13 : decode b_L_place 13 = .ok (.iconst 1, 1) := by decide +kernel
theorem d_L_place_14 : decode b_L_place 14 = .ok (.ireturn, 1) := by decide +kernel
theorem d_L_place_15 : decode b_L_place 15 = .ok (.iconst 0, 1) := by decide +kernel
theorem d_L_place_16 : decode b_L_place 16 = .ok (.ireturn, 1) := by decide +kernel
def w_L_place : List Cond := .codeWith y_L_place b_L_place 4 (some .int) [(0, 9, 12, 13)] :: TB
def y_L_there : MethodName := ⟨R_L, "there", "(LBeamDrawer;II[J)I"⟩
abbrev b_L_there : ByteArray := method_8_code
theorem d_L_there_0 : decode b_L_there 0 = .ok (.aload_n 3, 1) := by decide +kernel
theorem d_L_there_1 : decode b_L_there 1 = .ok (.iconst 0, 1) := by decide +kernel
theorem d_L_there_2 : decode b_L_there 2 = .ok (.aload_n 0, 1) := by decide +kernel
theorem d_L_there_3 : decode b_L_there 3 = .ok (.iload_n 1, 1) := by decide +kernel
theorem d_L_there_4 : decode b_L_there 4 = .ok (.iload_n 2, 1) := by decide +kernel
theorem d_L_there_5 : decode b_L_there 5 = .ok (.invokevirtual 31, 3) := by decide +kernel
theorem d_L_there_8 : decode b_L_there 8 = .ok (.ifCond .eq 7, 3) := by decide +kernel
theorem d_L_there_11 : decode b_L_there 11 = .ok (.lconst 1, 1) := by decide +kernel
theorem d_L_there_12 : decode b_L_there 12 = .ok (.goto 4, 3) := by decide +kernel
theorem d_L_there_15 : decode b_L_there 15 = .ok (.lconst 0, 1) := by decide +kernel
theorem d_L_there_16 : decode b_L_there 16 = .ok (.lastore, 1) := by decide +kernel
theorem d_L_there_17 : decode b_L_there 17 = .ok (.goto 7, 3) := by decide +kernel
theorem d_L_there_20 : decode b_L_there 20 = .ok (.astore 4, 2) := by decide +kernel
theorem d_L_there_22 : decode b_L_there 22 = .ok (.iconst 1, 1) := by decide +kernel
theorem d_L_there_23 : decode b_L_there 23 = .ok (.ireturn, 1) := by decide +kernel
theorem d_L_there_24 : decode b_L_there 24 = .ok (.iconst 0, 1) := by decide +kernel
theorem d_L_there_25 : decode b_L_there 25 = .ok (.ireturn, 1) := by decide +kernel
def w_L_there : List Cond := .codeWith y_L_there b_L_there 5 (some .int) [(0, 17, 20, 13)] :: TB
def y_L_set : MethodName := ⟨R_L, "set", "(LBeamDrawer;II[J)I"⟩
abbrev b_L_set : ByteArray := method_9_code
theorem d_L_set_0 : decode b_L_set 0 = .ok (.aload_n 3, 1) := by decide +kernel
theorem d_L_set_1 : decode b_L_set 1 = .ok (.iconst 0, 1) := by decide +kernel
theorem d_L_set_2 : decode b_L_set 2 = .ok (.aload_n 0, 1) := by decide +kernel
theorem d_L_set_3 : decode b_L_set 3 = .ok (.iload_n 1, 1) := by decide +kernel
theorem d_L_set_4 : decode b_L_set 4 = .ok (.iload_n 2, 1) := by decide +kernel
theorem d_L_set_5 : decode b_L_set 5 = .ok (.invokevirtual 34, 3) := by decide +kernel
theorem d_L_set_8 : decode b_L_set 8 = .ok (.i2l, 1) := by decide +kernel
theorem d_L_set_9 : decode b_L_set 9 = .ok (.lastore, 1) := by decide +kernel
theorem d_L_set_10 : decode b_L_set 10 = .ok (.goto 11, 3) := by decide +kernel
theorem d_L_set_13 : decode b_L_set 13 = .ok (.astore 4, 2) := by decide +kernel
theorem d_L_set_15 : decode b_L_set 15 = .ok (.iconst 1, 1) := by decide +kernel
theorem d_L_set_16 : decode b_L_set 16 = .ok (.ireturn, 1) := by decide +kernel
theorem d_L_set_17 : decode b_L_set 17 = .ok (.astore 4, 2) := by decide +kernel
theorem d_L_set_19 : decode b_L_set 19 = .ok (.iconst 2, 1) := by decide +kernel
theorem d_L_set_20 : decode b_L_set 20 = .ok (.ireturn, 1) := by decide +kernel
theorem d_L_set_21 : decode b_L_set 21 = .ok (.iconst 0, 1) := by decide +kernel
theorem d_L_set_22 : decode b_L_set 22 = .ok (.ireturn, 1) := by decide +kernel
def w_L_set : List Cond := .codeWith y_L_set b_L_set 5 (some .int) [(0, 10, 13, 13), (0, 10, 17, 15)] :: TB
def y_L_count : MethodName := ⟨R_L, "count", "(LBeamDrawer;I[J)I"⟩
abbrev b_L_count : ByteArray := method_10_code
theorem d_L_count_0 : decode b_L_count 0 = .ok (.aload_n 2, 1) := by decide +kernel
theorem d_L_count_1 : decode b_L_count 1 = .ok (.iconst 0, 1) := by decide +kernel
theorem d_L_count_2 : decode b_L_count 2 = .ok (.aload_n 0, 1) := by decide +kernel
theorem d_L_count_3 : decode b_L_count 3 = .ok (.iload_n 1, 1) := by decide +kernel
theorem d_L_count_4 : decode b_L_count 4 = .ok (.invokevirtual 38, 3) := by decide +kernel
theorem d_L_count_7 : decode b_L_count 7 = .ok (.i2l, 1) := by decide +kernel
theorem d_L_count_8 : decode b_L_count 8 = .ok (.lastore, 1) := by decide +kernel
theorem d_L_count_9 : decode b_L_count 9 = .ok (.goto 6, 3) := by decide +kernel
theorem d_L_count_12 : decode b_L_count 12 = .ok (.astore_n 3, 1) := by decide +kernel
theorem d_L_count_13 : decode b_L_count 13 = .ok (.iconst 1, 1) := by decide +kernel
theorem d_L_count_14 : decode b_L_count 14 = .ok (.ireturn, 1) := by decide +kernel
theorem d_L_count_15 : decode b_L_count 15 = .ok (.iconst 0, 1) := by decide +kernel
theorem d_L_count_16 : decode b_L_count 16 = .ok (.ireturn, 1) := by decide +kernel
def w_L_count : List Cond := .codeWith y_L_count b_L_count 4 (some .int) [(0, 9, 12, 13)] :: TB
/-! the law's helpers: rules -/
abbrev bo (cA ad : Nat → Nat) (σ : Nat → Nat → Int32) (f : Nat → Int64) : va_W := bw cA ad σ ++ [(ad 7, .inl (cA 2, 1, .inr (.inl f)))]
theorem bo_s (cA ad : Nat → Nat) (σ : Nat → Nat → Int32) (f : Nat → Int64) (x : Int64) : List.set (bo cA ad σ f) 7 (ad 7, .inl (cA 2, 1, .inr (.inl (vp_updL f (0 : Int32).toNatClampNeg x)))) = bo cA ad σ (vp_updL f 0 x) := rfl
theorem bo_7 {D : va_G} {cA ad : Nat → Nat} {σ : Nat → Nat → Int32} {f : Nat → Int64} {H : Heap} (h : va_P D classes (bo cA ad σ f) H) : va_P D classes (bw cA ad σ) H := h.sub [0, 1, 2, 3, 4, 5, 6] rfl
theorem kap7 {ad : Nat → Nat} (h : kap 8 ad) : kap 7 ad := fun i j hi hj => h i j (by omega) (by omega)
theorem kA78 {ad : Nat → Nat} {q : Nat} (h : kA 7 ad q) : kA 8 ad q := by
  obtain ⟨k, hk, e⟩ := h
  exact ⟨k, by omega, e⟩
theorem kZ.narrow {A B : Nat → Prop} {t : Nat → Nat} {U : State} (h : kZ A t U) (hAB : ∀ q, B q → A q) : kZ B t U :=
  ⟨⟨h.1.1.narrow hAB, h.1.2.narrow hAB⟩, ⟨h.2.1.1.narrow hAB, h.2.1.2.narrow hAB⟩, ⟨h.2.2.1.narrow hAB, h.2.2.2.narrow hAB⟩⟩
theorem bo_join {D : va_G} {cA ad : Nat → Nat} {σ σ' : Nat → Nat → Int32} {f : Nat → Int64} {H H1 : Heap} (hap : kap 8 ad) (h : va_P D classes (bo cA ad σ f) H) (h1 : va_P D classes (bw cA ad σ') H1) (hq : ∀ q : Nat, q < H.size → ¬ kA 7 ad q → H1[q]? = H[q]?) : va_P D classes (bo cA ad σ' f) H1 := by
  have h7 : va_P D classes [(ad 7, .inl (cA 2, 1, .inr (.inl f)))] H := h.sub [7] rfl
  refine h1.app (h7.kept fun k q hk => ?_)
  have hlt : ad 7 < H.size := vx_lt h (k := 7) rfl
  have hk0 : q = (ad 7, .inl (cA 2, 1, .inr (.inl f))) := by
    match k, hk with
    | 0, hk => exact (Option.some.inj hk).symm
  rw [hk0]
  refine hq _ hlt fun ⟨j, hj, e⟩ => ?_
  have := hap 7 j (by decide) (by omega) e
  omega
theorem kP_same {D : va_G} {ws : va_W} {H H1 : Heap} (h : va_P D classes ws H) (hq : ∀ q : Nat, q < H.size → H1[q]? = H[q]?) : va_P D classes ws H1 :=
  h.kept fun _ _ hk => hq _ (vx_lt h hk)
/-- what a helper of the law finds -/
def lPre (D : va_G) (cA ad t : Nat → Nat) (σ : Nat → Nat → Int32) (f : Nat → Int64) (U : State) : Prop := va_P D classes (bo cA ad σ f) U.heap ∧ va_K D classes (kty cA) U ∧ kZ (kA 8 ad) t U ∧ xPre U ∧ va_Nc kIAE kNSE U
theorem xPre.at {s U : State} (h : xPre s) (hU : U.heap = s.heap) (hvm : s.vm.Alike U.vm) : xPre U := by
  unfold xPre
  rw [hU]
  exact ⟨vx_Zq.moved hvm h.1, vx_Zq.moved hvm h.2⟩
theorem xblind {D : va_G} {cA ad t : Nat → Nat} {σ : Nat → Nat → Int32} {av : List Value} : FrameBlind (va_Pc av (fun U => bPre D cA ad t σ U ∧ xPre U)) := fun a U g mk q => by
  obtain ⟨q0, ⟨qP, qK, qZ⟩, qX⟩ := q
  exact ⟨q0, ⟨qP, va_K.moved (u := U) (U := U.calling g mk a) (Vm.Alike.refl U.vm) qK, kZ.at (U := U.calling g mk a) qZ (va_S.rf (A := kA 7 ad)) rfl (Vm.Alike.refl U.vm)⟩, qX.at rfl (Vm.Alike.refl U.vm)⟩
theorem xpreV {D : va_G} {cA ad t : Nat → Nat} {σ : Nat → Nat → Int32} {s : State} {As : List Value} (hK : va_K D classes (kty cA) s) (hP : va_P D classes (bw cA ad σ) s.heap) (hZ : kZ (kA 7 ad) t s) (hX : xPre s) : PreV s s.heap R_B (ad 0) (va_Pc (.ref (ad 0) :: As) (fun U => bPre D cA ad t σ U ∧ xPre U)) As :=
  ⟨xblind, va_recv (q0 := 0) (ci := 0) hK hP rfl rfl, fun U hU hW => ⟨rfl, bpreU hK hP hZ (va_S.rf (A := kA 7 ad)) U hU hW, hX.at hU hW.alike⟩⟩
section KXC
variable {p : Program} {l : Launch} {e : Env} {R : Room} {s : State} {m : MethodId} {args : Array Value} {below : List Frame} {meth : Method} {c : Code} {H : Heap} {locs : List Loc} {cells slots : Nat} {Q : State → Prop}
variable {pc mc ms : Nat} {ls : Array Slot} {rest st0 : List Value} {A0 : Nat → Prop} {H0 : Heap}
/-- a call that throws, and nothing else -/
theorem kxc {C : String} {Qa : State → Outcome → State → Prop} (hno : ∀ a b c, ¬ Qa a b c) (hr : vx_Run p l e R s m args below meth c H locs cells slots mc ms (F0 m pc ls st0) rest Qa (kXC C) (fun _ => False)) (hS : va_S A0 H0 H locs)
    (kx : ∀ (ce : Cell) (q9 : Addr) (H1 : Heap) (locs1 : List Loc), H.size ≤ H1.size → (∀ q : Nat, q < H.size → H1[q]? = H[q]?) → va_S A0 H0 H1 locs1 → H1[q9]? = some ce → ce.vm = .none → s.vm.findClass C = some ce.cls → vx_W p l e R s m args below meth c H1 locs1 (cells + mc) (slots + ms) Q (F0 m pc ls rest) q9) : W p l e R s m args below meth c H locs cells slots Q (F0 m pc ls st0) := by
  intro T hT X
  rcases hr T hT X with ⟨v, st₀, t, T', L, h0, X', hL, e1, e2, hq, st⟩ | ⟨q, st₀, t, T', L, E, ce, h0, X', hL, e1, e2, ⟨hE, hz, hk⟩, hce, hcv, hcl, st⟩
  · exact absurd hq (hno _ _ _)
  · subst hE
    rw [h0] at hz hk
    have hS1 : va_S A0 H0 T'.heap (locs ++ L) := by
      refine ⟨Nat.le_trans hS.1 (by rw [e1]; exact hz), fun q h1 h2 => ?_, fun q hq => ?_⟩
      · rw [e1, hk q (Nat.lt_of_lt_of_le h1 hS.1)]
        exact hS.2.1 q h1 h2
      · rcases List.mem_append.mp hq with h | h
        · exact hS.2.2 q h
        · exact (hL q h).elim
    obtain ⟨t2, a1, b1⟩ := kx ce q T'.heap (locs ++ L) (by rw [e1]; exact hz) (fun q h => by rw [e1]; exact hk q h) hS1 (by rw [e1]; exact hce) hcv hcl T' rfl X'
    exact ⟨t2, st.trans a1, b1⟩
/-- a call that answers an int and may have made cells -/
theorem kciM {D : va_G} {ws' : va_W} {A1 : Nat → Prop} {free : Addr → Prop} {a : Array Value} {r : Int32} (hr : va_Run p l e R s m args below meth c H locs cells slots mc ms (F0 m pc ls st0) rest (kQi D ws' A1 r a) free) (hS : va_S A0 H0 H locs) (hA : ∀ q, q < H.size → A1 q → A0 q) (hf : ∀ q, free q → A0 q)
    (kk : ∀ (H1 : Heap) (locs1 : List Loc), va_P D classes ws' H1 → H.size ≤ H1.size → (∀ q : Nat, q < H.size → ¬ A1 q → H1[q]? = H[q]?) → va_S A0 H0 H1 locs1 → W p l e R s m args below meth c H1 locs1 (cells + mc) (slots + ms) Q (F0 m (pc + 3) ls (.int r :: rest))) : W p l e R s m args below meth c H locs cells slots Q (F0 m pc ls st0) := by
  intro T hT X
  obtain ⟨v, st₀, t, T', L, h0, X', hL, e1, e2, ⟨hv, hp, hF⟩, st⟩ := hr T hT X
  cases hv
  obtain ⟨k1, k2, k3⟩ := vx_keep h0 e1 hS hA hf hL hF
  obtain ⟨t2, a1, b1⟩ := kk T'.heap (locs ++ L) (by rw [e1]; exact hp) k1 k2 k3 T' rfl X'
  exact ⟨t2, st t2 a1, b1⟩
end KXC
