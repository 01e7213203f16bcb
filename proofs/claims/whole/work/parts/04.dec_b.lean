def y_JM_floorMod : MethodName := ⟨R_JM, "floorMod", "(II)I"⟩
abbrev b_JM_floorMod : ByteArray := prog_8_method_50_code
def w_JM_floorMod : List Cond := .code y_JM_floorMod b_JM_floorMod 3 (some .int) :: TB
theorem d_JM_floorMod_0 : decode b_JM_floorMod 0 = .ok (.iload_n 0, 1) := by decide +kernel
theorem d_JM_floorMod_1 : decode b_JM_floorMod 1 = .ok (.iload_n 1, 1) := by decide +kernel
theorem d_JM_floorMod_2 : decode b_JM_floorMod 2 = .ok (.irem, 1) := by decide +kernel
theorem d_JM_floorMod_3 : decode b_JM_floorMod 3 = .ok (.istore_n 2, 1) := by decide +kernel
theorem d_JM_floorMod_4 : decode b_JM_floorMod 4 = .ok (.iload_n 0, 1) := by decide +kernel
theorem d_JM_floorMod_5 : decode b_JM_floorMod 5 = .ok (.iload_n 1, 1) := by decide +kernel
theorem d_JM_floorMod_6 : decode b_JM_floorMod 6 = .ok (.ixor, 1) := by decide +kernel
theorem d_JM_floorMod_7 : decode b_JM_floorMod 7 = .ok (.ifCond .ge 11, 3) := by decide +kernel
theorem d_JM_floorMod_10 : decode b_JM_floorMod 10 = .ok (.iload_n 2, 1) := by decide +kernel
theorem d_JM_floorMod_11 : decode b_JM_floorMod 11 = .ok (.ifCond .eq 7, 3) := by decide +kernel
theorem d_JM_floorMod_14 : decode b_JM_floorMod 14 = .ok (.iload_n 2, 1) := by decide +kernel
theorem d_JM_floorMod_15 : decode b_JM_floorMod 15 = .ok (.iload_n 1, 1) := by decide +kernel
theorem d_JM_floorMod_16 : decode b_JM_floorMod 16 = .ok (.iadd, 1) := by decide +kernel
theorem d_JM_floorMod_17 : decode b_JM_floorMod 17 = .ok (.ireturn, 1) := by decide +kernel
theorem d_JM_floorMod_18 : decode b_JM_floorMod 18 = .ok (.iload_n 2, 1) := by decide +kernel
theorem d_JM_floorMod_19 : decode b_JM_floorMod 19 = .ok (.ireturn, 1) := by decide +kernel
def y_JI_bitCount : MethodName := ⟨R_JI, "bitCount", "(I)I"⟩
abbrev b_JI_bitCount : ByteArray := prog_7_method_49_code
def w_JI_bitCount : List Cond := .code y_JI_bitCount b_JI_bitCount 1 (some .int) :: TB
theorem d_JI_bitCount_0 : decode b_JI_bitCount 0 = .ok (.iload_n 0, 1) := by decide +kernel
theorem d_JI_bitCount_1 : decode b_JI_bitCount 1 = .ok (.iload_n 0, 1) := by decide +kernel
theorem d_JI_bitCount_2 : decode b_JI_bitCount 2 = .ok (.iconst 1, 1) := by decide +kernel
theorem d_JI_bitCount_3 : decode b_JI_bitCount 3 = .ok (.iushr, 1) := by decide +kernel
theorem d_JI_bitCount_4 : decode b_JI_bitCount 4 = .ok (.ldc_w 265, 3) := by decide +kernel
theorem d_JI_bitCount_7 : decode b_JI_bitCount 7 = .ok (.iand, 1) := by decide +kernel
theorem d_JI_bitCount_8 : decode b_JI_bitCount 8 = .ok (.isub, 1) := by decide +kernel
theorem d_JI_bitCount_9 : decode b_JI_bitCount 9 = .ok (.istore_n 0, 1) := by decide +kernel
theorem d_JI_bitCount_10 : decode b_JI_bitCount 10 = .ok (.iload_n 0, 1) := by decide +kernel
theorem d_JI_bitCount_11 : decode b_JI_bitCount 11 = .ok (.ldc_w 266, 3) := by decide +kernel
theorem d_JI_bitCount_14 : decode b_JI_bitCount 14 = .ok (.iand, 1) := by decide +kernel
theorem d_JI_bitCount_15 : decode b_JI_bitCount 15 = .ok (.iload_n 0, 1) := by decide +kernel
theorem d_JI_bitCount_16 : decode b_JI_bitCount 16 = .ok (.iconst 2, 1) := by decide +kernel
theorem d_JI_bitCount_17 : decode b_JI_bitCount 17 = .ok (.iushr, 1) := by decide +kernel
theorem d_JI_bitCount_18 : decode b_JI_bitCount 18 = .ok (.ldc_w 266, 3) := by decide +kernel
theorem d_JI_bitCount_21 : decode b_JI_bitCount 21 = .ok (.iand, 1) := by decide +kernel
theorem d_JI_bitCount_22 : decode b_JI_bitCount 22 = .ok (.iadd, 1) := by decide +kernel
theorem d_JI_bitCount_23 : decode b_JI_bitCount 23 = .ok (.istore_n 0, 1) := by decide +kernel
theorem d_JI_bitCount_24 : decode b_JI_bitCount 24 = .ok (.iload_n 0, 1) := by decide +kernel
theorem d_JI_bitCount_25 : decode b_JI_bitCount 25 = .ok (.iload_n 0, 1) := by decide +kernel
theorem d_JI_bitCount_26 : decode b_JI_bitCount 26 = .ok (.iconst 4, 1) := by decide +kernel
theorem d_JI_bitCount_27 : decode b_JI_bitCount 27 = .ok (.iushr, 1) := by decide +kernel
theorem d_JI_bitCount_28 : decode b_JI_bitCount 28 = .ok (.iadd, 1) := by decide +kernel
theorem d_JI_bitCount_29 : decode b_JI_bitCount 29 = .ok (.ldc_w 267, 3) := by decide +kernel
theorem d_JI_bitCount_32 : decode b_JI_bitCount 32 = .ok (.iand, 1) := by decide +kernel
theorem d_JI_bitCount_33 : decode b_JI_bitCount 33 = .ok (.istore_n 0, 1) := by decide +kernel
theorem d_JI_bitCount_34 : decode b_JI_bitCount 34 = .ok (.iload_n 0, 1) := by decide +kernel
theorem d_JI_bitCount_35 : decode b_JI_bitCount 35 = .ok (.iload_n 0, 1) := by decide +kernel
theorem d_JI_bitCount_36 : decode b_JI_bitCount 36 = .ok (.bipush 8, 2) := by decide +kernel
theorem d_JI_bitCount_38 : decode b_JI_bitCount 38 = .ok (.iushr, 1) := by decide +kernel
theorem d_JI_bitCount_39 : decode b_JI_bitCount 39 = .ok (.iadd, 1) := by decide +kernel
theorem d_JI_bitCount_40 : decode b_JI_bitCount 40 = .ok (.istore_n 0, 1) := by decide +kernel
theorem d_JI_bitCount_41 : decode b_JI_bitCount 41 = .ok (.iload_n 0, 1) := by decide +kernel
theorem d_JI_bitCount_42 : decode b_JI_bitCount 42 = .ok (.iload_n 0, 1) := by decide +kernel
theorem d_JI_bitCount_43 : decode b_JI_bitCount 43 = .ok (.bipush 16, 2) := by decide +kernel
theorem d_JI_bitCount_45 : decode b_JI_bitCount 45 = .ok (.iushr, 1) := by decide +kernel
theorem d_JI_bitCount_46 : decode b_JI_bitCount 46 = .ok (.iadd, 1) := by decide +kernel
theorem d_JI_bitCount_47 : decode b_JI_bitCount 47 = .ok (.istore_n 0, 1) := by decide +kernel
theorem d_JI_bitCount_48 : decode b_JI_bitCount 48 = .ok (.iload_n 0, 1) := by decide +kernel
theorem d_JI_bitCount_49 : decode b_JI_bitCount 49 = .ok (.bipush 63, 2) := by decide +kernel
theorem d_JI_bitCount_51 : decode b_JI_bitCount 51 = .ok (.iand, 1) := by decide +kernel
theorem d_JI_bitCount_52 : decode b_JI_bitCount 52 = .ok (.ireturn, 1) := by decide +kernel
def y_B_isPixel : MethodName := ⟨R_B, "isPixel", "(I)Z"⟩
abbrev b_B_isPixel : ByteArray := prog_1_method_11_code
def w_B_isPixel : List Cond := .code y_B_isPixel b_B_isPixel 1 (some .boolean) :: TB
theorem d_B_isPixel_0 : decode b_B_isPixel 0 = .ok (.iload_n 0, 1) := by decide +kernel
theorem d_B_isPixel_1 : decode b_B_isPixel 1 = .ok (.ifCond .lt 14, 3) := by decide +kernel
theorem d_B_isPixel_4 : decode b_B_isPixel 4 = .ok (.iload_n 0, 1) := by decide +kernel
theorem d_B_isPixel_5 : decode b_B_isPixel 5 = .ok (.sipush 160, 3) := by decide +kernel
theorem d_B_isPixel_8 : decode b_B_isPixel 8 = .ok (.if_icmp .ge 7, 3) := by decide +kernel
theorem d_B_isPixel_11 : decode b_B_isPixel 11 = .ok (.iconst 1, 1) := by decide +kernel
theorem d_B_isPixel_12 : decode b_B_isPixel 12 = .ok (.goto 4, 3) := by decide +kernel
theorem d_B_isPixel_15 : decode b_B_isPixel 15 = .ok (.iconst 0, 1) := by decide +kernel
theorem d_B_isPixel_16 : decode b_B_isPixel 16 = .ok (.ireturn, 1) := by decide +kernel
def y_B_isObject : MethodName := ⟨R_B, "isObject", "(I)Z"⟩
abbrev b_B_isObject : ByteArray := prog_1_method_12_code
def w_B_isObject : List Cond := .code y_B_isObject b_B_isObject 1 (some .boolean) :: TB
theorem d_B_isObject_0 : decode b_B_isObject 0 = .ok (.iload_n 0, 1) := by decide +kernel
theorem d_B_isObject_1 : decode b_B_isObject 1 = .ok (.ifCond .lt 13, 3) := by decide +kernel
theorem d_B_isObject_4 : decode b_B_isObject 4 = .ok (.iload_n 0, 1) := by decide +kernel
theorem d_B_isObject_5 : decode b_B_isObject 5 = .ok (.bipush 6, 2) := by decide +kernel
theorem d_B_isObject_7 : decode b_B_isObject 7 = .ok (.if_icmp .ge 7, 3) := by decide +kernel
theorem d_B_isObject_10 : decode b_B_isObject 10 = .ok (.iconst 1, 1) := by decide +kernel
theorem d_B_isObject_11 : decode b_B_isObject 11 = .ok (.goto 4, 3) := by decide +kernel
theorem d_B_isObject_14 : decode b_B_isObject 14 = .ok (.iconst 0, 1) := by decide +kernel
theorem d_B_isObject_15 : decode b_B_isObject 15 = .ok (.ireturn, 1) := by decide +kernel
def y_B_hasBit : MethodName := ⟨R_B, "hasBit", "(II)Z"⟩
abbrev b_B_hasBit : ByteArray := prog_1_method_13_code
def w_B_hasBit : List Cond := .code y_B_hasBit b_B_hasBit 3 (some .boolean) :: TB
theorem d_B_hasBit_0 : decode b_B_hasBit 0 = .ok (.aload_n 0, 1) := by decide +kernel
theorem d_B_hasBit_1 : decode b_B_hasBit 1 = .ok (.getfield 9, 3) := by decide +kernel
theorem d_B_hasBit_4 : decode b_B_hasBit 4 = .ok (.iload_n 1, 1) := by decide +kernel
theorem d_B_hasBit_5 : decode b_B_hasBit 5 = .ok (.iaload, 1) := by decide +kernel
theorem d_B_hasBit_6 : decode b_B_hasBit 6 = .ok (.iload_n 2, 1) := by decide +kernel
theorem d_B_hasBit_7 : decode b_B_hasBit 7 = .ok (.iand, 1) := by decide +kernel
theorem d_B_hasBit_8 : decode b_B_hasBit 8 = .ok (.ifCond .eq 7, 3) := by decide +kernel
theorem d_B_hasBit_11 : decode b_B_hasBit 11 = .ok (.iconst 1, 1) := by decide +kernel
theorem d_B_hasBit_12 : decode b_B_hasBit 12 = .ok (.goto 4, 3) := by decide +kernel
theorem d_B_hasBit_15 : decode b_B_hasBit 15 = .ok (.iconst 0, 1) := by decide +kernel
theorem d_B_hasBit_16 : decode b_B_hasBit 16 = .ok (.ireturn, 1) := by decide +kernel
def y_B_copiesOf : MethodName := ⟨R_B, "copiesOf", "(I)I"⟩
abbrev b_B_copiesOf : ByteArray := prog_1_method_33_code
def w_B_copiesOf : List Cond := .code y_B_copiesOf b_B_copiesOf 2 (some .int) :: TB
theorem d_B_copiesOf_0 : decode b_B_copiesOf 0 = .ok (.aload_n 0, 1) := by decide +kernel
theorem d_B_copiesOf_1 : decode b_B_copiesOf 1 = .ok (.getfield 9, 3) := by decide +kernel
theorem d_B_copiesOf_4 : decode b_B_copiesOf 4 = .ok (.bipush 17, 2) := by decide +kernel
theorem d_B_copiesOf_6 : decode b_B_copiesOf 6 = .ok (.iload_n 1, 1) := by decide +kernel
theorem d_B_copiesOf_7 : decode b_B_copiesOf 7 = .ok (.iadd, 1) := by decide +kernel
theorem d_B_copiesOf_8 : decode b_B_copiesOf 8 = .ok (.iaload, 1) := by decide +kernel
theorem d_B_copiesOf_9 : decode b_B_copiesOf 9 = .ok (.bipush 7, 2) := by decide +kernel
theorem d_B_copiesOf_11 : decode b_B_copiesOf 11 = .ok (.iand, 1) := by decide +kernel
theorem d_B_copiesOf_12 : decode b_B_copiesOf 12 = .ok (.ireturn, 1) := by decide +kernel
def y_B_widthIn : MethodName := ⟨R_B, "widthIn", "(I)I"⟩
abbrev b_B_widthIn : ByteArray := prog_1_method_34_code
def w_B_widthIn : List Cond := .code y_B_widthIn b_B_widthIn 2 (some .int) :: TB
theorem d_B_widthIn_0 : decode b_B_widthIn 0 = .ok (.iconst 1, 1) := by decide +kernel
theorem d_B_widthIn_1 : decode b_B_widthIn 1 = .ok (.aload_n 0, 1) := by decide +kernel
theorem d_B_widthIn_2 : decode b_B_widthIn 2 = .ok (.getfield 9, 3) := by decide +kernel
theorem d_B_widthIn_5 : decode b_B_widthIn 5 = .ok (.iload_n 1, 1) := by decide +kernel
theorem d_B_widthIn_6 : decode b_B_widthIn 6 = .ok (.iaload, 1) := by decide +kernel
theorem d_B_widthIn_7 : decode b_B_widthIn 7 = .ok (.iconst 4, 1) := by decide +kernel
theorem d_B_widthIn_8 : decode b_B_widthIn 8 = .ok (.ishr, 1) := by decide +kernel
theorem d_B_widthIn_9 : decode b_B_widthIn 9 = .ok (.iconst 3, 1) := by decide +kernel
theorem d_B_widthIn_10 : decode b_B_widthIn 10 = .ok (.iand, 1) := by decide +kernel
theorem d_B_widthIn_11 : decode b_B_widthIn 11 = .ok (.ishl, 1) := by decide +kernel
theorem d_B_widthIn_12 : decode b_B_widthIn 12 = .ok (.ireturn, 1) := by decide +kernel
def y_B_behindPlace : MethodName := ⟨R_B, "behindPlace", "(II)I"⟩
abbrev b_B_behindPlace : ByteArray := prog_1_method_35_code
def w_B_behindPlace : List Cond := .code y_B_behindPlace b_B_behindPlace 3 (some .int) :: TB
theorem d_B_behindPlace_0 : decode b_B_behindPlace 0 = .ok (.iload_n 2, 1) := by decide +kernel
theorem d_B_behindPlace_1 : decode b_B_behindPlace 1 = .ok (.aload_n 0, 1) := by decide +kernel
theorem d_B_behindPlace_2 : decode b_B_behindPlace 2 = .ok (.getfield 16, 3) := by decide +kernel
theorem d_B_behindPlace_5 : decode b_B_behindPlace 5 = .ok (.iload_n 1, 1) := by decide +kernel
theorem d_B_behindPlace_6 : decode b_B_behindPlace 6 = .ok (.iaload, 1) := by decide +kernel
theorem d_B_behindPlace_7 : decode b_B_behindPlace 7 = .ok (.isub, 1) := by decide +kernel
theorem d_B_behindPlace_8 : decode b_B_behindPlace 8 = .ok (.sipush 160, 3) := by decide +kernel
theorem d_B_behindPlace_11 : decode b_B_behindPlace 11 = .ok (.invokestatic 121, 3) := by decide +kernel
theorem d_B_behindPlace_14 : decode b_B_behindPlace 14 = .ok (.ireturn, 1) := by decide +kernel
def y_B_behindCopy : MethodName := ⟨R_B, "behindCopy", "(II)I"⟩
abbrev b_B_behindCopy : ByteArray := prog_1_method_36_code
def w_B_behindCopy : List Cond := .code y_B_behindCopy b_B_behindCopy 3 (some .int) :: TB
theorem d_B_behindCopy_0 : decode b_B_behindCopy 0 = .ok (.getstatic 96, 3) := by decide +kernel
theorem d_B_behindCopy_3 : decode b_B_behindCopy 3 = .ok (.iload_n 0, 1) := by decide +kernel
theorem d_B_behindCopy_4 : decode b_B_behindCopy 4 = .ok (.iaload, 1) := by decide +kernel
theorem d_B_behindCopy_5 : decode b_B_behindCopy 5 = .ok (.ifCond .le 5, 3) := by decide +kernel
theorem d_B_behindCopy_8 : decode b_B_behindCopy 8 = .ok (.iload_n 1, 1) := by decide +kernel
theorem d_B_behindCopy_9 : decode b_B_behindCopy 9 = .ok (.ireturn, 1) := by decide +kernel
theorem d_B_behindCopy_10 : decode b_B_behindCopy 10 = .ok (.getstatic 174, 3) := by decide +kernel
theorem d_B_behindCopy_13 : decode b_B_behindCopy 13 = .ok (.iload_n 0, 1) := by decide +kernel
theorem d_B_behindCopy_14 : decode b_B_behindCopy 14 = .ok (.iaload, 1) := by decide +kernel
theorem d_B_behindCopy_15 : decode b_B_behindCopy 15 = .ok (.iload_n 1, 1) := by decide +kernel
theorem d_B_behindCopy_16 : decode b_B_behindCopy 16 = .ok (.bipush 16, 2) := by decide +kernel
theorem d_B_behindCopy_18 : decode b_B_behindCopy 18 = .ok (.idiv, 1) := by decide +kernel
theorem d_B_behindCopy_19 : decode b_B_behindCopy 19 = .ok (.ishr, 1) := by decide +kernel
theorem d_B_behindCopy_20 : decode b_B_behindCopy 20 = .ok (.iconst 1, 1) := by decide +kernel
theorem d_B_behindCopy_21 : decode b_B_behindCopy 21 = .ok (.iand, 1) := by decide +kernel
theorem d_B_behindCopy_22 : decode b_B_behindCopy 22 = .ok (.ifCond .eq 7, 3) := by decide +kernel
theorem d_B_behindCopy_25 : decode b_B_behindCopy 25 = .ok (.iconst 1, 1) := by decide +kernel
theorem d_B_behindCopy_26 : decode b_B_behindCopy 26 = .ok (.goto 4, 3) := by decide +kernel
theorem d_B_behindCopy_29 : decode b_B_behindCopy 29 = .ok (.iconst 0, 1) := by decide +kernel
theorem d_B_behindCopy_30 : decode b_B_behindCopy 30 = .ok (.istore_n 2, 1) := by decide +kernel
theorem d_B_behindCopy_31 : decode b_B_behindCopy 31 = .ok (.iload_n 2, 1) := by decide +kernel
theorem d_B_behindCopy_32 : decode b_B_behindCopy 32 = .ok (.ifCond .eq 10, 3) := by decide +kernel
theorem d_B_behindCopy_35 : decode b_B_behindCopy 35 = .ok (.iload_n 1, 1) := by decide +kernel
theorem d_B_behindCopy_36 : decode b_B_behindCopy 36 = .ok (.bipush 16, 2) := by decide +kernel
theorem d_B_behindCopy_38 : decode b_B_behindCopy 38 = .ok (.irem, 1) := by decide +kernel
theorem d_B_behindCopy_39 : decode b_B_behindCopy 39 = .ok (.goto 6, 3) := by decide +kernel
theorem d_B_behindCopy_42 : decode b_B_behindCopy 42 = .ok (.sipush 160, 3) := by decide +kernel
theorem d_B_behindCopy_45 : decode b_B_behindCopy 45 = .ok (.ireturn, 1) := by decide +kernel
def y_B_motionOf : MethodName := ⟨R_B, "motionOf", "(I)I"⟩
abbrev b_B_motionOf : ByteArray := prog_1_method_19_code
def w_B_motionOf : List Cond := .code y_B_motionOf b_B_motionOf 3 (some .int) :: TB
theorem d_B_motionOf_0 : decode b_B_motionOf 0 = .ok (.aload_n 0, 1) := by decide +kernel
theorem d_B_motionOf_1 : decode b_B_motionOf 1 = .ok (.getfield 9, 3) := by decide +kernel
theorem d_B_motionOf_4 : decode b_B_motionOf 4 = .ok (.bipush 23, 2) := by decide +kernel
theorem d_B_motionOf_6 : decode b_B_motionOf 6 = .ok (.iload_n 1, 1) := by decide +kernel
theorem d_B_motionOf_7 : decode b_B_motionOf 7 = .ok (.iadd, 1) := by decide +kernel
theorem d_B_motionOf_8 : decode b_B_motionOf 8 = .ok (.iaload, 1) := by decide +kernel
theorem d_B_motionOf_9 : decode b_B_motionOf 9 = .ok (.iconst 4, 1) := by decide +kernel
theorem d_B_motionOf_10 : decode b_B_motionOf 10 = .ok (.ishr, 1) := by decide +kernel
theorem d_B_motionOf_11 : decode b_B_motionOf 11 = .ok (.istore_n 2, 1) := by decide +kernel
theorem d_B_motionOf_12 : decode b_B_motionOf 12 = .ok (.iload_n 2, 1) := by decide +kernel
theorem d_B_motionOf_13 : decode b_B_motionOf 13 = .ok (.bipush 8, 2) := by decide +kernel
theorem d_B_motionOf_15 : decode b_B_motionOf 15 = .ok (.if_icmp .ge 7, 3) := by decide +kernel
theorem d_B_motionOf_18 : decode b_B_motionOf 18 = .ok (.iload_n 2, 1) := by decide +kernel
theorem d_B_motionOf_19 : decode b_B_motionOf 19 = .ok (.goto 7, 3) := by decide +kernel
theorem d_B_motionOf_22 : decode b_B_motionOf 22 = .ok (.iload_n 2, 1) := by decide +kernel
theorem d_B_motionOf_23 : decode b_B_motionOf 23 = .ok (.bipush 16, 2) := by decide +kernel
theorem d_B_motionOf_25 : decode b_B_motionOf 25 = .ok (.isub, 1) := by decide +kernel
theorem d_B_motionOf_26 : decode b_B_motionOf 26 = .ok (.ireturn, 1) := by decide +kernel
def y_B_hasFieldBit : MethodName := ⟨R_B, "hasFieldBit", "(I)Z"⟩
abbrev b_B_hasFieldBit : ByteArray := prog_1_method_32_code
def w_B_hasFieldBit : List Cond := .code y_B_hasFieldBit b_B_hasFieldBit 2 (some .boolean) :: TB
theorem d_B_hasFieldBit_0 : decode b_B_hasFieldBit 0 = .ok (.iload_n 1, 1) := by decide +kernel
theorem d_B_hasFieldBit_1 : decode b_B_hasFieldBit 1 = .ok (.iconst 4, 1) := by decide +kernel
theorem d_B_hasFieldBit_2 : decode b_B_hasFieldBit 2 = .ok (.if_icmp .ge 13, 3) := by decide +kernel
theorem d_B_hasFieldBit_5 : decode b_B_hasFieldBit 5 = .ok (.aload_n 0, 1) := by decide +kernel
theorem d_B_hasFieldBit_6 : decode b_B_hasFieldBit 6 = .ok (.iconst 5, 1) := by decide +kernel
theorem d_B_hasFieldBit_7 : decode b_B_hasFieldBit 7 = .ok (.bipush 16, 2) := by decide +kernel
theorem d_B_hasFieldBit_9 : decode b_B_hasFieldBit 9 = .ok (.iload_n 1, 1) := by decide +kernel
theorem d_B_hasFieldBit_10 : decode b_B_hasFieldBit 10 = .ok (.ishl, 1) := by decide +kernel
theorem d_B_hasFieldBit_11 : decode b_B_hasFieldBit 11 = .ok (.invokevirtual 90, 3) := by decide +kernel
theorem d_B_hasFieldBit_14 : decode b_B_hasFieldBit 14 = .ok (.ireturn, 1) := by decide +kernel
theorem d_B_hasFieldBit_15 : decode b_B_hasFieldBit 15 = .ok (.iload_n 1, 1) := by decide +kernel
theorem d_B_hasFieldBit_16 : decode b_B_hasFieldBit 16 = .ok (.bipush 12, 2) := by decide +kernel
theorem d_B_hasFieldBit_18 : decode b_B_hasFieldBit 18 = .ok (.if_icmp .ge 17, 3) := by decide +kernel
theorem d_B_hasFieldBit_21 : decode b_B_hasFieldBit 21 = .ok (.aload_n 0, 1) := by decide +kernel
theorem d_B_hasFieldBit_22 : decode b_B_hasFieldBit 22 = .ok (.bipush 6, 2) := by decide +kernel
theorem d_B_hasFieldBit_24 : decode b_B_hasFieldBit 24 = .ok (.sipush 128, 3) := by decide +kernel
theorem d_B_hasFieldBit_27 : decode b_B_hasFieldBit 27 = .ok (.iload_n 1, 1) := by decide +kernel
theorem d_B_hasFieldBit_28 : decode b_B_hasFieldBit 28 = .ok (.iconst 4, 1) := by decide +kernel
theorem d_B_hasFieldBit_29 : decode b_B_hasFieldBit 29 = .ok (.isub, 1) := by decide +kernel
theorem d_B_hasFieldBit_30 : decode b_B_hasFieldBit 30 = .ok (.ishr, 1) := by decide +kernel
theorem d_B_hasFieldBit_31 : decode b_B_hasFieldBit 31 = .ok (.invokevirtual 90, 3) := by decide +kernel
theorem d_B_hasFieldBit_34 : decode b_B_hasFieldBit 34 = .ok (.ireturn, 1) := by decide +kernel
theorem d_B_hasFieldBit_35 : decode b_B_hasFieldBit 35 = .ok (.aload_n 0, 1) := by decide +kernel
theorem d_B_hasFieldBit_36 : decode b_B_hasFieldBit 36 = .ok (.bipush 7, 2) := by decide +kernel
theorem d_B_hasFieldBit_38 : decode b_B_hasFieldBit 38 = .ok (.iconst 1, 1) := by decide +kernel
theorem d_B_hasFieldBit_39 : decode b_B_hasFieldBit 39 = .ok (.iload_n 1, 1) := by decide +kernel
theorem d_B_hasFieldBit_40 : decode b_B_hasFieldBit 40 = .ok (.bipush 12, 2) := by decide +kernel
theorem d_B_hasFieldBit_42 : decode b_B_hasFieldBit 42 = .ok (.isub, 1) := by decide +kernel
theorem d_B_hasFieldBit_43 : decode b_B_hasFieldBit 43 = .ok (.ishl, 1) := by decide +kernel
theorem d_B_hasFieldBit_44 : decode b_B_hasFieldBit 44 = .ok (.invokevirtual 90, 3) := by decide +kernel
theorem d_B_hasFieldBit_47 : decode b_B_hasFieldBit 47 = .ok (.ireturn, 1) := by decide +kernel
def y_B_isFieldAt : MethodName := ⟨R_B, "isFieldAt", "(I)Z"⟩
abbrev b_B_isFieldAt : ByteArray := prog_1_method_31_code
def w_B_isFieldAt : List Cond := .code y_B_isFieldAt b_B_isFieldAt 3 (some .boolean) :: TB
theorem d_B_isFieldAt_0 : decode b_B_isFieldAt 0 = .ok (.iload_n 1, 1) := by decide +kernel
theorem d_B_isFieldAt_1 : decode b_B_isFieldAt 1 = .ok (.bipush 80, 2) := by decide +kernel
theorem d_B_isFieldAt_3 : decode b_B_isFieldAt 3 = .ok (.if_icmp .ge 11, 3) := by decide +kernel
theorem d_B_isFieldAt_6 : decode b_B_isFieldAt 6 = .ok (.aload_n 0, 1) := by decide +kernel
theorem d_B_isFieldAt_7 : decode b_B_isFieldAt 7 = .ok (.iload_n 1, 1) := by decide +kernel
theorem d_B_isFieldAt_8 : decode b_B_isFieldAt 8 = .ok (.iconst 4, 1) := by decide +kernel
theorem d_B_isFieldAt_9 : decode b_B_isFieldAt 9 = .ok (.idiv, 1) := by decide +kernel
theorem d_B_isFieldAt_10 : decode b_B_isFieldAt 10 = .ok (.invokevirtual 171, 3) := by decide +kernel
theorem d_B_isFieldAt_13 : decode b_B_isFieldAt 13 = .ok (.ireturn, 1) := by decide +kernel
theorem d_B_isFieldAt_14 : decode b_B_isFieldAt 14 = .ok (.iload_n 1, 1) := by decide +kernel
theorem d_B_isFieldAt_15 : decode b_B_isFieldAt 15 = .ok (.bipush 80, 2) := by decide +kernel
theorem d_B_isFieldAt_17 : decode b_B_isFieldAt 17 = .ok (.isub, 1) := by decide +kernel
theorem d_B_isFieldAt_18 : decode b_B_isFieldAt 18 = .ok (.iconst 4, 1) := by decide +kernel
theorem d_B_isFieldAt_19 : decode b_B_isFieldAt 19 = .ok (.idiv, 1) := by decide +kernel
theorem d_B_isFieldAt_20 : decode b_B_isFieldAt 20 = .ok (.istore_n 2, 1) := by decide +kernel
theorem d_B_isFieldAt_21 : decode b_B_isFieldAt 21 = .ok (.aload_n 0, 1) := by decide +kernel
theorem d_B_isFieldAt_22 : decode b_B_isFieldAt 22 = .ok (.aload_n 0, 1) := by decide +kernel
theorem d_B_isFieldAt_23 : decode b_B_isFieldAt 23 = .ok (.bipush 8, 2) := by decide +kernel
theorem d_B_isFieldAt_25 : decode b_B_isFieldAt 25 = .ok (.iconst 1, 1) := by decide +kernel
theorem d_B_isFieldAt_26 : decode b_B_isFieldAt 26 = .ok (.invokevirtual 90, 3) := by decide +kernel
theorem d_B_isFieldAt_29 : decode b_B_isFieldAt 29 = .ok (.ifCond .eq 10, 3) := by decide +kernel
theorem d_B_isFieldAt_32 : decode b_B_isFieldAt 32 = .ok (.bipush 19, 2) := by decide +kernel
theorem d_B_isFieldAt_34 : decode b_B_isFieldAt 34 = .ok (.iload_n 2, 1) := by decide +kernel
theorem d_B_isFieldAt_35 : decode b_B_isFieldAt 35 = .ok (.isub, 1) := by decide +kernel
theorem d_B_isFieldAt_36 : decode b_B_isFieldAt 36 = .ok (.goto 4, 3) := by decide +kernel
theorem d_B_isFieldAt_39 : decode b_B_isFieldAt 39 = .ok (.iload_n 2, 1) := by decide +kernel
theorem d_B_isFieldAt_40 : decode b_B_isFieldAt 40 = .ok (.invokevirtual 171, 3) := by decide +kernel
theorem d_B_isFieldAt_43 : decode b_B_isFieldAt 43 = .ok (.ireturn, 1) := by decide +kernel
def y_B_isBallAt : MethodName := ⟨R_B, "isBallAt", "(I)Z"⟩
abbrev b_B_isBallAt : ByteArray := prog_1_method_30_code
def w_B_isBallAt : List Cond := .code y_B_isBallAt b_B_isBallAt 3 (some .boolean) :: TB
theorem d_B_isBallAt_0 : decode b_B_isBallAt 0 = .ok (.aload_n 0, 1) := by decide +kernel
theorem d_B_isBallAt_1 : decode b_B_isBallAt 1 = .ok (.bipush 14, 2) := by decide +kernel
theorem d_B_isBallAt_3 : decode b_B_isBallAt 3 = .ok (.iconst 1, 1) := by decide +kernel
theorem d_B_isBallAt_4 : decode b_B_isBallAt 4 = .ok (.invokevirtual 90, 3) := by decide +kernel
theorem d_B_isBallAt_7 : decode b_B_isBallAt 7 = .ok (.ifCond .eq 10, 3) := by decide +kernel
theorem d_B_isBallAt_10 : decode b_B_isBallAt 10 = .ok (.aload_n 0, 1) := by decide +kernel
theorem d_B_isBallAt_11 : decode b_B_isBallAt 11 = .ok (.getfield 87, 3) := by decide +kernel
theorem d_B_isBallAt_14 : decode b_B_isBallAt 14 = .ok (.goto 10, 3) := by decide +kernel
theorem d_B_isBallAt_17 : decode b_B_isBallAt 17 = .ok (.aload_n 0, 1) := by decide +kernel
theorem d_B_isBallAt_18 : decode b_B_isBallAt 18 = .ok (.getfield 9, 3) := by decide +kernel
theorem d_B_isBallAt_21 : decode b_B_isBallAt 21 = .ok (.bipush 13, 2) := by decide +kernel
theorem d_B_isBallAt_23 : decode b_B_isBallAt 23 = .ok (.iaload, 1) := by decide +kernel
theorem d_B_isBallAt_24 : decode b_B_isBallAt 24 = .ok (.istore_n 2, 1) := by decide +kernel
theorem d_B_isBallAt_25 : decode b_B_isBallAt 25 = .ok (.iload_n 2, 1) := by decide +kernel
theorem d_B_isBallAt_26 : decode b_B_isBallAt 26 = .ok (.iconst 2, 1) := by decide +kernel
theorem d_B_isBallAt_27 : decode b_B_isBallAt 27 = .ok (.iand, 1) := by decide +kernel
theorem d_B_isBallAt_28 : decode b_B_isBallAt 28 = .ok (.ifCond .eq 22, 3) := by decide +kernel
theorem d_B_isBallAt_31 : decode b_B_isBallAt 31 = .ok (.aload_n 0, 1) := by decide +kernel
theorem d_B_isBallAt_32 : decode b_B_isBallAt 32 = .ok (.iconst 4, 1) := by decide +kernel
theorem d_B_isBallAt_33 : decode b_B_isBallAt 33 = .ok (.iload_n 1, 1) := by decide +kernel
theorem d_B_isBallAt_34 : decode b_B_isBallAt 34 = .ok (.invokevirtual 162, 3) := by decide +kernel
theorem d_B_isBallAt_37 : decode b_B_isBallAt 37 = .ok (.aload_n 0, 1) := by decide +kernel
theorem d_B_isBallAt_38 : decode b_B_isBallAt 38 = .ok (.bipush 8, 2) := by decide +kernel
theorem d_B_isBallAt_40 : decode b_B_isBallAt 40 = .ok (.invokevirtual 168, 3) := by decide +kernel
theorem d_B_isBallAt_43 : decode b_B_isBallAt 43 = .ok (.if_icmp .ge 7, 3) := by decide +kernel
theorem d_B_isBallAt_46 : decode b_B_isBallAt 46 = .ok (.iconst 1, 1) := by decide +kernel
theorem d_B_isBallAt_47 : decode b_B_isBallAt 47 = .ok (.goto 4, 3) := by decide +kernel
theorem d_B_isBallAt_50 : decode b_B_isBallAt 50 = .ok (.iconst 0, 1) := by decide +kernel
theorem d_B_isBallAt_51 : decode b_B_isBallAt 51 = .ok (.ireturn, 1) := by decide +kernel
def y_B_isMissileAt : MethodName := ⟨R_B, "isMissileAt", "(II)Z"⟩
abbrev b_B_isMissileAt : ByteArray := prog_1_method_29_code
def w_B_isMissileAt : List Cond := .code y_B_isMissileAt b_B_isMissileAt 3 (some .boolean) :: TB
theorem d_B_isMissileAt_0 : decode b_B_isMissileAt 0 = .ok (.aload_n 0, 1) := by decide +kernel
theorem d_B_isMissileAt_1 : decode b_B_isMissileAt 1 = .ok (.bipush 19, 2) := by decide +kernel
theorem d_B_isMissileAt_3 : decode b_B_isMissileAt 3 = .ok (.iload_n 1, 1) := by decide +kernel
theorem d_B_isMissileAt_4 : decode b_B_isMissileAt 4 = .ok (.iadd, 1) := by decide +kernel
theorem d_B_isMissileAt_5 : decode b_B_isMissileAt 5 = .ok (.iconst 2, 1) := by decide +kernel
theorem d_B_isMissileAt_6 : decode b_B_isMissileAt 6 = .ok (.invokevirtual 90, 3) := by decide +kernel
theorem d_B_isMissileAt_9 : decode b_B_isMissileAt 9 = .ok (.ifCond .eq 15, 3) := by decide +kernel
theorem d_B_isMissileAt_12 : decode b_B_isMissileAt 12 = .ok (.aload_n 0, 1) := by decide +kernel
theorem d_B_isMissileAt_13 : decode b_B_isMissileAt 13 = .ok (.bipush 21, 2) := by decide +kernel
theorem d_B_isMissileAt_15 : decode b_B_isMissileAt 15 = .ok (.iload_n 1, 1) := by decide +kernel
theorem d_B_isMissileAt_16 : decode b_B_isMissileAt 16 = .ok (.iadd, 1) := by decide +kernel
theorem d_B_isMissileAt_17 : decode b_B_isMissileAt 17 = .ok (.iconst 2, 1) := by decide +kernel
theorem d_B_isMissileAt_18 : decode b_B_isMissileAt 18 = .ok (.invokevirtual 90, 3) := by decide +kernel
theorem d_B_isMissileAt_21 : decode b_B_isMissileAt 21 = .ok (.ifCond .eq 5, 3) := by decide +kernel
theorem d_B_isMissileAt_24 : decode b_B_isMissileAt 24 = .ok (.iconst 0, 1) := by decide +kernel
theorem d_B_isMissileAt_25 : decode b_B_isMissileAt 25 = .ok (.ireturn, 1) := by decide +kernel
theorem d_B_isMissileAt_26 : decode b_B_isMissileAt 26 = .ok (.aload_n 0, 1) := by decide +kernel
theorem d_B_isMissileAt_27 : decode b_B_isMissileAt 27 = .ok (.iload_n 1, 1) := by decide +kernel
theorem d_B_isMissileAt_28 : decode b_B_isMissileAt 28 = .ok (.invokevirtual 99, 3) := by decide +kernel
theorem d_B_isMissileAt_31 : decode b_B_isMissileAt 31 = .ok (.aload_n 0, 1) := by decide +kernel
theorem d_B_isMissileAt_32 : decode b_B_isMissileAt 32 = .ok (.iconst 2, 1) := by decide +kernel
theorem d_B_isMissileAt_33 : decode b_B_isMissileAt 33 = .ok (.iload_n 1, 1) := by decide +kernel
theorem d_B_isMissileAt_34 : decode b_B_isMissileAt 34 = .ok (.iadd, 1) := by decide +kernel
theorem d_B_isMissileAt_35 : decode b_B_isMissileAt 35 = .ok (.iload_n 2, 1) := by decide +kernel
theorem d_B_isMissileAt_36 : decode b_B_isMissileAt 36 = .ok (.invokevirtual 162, 3) := by decide +kernel
theorem d_B_isMissileAt_39 : decode b_B_isMissileAt 39 = .ok (.invokestatic 165, 3) := by decide +kernel
theorem d_B_isMissileAt_42 : decode b_B_isMissileAt 42 = .ok (.aload_n 0, 1) := by decide +kernel
theorem d_B_isMissileAt_43 : decode b_B_isMissileAt 43 = .ok (.bipush 17, 2) := by decide +kernel
theorem d_B_isMissileAt_45 : decode b_B_isMissileAt 45 = .ok (.iload_n 1, 1) := by decide +kernel
theorem d_B_isMissileAt_46 : decode b_B_isMissileAt 46 = .ok (.iadd, 1) := by decide +kernel
theorem d_B_isMissileAt_47 : decode b_B_isMissileAt 47 = .ok (.invokevirtual 168, 3) := by decide +kernel
theorem d_B_isMissileAt_50 : decode b_B_isMissileAt 50 = .ok (.if_icmp .ge 7, 3) := by decide +kernel
theorem d_B_isMissileAt_53 : decode b_B_isMissileAt 53 = .ok (.iconst 1, 1) := by decide +kernel
theorem d_B_isMissileAt_54 : decode b_B_isMissileAt 54 = .ok (.goto 4, 3) := by decide +kernel
theorem d_B_isMissileAt_57 : decode b_B_isMissileAt 57 = .ok (.iconst 0, 1) := by decide +kernel
theorem d_B_isMissileAt_58 : decode b_B_isMissileAt 58 = .ok (.ireturn, 1) := by decide +kernel
def y_B_isPlayerAt : MethodName := ⟨R_B, "isPlayerAt", "(II)Z"⟩
abbrev b_B_isPlayerAt : ByteArray := prog_1_method_28_code
def w_B_isPlayerAt : List Cond := .code y_B_isPlayerAt b_B_isPlayerAt 7 (some .boolean) :: TB
theorem d_B_isPlayerAt_0 : decode b_B_isPlayerAt 0 = .ok (.aload_n 0, 1) := by decide +kernel
theorem d_B_isPlayerAt_1 : decode b_B_isPlayerAt 1 = .ok (.bipush 11, 2) := by decide +kernel
theorem d_B_isPlayerAt_3 : decode b_B_isPlayerAt 3 = .ok (.iload_n 1, 1) := by decide +kernel
theorem d_B_isPlayerAt_4 : decode b_B_isPlayerAt 4 = .ok (.iadd, 1) := by decide +kernel
theorem d_B_isPlayerAt_5 : decode b_B_isPlayerAt 5 = .ok (.iconst 1, 1) := by decide +kernel
theorem d_B_isPlayerAt_6 : decode b_B_isPlayerAt 6 = .ok (.invokevirtual 90, 3) := by decide +kernel
theorem d_B_isPlayerAt_9 : decode b_B_isPlayerAt 9 = .ok (.ifCond .eq 12, 3) := by decide +kernel
theorem d_B_isPlayerAt_12 : decode b_B_isPlayerAt 12 = .ok (.aload_n 0, 1) := by decide +kernel
theorem d_B_isPlayerAt_13 : decode b_B_isPlayerAt 13 = .ok (.getfield 13, 3) := by decide +kernel
theorem d_B_isPlayerAt_16 : decode b_B_isPlayerAt 16 = .ok (.iload_n 1, 1) := by decide +kernel
theorem d_B_isPlayerAt_17 : decode b_B_isPlayerAt 17 = .ok (.iaload, 1) := by decide +kernel
theorem d_B_isPlayerAt_18 : decode b_B_isPlayerAt 18 = .ok (.goto 12, 3) := by decide +kernel
theorem d_B_isPlayerAt_21 : decode b_B_isPlayerAt 21 = .ok (.aload_n 0, 1) := by decide +kernel
theorem d_B_isPlayerAt_22 : decode b_B_isPlayerAt 22 = .ok (.getfield 9, 3) := by decide +kernel
theorem d_B_isPlayerAt_25 : decode b_B_isPlayerAt 25 = .ok (.bipush 9, 2) := by decide +kernel
theorem d_B_isPlayerAt_27 : decode b_B_isPlayerAt 27 = .ok (.iload_n 1, 1) := by decide +kernel
theorem d_B_isPlayerAt_28 : decode b_B_isPlayerAt 28 = .ok (.iadd, 1) := by decide +kernel
theorem d_B_isPlayerAt_29 : decode b_B_isPlayerAt 29 = .ok (.iaload, 1) := by decide +kernel
theorem d_B_isPlayerAt_30 : decode b_B_isPlayerAt 30 = .ok (.istore_n 3, 1) := by decide +kernel
theorem d_B_isPlayerAt_31 : decode b_B_isPlayerAt 31 = .ok (.aload_n 0, 1) := by decide +kernel
theorem d_B_isPlayerAt_32 : decode b_B_isPlayerAt 32 = .ok (.iload_n 1, 1) := by decide +kernel
theorem d_B_isPlayerAt_33 : decode b_B_isPlayerAt 33 = .ok (.invokevirtual 99, 3) := by decide +kernel
theorem d_B_isPlayerAt_36 : decode b_B_isPlayerAt 36 = .ok (.istore 4, 2) := by decide +kernel
theorem d_B_isPlayerAt_38 : decode b_B_isPlayerAt 38 = .ok (.iload 4, 2) := by decide +kernel
theorem d_B_isPlayerAt_40 : decode b_B_isPlayerAt 40 = .ok (.aload_n 0, 1) := by decide +kernel
theorem d_B_isPlayerAt_41 : decode b_B_isPlayerAt 41 = .ok (.iload_n 1, 1) := by decide +kernel
theorem d_B_isPlayerAt_42 : decode b_B_isPlayerAt 42 = .ok (.iload_n 2, 1) := by decide +kernel
theorem d_B_isPlayerAt_43 : decode b_B_isPlayerAt 43 = .ok (.invokevirtual 162, 3) := by decide +kernel
theorem d_B_isPlayerAt_46 : decode b_B_isPlayerAt 46 = .ok (.invokestatic 165, 3) := by decide +kernel
theorem d_B_isPlayerAt_49 : decode b_B_isPlayerAt 49 = .ok (.getstatic 96, 3) := by decide +kernel
theorem d_B_isPlayerAt_52 : decode b_B_isPlayerAt 52 = .ok (.iload 4, 2) := by decide +kernel
theorem d_B_isPlayerAt_54 : decode b_B_isPlayerAt 54 = .ok (.iaload, 1) := by decide +kernel
theorem d_B_isPlayerAt_55 : decode b_B_isPlayerAt 55 = .ok (.ishr, 1) := by decide +kernel
theorem d_B_isPlayerAt_56 : decode b_B_isPlayerAt 56 = .ok (.istore 5, 2) := by decide +kernel
theorem d_B_isPlayerAt_58 : decode b_B_isPlayerAt 58 = .ok (.iload 5, 2) := by decide +kernel
theorem d_B_isPlayerAt_60 : decode b_B_isPlayerAt 60 = .ok (.bipush 7, 2) := by decide +kernel
theorem d_B_isPlayerAt_62 : decode b_B_isPlayerAt 62 = .ok (.if_icmp .le 5, 3) := by decide +kernel
theorem d_B_isPlayerAt_65 : decode b_B_isPlayerAt 65 = .ok (.iconst 0, 1) := by decide +kernel
theorem d_B_isPlayerAt_66 : decode b_B_isPlayerAt 66 = .ok (.ireturn, 1) := by decide +kernel
theorem d_B_isPlayerAt_67 : decode b_B_isPlayerAt 67 = .ok (.aload_n 0, 1) := by decide +kernel
theorem d_B_isPlayerAt_68 : decode b_B_isPlayerAt 68 = .ok (.bipush 15, 2) := by decide +kernel
theorem d_B_isPlayerAt_70 : decode b_B_isPlayerAt 70 = .ok (.iload_n 1, 1) := by decide +kernel
theorem d_B_isPlayerAt_71 : decode b_B_isPlayerAt 71 = .ok (.iadd, 1) := by decide +kernel
theorem d_B_isPlayerAt_72 : decode b_B_isPlayerAt 72 = .ok (.bipush 8, 2) := by decide +kernel
theorem d_B_isPlayerAt_74 : decode b_B_isPlayerAt 74 = .ok (.invokevirtual 90, 3) := by decide +kernel
theorem d_B_isPlayerAt_77 : decode b_B_isPlayerAt 77 = .ok (.ifCond .eq 8, 3) := by decide +kernel
theorem d_B_isPlayerAt_80 : decode b_B_isPlayerAt 80 = .ok (.iload 5, 2) := by decide +kernel
theorem d_B_isPlayerAt_82 : decode b_B_isPlayerAt 82 = .ok (.goto 8, 3) := by decide +kernel
theorem d_B_isPlayerAt_85 : decode b_B_isPlayerAt 85 = .ok (.bipush 7, 2) := by decide +kernel
theorem d_B_isPlayerAt_87 : decode b_B_isPlayerAt 87 = .ok (.iload 5, 2) := by decide +kernel
theorem d_B_isPlayerAt_89 : decode b_B_isPlayerAt 89 = .ok (.isub, 1) := by decide +kernel
theorem d_B_isPlayerAt_90 : decode b_B_isPlayerAt 90 = .ok (.istore 6, 2) := by decide +kernel
theorem d_B_isPlayerAt_92 : decode b_B_isPlayerAt 92 = .ok (.iload_n 3, 1) := by decide +kernel
theorem d_B_isPlayerAt_93 : decode b_B_isPlayerAt 93 = .ok (.iload 6, 2) := by decide +kernel
theorem d_B_isPlayerAt_95 : decode b_B_isPlayerAt 95 = .ok (.ishr, 1) := by decide +kernel
theorem d_B_isPlayerAt_96 : decode b_B_isPlayerAt 96 = .ok (.iconst 1, 1) := by decide +kernel
theorem d_B_isPlayerAt_97 : decode b_B_isPlayerAt 97 = .ok (.iand, 1) := by decide +kernel
theorem d_B_isPlayerAt_98 : decode b_B_isPlayerAt 98 = .ok (.ifCond .eq 7, 3) := by decide +kernel
theorem d_B_isPlayerAt_101 : decode b_B_isPlayerAt 101 = .ok (.iconst 1, 1) := by decide +kernel
theorem d_B_isPlayerAt_102 : decode b_B_isPlayerAt 102 = .ok (.goto 4, 3) := by decide +kernel
theorem d_B_isPlayerAt_105 : decode b_B_isPlayerAt 105 = .ok (.iconst 0, 1) := by decide +kernel
theorem d_B_isPlayerAt_106 : decode b_B_isPlayerAt 106 = .ok (.ireturn, 1) := by decide +kernel
def y_B_isAt : MethodName := ⟨R_B, "isAt", "(II)Z"⟩
abbrev b_B_isAt : ByteArray := prog_1_method_27_code
def w_B_isAt : List Cond := .code y_B_isAt b_B_isAt 3 (some .boolean) :: TB
theorem d_B_isAt_0 : decode b_B_isAt 0 = .ok (.iload_n 1, 1) := by decide +kernel
theorem d_B_isAt_1 : decode b_B_isAt 1 = .ok (.iconst 2, 1) := by decide +kernel
theorem d_B_isAt_2 : decode b_B_isAt 2 = .ok (.if_icmp .ge 10, 3) := by decide +kernel
theorem d_B_isAt_5 : decode b_B_isAt 5 = .ok (.aload_n 0, 1) := by decide +kernel
theorem d_B_isAt_6 : decode b_B_isAt 6 = .ok (.iload_n 1, 1) := by decide +kernel
theorem d_B_isAt_7 : decode b_B_isAt 7 = .ok (.iload_n 2, 1) := by decide +kernel
theorem d_B_isAt_8 : decode b_B_isAt 8 = .ok (.invokevirtual 150, 3) := by decide +kernel
theorem d_B_isAt_11 : decode b_B_isAt 11 = .ok (.ireturn, 1) := by decide +kernel
theorem d_B_isAt_12 : decode b_B_isAt 12 = .ok (.iload_n 1, 1) := by decide +kernel
theorem d_B_isAt_13 : decode b_B_isAt 13 = .ok (.iconst 4, 1) := by decide +kernel
theorem d_B_isAt_14 : decode b_B_isAt 14 = .ok (.if_icmp .ge 12, 3) := by decide +kernel
theorem d_B_isAt_17 : decode b_B_isAt 17 = .ok (.aload_n 0, 1) := by decide +kernel
theorem d_B_isAt_18 : decode b_B_isAt 18 = .ok (.iload_n 1, 1) := by decide +kernel
theorem d_B_isAt_19 : decode b_B_isAt 19 = .ok (.iconst 2, 1) := by decide +kernel
theorem d_B_isAt_20 : decode b_B_isAt 20 = .ok (.isub, 1) := by decide +kernel
theorem d_B_isAt_21 : decode b_B_isAt 21 = .ok (.iload_n 2, 1) := by decide +kernel
theorem d_B_isAt_22 : decode b_B_isAt 22 = .ok (.invokevirtual 153, 3) := by decide +kernel
theorem d_B_isAt_25 : decode b_B_isAt 25 = .ok (.ireturn, 1) := by decide +kernel
theorem d_B_isAt_26 : decode b_B_isAt 26 = .ok (.iload_n 1, 1) := by decide +kernel
theorem d_B_isAt_27 : decode b_B_isAt 27 = .ok (.iconst 5, 1) := by decide +kernel
theorem d_B_isAt_28 : decode b_B_isAt 28 = .ok (.if_icmp .ge 11, 3) := by decide +kernel
theorem d_B_isAt_31 : decode b_B_isAt 31 = .ok (.aload_n 0, 1) := by decide +kernel
theorem d_B_isAt_32 : decode b_B_isAt 32 = .ok (.iload_n 2, 1) := by decide +kernel
theorem d_B_isAt_33 : decode b_B_isAt 33 = .ok (.invokevirtual 156, 3) := by decide +kernel
theorem d_B_isAt_36 : decode b_B_isAt 36 = .ok (.goto 8, 3) := by decide +kernel
theorem d_B_isAt_39 : decode b_B_isAt 39 = .ok (.aload_n 0, 1) := by decide +kernel
theorem d_B_isAt_40 : decode b_B_isAt 40 = .ok (.iload_n 2, 1) := by decide +kernel
theorem d_B_isAt_41 : decode b_B_isAt 41 = .ok (.invokevirtual 159, 3) := by decide +kernel
theorem d_B_isAt_44 : decode b_B_isAt 44 = .ok (.ireturn, 1) := by decide +kernel
def y_B_fieldColour : MethodName := ⟨R_B, "fieldColour", "(II)I"⟩
abbrev b_B_fieldColour : ByteArray := prog_1_method_24_code
def w_B_fieldColour : List Cond := .code y_B_fieldColour b_B_fieldColour 3 (some .int) :: TB
theorem d_B_fieldColour_0 : decode b_B_fieldColour 0 = .ok (.iload_n 2, 1) := by decide +kernel
theorem d_B_fieldColour_1 : decode b_B_fieldColour 1 = .ok (.bipush 32, 2) := by decide +kernel
theorem d_B_fieldColour_3 : decode b_B_fieldColour 3 = .ok (.iand, 1) := by decide +kernel
theorem d_B_fieldColour_4 : decode b_B_fieldColour 4 = .ok (.ifCond .eq 13, 3) := by decide +kernel
theorem d_B_fieldColour_7 : decode b_B_fieldColour 7 = .ok (.aload_n 0, 1) := by decide +kernel
theorem d_B_fieldColour_8 : decode b_B_fieldColour 8 = .ok (.bipush 8, 2) := by decide +kernel
theorem d_B_fieldColour_10 : decode b_B_fieldColour 10 = .ok (.iconst 2, 1) := by decide +kernel
theorem d_B_fieldColour_11 : decode b_B_fieldColour 11 = .ok (.invokevirtual 90, 3) := by decide +kernel
theorem d_B_fieldColour_14 : decode b_B_fieldColour 14 = .ok (.ifCond .ne 10, 3) := by decide +kernel
theorem d_B_fieldColour_17 : decode b_B_fieldColour 17 = .ok (.aload_n 0, 1) := by decide +kernel
theorem d_B_fieldColour_18 : decode b_B_fieldColour 18 = .ok (.getfield 9, 3) := by decide +kernel
theorem d_B_fieldColour_21 : decode b_B_fieldColour 21 = .ok (.iconst 1, 1) := by decide +kernel
theorem d_B_fieldColour_22 : decode b_B_fieldColour 22 = .ok (.iaload, 1) := by decide +kernel
theorem d_B_fieldColour_23 : decode b_B_fieldColour 23 = .ok (.ireturn, 1) := by decide +kernel
theorem d_B_fieldColour_24 : decode b_B_fieldColour 24 = .ok (.aload_n 0, 1) := by decide +kernel
theorem d_B_fieldColour_25 : decode b_B_fieldColour 25 = .ok (.getfield 9, 3) := by decide +kernel
theorem d_B_fieldColour_28 : decode b_B_fieldColour 28 = .ok (.iload_n 1, 1) := by decide +kernel
theorem d_B_fieldColour_29 : decode b_B_fieldColour 29 = .ok (.bipush 80, 2) := by decide +kernel
theorem d_B_fieldColour_31 : decode b_B_fieldColour 31 = .ok (.if_icmp .ge 7, 3) := by decide +kernel
theorem d_B_fieldColour_34 : decode b_B_fieldColour 34 = .ok (.iconst 2, 1) := by decide +kernel
theorem d_B_fieldColour_35 : decode b_B_fieldColour 35 = .ok (.goto 4, 3) := by decide +kernel
theorem d_B_fieldColour_38 : decode b_B_fieldColour 38 = .ok (.iconst 3, 1) := by decide +kernel
theorem d_B_fieldColour_39 : decode b_B_fieldColour 39 = .ok (.iaload, 1) := by decide +kernel
theorem d_B_fieldColour_40 : decode b_B_fieldColour 40 = .ok (.ireturn, 1) := by decide +kernel
def y_B_colourAt : MethodName := ⟨R_B, "colourAt", "(II)I"⟩
abbrev b_B_colourAt : ByteArray := prog_1_method_23_code
def w_B_colourAt : List Cond := .code y_B_colourAt b_B_colourAt 4 (some .int) :: TB
theorem d_B_colourAt_0 : decode b_B_colourAt 0 = .ok (.aload_n 0, 1) := by decide +kernel
theorem d_B_colourAt_1 : decode b_B_colourAt 1 = .ok (.iconst 4, 1) := by decide +kernel
theorem d_B_colourAt_2 : decode b_B_colourAt 2 = .ok (.iconst 1, 1) := by decide +kernel
theorem d_B_colourAt_3 : decode b_B_colourAt 3 = .ok (.invokevirtual 90, 3) := by decide +kernel
theorem d_B_colourAt_6 : decode b_B_colourAt 6 = .ok (.ifCond .eq 5, 3) := by decide +kernel
theorem d_B_colourAt_9 : decode b_B_colourAt 9 = .ok (.iconst 0, 1) := by decide +kernel
theorem d_B_colourAt_10 : decode b_B_colourAt 10 = .ok (.ireturn, 1) := by decide +kernel
theorem d_B_colourAt_11 : decode b_B_colourAt 11 = .ok (.iload_n 2, 1) := by decide +kernel
theorem d_B_colourAt_12 : decode b_B_colourAt 12 = .ok (.bipush 48, 2) := by decide +kernel
theorem d_B_colourAt_14 : decode b_B_colourAt 14 = .ok (.iand, 1) := by decide +kernel
theorem d_B_colourAt_15 : decode b_B_colourAt 15 = .ok (.ifCond .eq 7, 3) := by decide +kernel
theorem d_B_colourAt_18 : decode b_B_colourAt 18 = .ok (.iconst 1, 1) := by decide +kernel
theorem d_B_colourAt_19 : decode b_B_colourAt 19 = .ok (.goto 4, 3) := by decide +kernel
theorem d_B_colourAt_22 : decode b_B_colourAt 22 = .ok (.iconst 0, 1) := by decide +kernel
theorem d_B_colourAt_23 : decode b_B_colourAt 23 = .ok (.istore_n 3, 1) := by decide +kernel
theorem d_B_colourAt_24 : decode b_B_colourAt 24 = .ok (.iload_n 3, 1) := by decide +kernel
theorem d_B_colourAt_25 : decode b_B_colourAt 25 = .ok (.ifCond .eq 20, 3) := by decide +kernel
theorem d_B_colourAt_28 : decode b_B_colourAt 28 = .ok (.aload_n 0, 1) := by decide +kernel
theorem d_B_colourAt_29 : decode b_B_colourAt 29 = .ok (.bipush 8, 2) := by decide +kernel
theorem d_B_colourAt_31 : decode b_B_colourAt 31 = .ok (.iconst 4, 1) := by decide +kernel
theorem d_B_colourAt_32 : decode b_B_colourAt 32 = .ok (.invokevirtual 90, 3) := by decide +kernel
theorem d_B_colourAt_35 : decode b_B_colourAt 35 = .ok (.ifCond .eq 10, 3) := by decide +kernel
theorem d_B_colourAt_38 : decode b_B_colourAt 38 = .ok (.aload_n 0, 1) := by decide +kernel
theorem d_B_colourAt_39 : decode b_B_colourAt 39 = .ok (.iload_n 1, 1) := by decide +kernel
theorem d_B_colourAt_40 : decode b_B_colourAt 40 = .ok (.iload_n 2, 1) := by decide +kernel
theorem d_B_colourAt_41 : decode b_B_colourAt 41 = .ok (.invokevirtual 142, 3) := by decide +kernel
theorem d_B_colourAt_44 : decode b_B_colourAt 44 = .ok (.ireturn, 1) := by decide +kernel
theorem d_B_colourAt_45 : decode b_B_colourAt 45 = .ok (.iload_n 2, 1) := by decide +kernel
theorem d_B_colourAt_46 : decode b_B_colourAt 46 = .ok (.iconst 5, 1) := by decide +kernel
theorem d_B_colourAt_47 : decode b_B_colourAt 47 = .ok (.iand, 1) := by decide +kernel
theorem d_B_colourAt_48 : decode b_B_colourAt 48 = .ok (.ifCond .eq 10, 3) := by decide +kernel
theorem d_B_colourAt_51 : decode b_B_colourAt 51 = .ok (.aload_n 0, 1) := by decide +kernel
theorem d_B_colourAt_52 : decode b_B_colourAt 52 = .ok (.getfield 9, 3) := by decide +kernel
theorem d_B_colourAt_55 : decode b_B_colourAt 55 = .ok (.iconst 2, 1) := by decide +kernel
theorem d_B_colourAt_56 : decode b_B_colourAt 56 = .ok (.iaload, 1) := by decide +kernel
theorem d_B_colourAt_57 : decode b_B_colourAt 57 = .ok (.ireturn, 1) := by decide +kernel
theorem d_B_colourAt_58 : decode b_B_colourAt 58 = .ok (.iload_n 2, 1) := by decide +kernel
theorem d_B_colourAt_59 : decode b_B_colourAt 59 = .ok (.bipush 10, 2) := by decide +kernel
theorem d_B_colourAt_61 : decode b_B_colourAt 61 = .ok (.iand, 1) := by decide +kernel
theorem d_B_colourAt_62 : decode b_B_colourAt 62 = .ok (.ifCond .eq 10, 3) := by decide +kernel
theorem d_B_colourAt_65 : decode b_B_colourAt 65 = .ok (.aload_n 0, 1) := by decide +kernel
theorem d_B_colourAt_66 : decode b_B_colourAt 66 = .ok (.getfield 9, 3) := by decide +kernel
theorem d_B_colourAt_69 : decode b_B_colourAt 69 = .ok (.iconst 3, 1) := by decide +kernel
theorem d_B_colourAt_70 : decode b_B_colourAt 70 = .ok (.iaload, 1) := by decide +kernel
theorem d_B_colourAt_71 : decode b_B_colourAt 71 = .ok (.ireturn, 1) := by decide +kernel
theorem d_B_colourAt_72 : decode b_B_colourAt 72 = .ok (.iload_n 3, 1) := by decide +kernel
theorem d_B_colourAt_73 : decode b_B_colourAt 73 = .ok (.ifCond .eq 12, 3) := by decide +kernel
theorem d_B_colourAt_76 : decode b_B_colourAt 76 = .ok (.aload_n 0, 1) := by decide +kernel
theorem d_B_colourAt_77 : decode b_B_colourAt 77 = .ok (.iload_n 1, 1) := by decide +kernel
theorem d_B_colourAt_78 : decode b_B_colourAt 78 = .ok (.iload_n 2, 1) := by decide +kernel
theorem d_B_colourAt_79 : decode b_B_colourAt 79 = .ok (.invokevirtual 142, 3) := by decide +kernel
theorem d_B_colourAt_82 : decode b_B_colourAt 82 = .ok (.goto 9, 3) := by decide +kernel
theorem d_B_colourAt_85 : decode b_B_colourAt 85 = .ok (.aload_n 0, 1) := by decide +kernel
theorem d_B_colourAt_86 : decode b_B_colourAt 86 = .ok (.getfield 9, 3) := by decide +kernel
theorem d_B_colourAt_89 : decode b_B_colourAt 89 = .ok (.iconst 0, 1) := by decide +kernel
theorem d_B_colourAt_90 : decode b_B_colourAt 90 = .ok (.iaload, 1) := by decide +kernel
theorem d_B_colourAt_91 : decode b_B_colourAt 91 = .ok (.ireturn, 1) := by decide +kernel
def y_B_countMeetings : MethodName := ⟨R_B, "countMeetings", "()I"⟩
abbrev b_B_countMeetings : ByteArray := prog_1_method_26_code
def w_B_countMeetings : List Cond := .code y_B_countMeetings b_B_countMeetings 6 (some .int) :: TB
theorem d_B_countMeetings_0 : decode b_B_countMeetings 0 = .ok (.iconst 0, 1) := by decide +kernel
theorem d_B_countMeetings_1 : decode b_B_countMeetings 1 = .ok (.istore_n 1, 1) := by decide +kernel
theorem d_B_countMeetings_2 : decode b_B_countMeetings 2 = .ok (.aload_n 0, 1) := by decide +kernel
theorem d_B_countMeetings_3 : decode b_B_countMeetings 3 = .ok (.getfield 22, 3) := by decide +kernel
theorem d_B_countMeetings_6 : decode b_B_countMeetings 6 = .ok (.astore_n 2, 1) := by decide +kernel
theorem d_B_countMeetings_7 : decode b_B_countMeetings 7 = .ok (.aload_n 2, 1) := by decide +kernel
theorem d_B_countMeetings_8 : decode b_B_countMeetings 8 = .ok (.arraylength, 1) := by decide +kernel
theorem d_B_countMeetings_9 : decode b_B_countMeetings 9 = .ok (.istore_n 3, 1) := by decide +kernel
theorem d_B_countMeetings_10 : decode b_B_countMeetings 10 = .ok (.iconst 0, 1) := by decide +kernel
theorem d_B_countMeetings_11 : decode b_B_countMeetings 11 = .ok (.istore 4, 2) := by decide +kernel
theorem d_B_countMeetings_13 : decode b_B_countMeetings 13 = .ok (.iload 4, 2) := by decide +kernel
theorem d_B_countMeetings_15 : decode b_B_countMeetings 15 = .ok (.iload_n 3, 1) := by decide +kernel
theorem d_B_countMeetings_16 : decode b_B_countMeetings 16 = .ok (.if_icmp .ge 23, 3) := by decide +kernel
theorem d_B_countMeetings_19 : decode b_B_countMeetings 19 = .ok (.aload_n 2, 1) := by decide +kernel
theorem d_B_countMeetings_20 : decode b_B_countMeetings 20 = .ok (.iload 4, 2) := by decide +kernel
theorem d_B_countMeetings_22 : decode b_B_countMeetings 22 = .ok (.iaload, 1) := by decide +kernel
theorem d_B_countMeetings_23 : decode b_B_countMeetings 23 = .ok (.istore 5, 2) := by decide +kernel
theorem d_B_countMeetings_25 : decode b_B_countMeetings 25 = .ok (.iload_n 1, 1) := by decide +kernel
theorem d_B_countMeetings_26 : decode b_B_countMeetings 26 = .ok (.iload 5, 2) := by decide +kernel
theorem d_B_countMeetings_28 : decode b_B_countMeetings 28 = .ok (.invokestatic 145, 3) := by decide +kernel
theorem d_B_countMeetings_31 : decode b_B_countMeetings 31 = .ok (.iadd, 1) := by decide +kernel
theorem d_B_countMeetings_32 : decode b_B_countMeetings 32 = .ok (.istore_n 1, 1) := by decide +kernel
theorem d_B_countMeetings_33 : decode b_B_countMeetings 33 = .ok (.iinc 4 1, 3) := by decide +kernel
theorem d_B_countMeetings_36 : decode b_B_countMeetings 36 = .ok (.goto (-23), 3) := by decide +kernel
theorem d_B_countMeetings_39 : decode b_B_countMeetings 39 = .ok (.iload_n 1, 1) := by decide +kernel
theorem d_B_countMeetings_40 : decode b_B_countMeetings 40 = .ok (.iconst 2, 1) := by decide +kernel
theorem d_B_countMeetings_41 : decode b_B_countMeetings 41 = .ok (.idiv, 1) := by decide +kernel
theorem d_B_countMeetings_42 : decode b_B_countMeetings 42 = .ok (.ireturn, 1) := by decide +kernel
def y_JA_rangeCheck : MethodName := ⟨R_JA, "rangeCheck", "(III)V"⟩
abbrev b_JA_rangeCheck : ByteArray := prog_11_method_30_code
def w_JA_rangeCheck : List Cond := .code y_JA_rangeCheck b_JA_rangeCheck 3 none :: TB
theorem d_JA_rangeCheck_0 : decode b_JA_rangeCheck 0 = .ok (.iload_n 1, 1) := by decide +kernel
theorem d_JA_rangeCheck_1 : decode b_JA_rangeCheck 1 = .ok (.iload_n 2, 1) := by decide +kernel
theorem d_JA_rangeCheck_2 : decode b_JA_rangeCheck 2 = .ok (.if_icmp .le 44, 3) := by decide +kernel
theorem d_JA_rangeCheck_5 : decode b_JA_rangeCheck 5 = .ok (.new 43, 3) := by decide +kernel
theorem d_JA_rangeCheck_8 : decode b_JA_rangeCheck 8 = .ok (.dup, 1) := by decide +kernel
theorem d_JA_rangeCheck_9 : decode b_JA_rangeCheck 9 = .ok (.new 45, 3) := by decide +kernel
theorem d_JA_rangeCheck_12 : decode b_JA_rangeCheck 12 = .ok (.dup, 1) := by decide +kernel
theorem d_JA_rangeCheck_13 : decode b_JA_rangeCheck 13 = .ok (.invokespecial 47, 3) := by decide +kernel
theorem d_JA_rangeCheck_16 : decode b_JA_rangeCheck 16 = .ok (.ldc 48, 2) := by decide +kernel
theorem d_JA_rangeCheck_18 : decode b_JA_rangeCheck 18 = .ok (.invokevirtual 50, 3) := by decide +kernel
theorem d_JA_rangeCheck_21 : decode b_JA_rangeCheck 21 = .ok (.iload_n 1, 1) := by decide +kernel
theorem d_JA_rangeCheck_22 : decode b_JA_rangeCheck 22 = .ok (.invokevirtual 54, 3) := by decide +kernel
theorem d_JA_rangeCheck_25 : decode b_JA_rangeCheck 25 = .ok (.ldc 57, 2) := by decide +kernel
theorem d_JA_rangeCheck_27 : decode b_JA_rangeCheck 27 = .ok (.invokevirtual 50, 3) := by decide +kernel
theorem d_JA_rangeCheck_30 : decode b_JA_rangeCheck 30 = .ok (.iload_n 2, 1) := by decide +kernel
theorem d_JA_rangeCheck_31 : decode b_JA_rangeCheck 31 = .ok (.invokevirtual 54, 3) := by decide +kernel
theorem d_JA_rangeCheck_34 : decode b_JA_rangeCheck 34 = .ok (.ldc 59, 2) := by decide +kernel
theorem d_JA_rangeCheck_36 : decode b_JA_rangeCheck 36 = .ok (.invokevirtual 50, 3) := by decide +kernel
theorem d_JA_rangeCheck_39 : decode b_JA_rangeCheck 39 = .ok (.invokevirtual 61, 3) := by decide +kernel
theorem d_JA_rangeCheck_42 : decode b_JA_rangeCheck 42 = .ok (.invokespecial 65, 3) := by decide +kernel
theorem d_JA_rangeCheck_45 : decode b_JA_rangeCheck 45 = .ok (.athrow, 1) := by decide +kernel
theorem d_JA_rangeCheck_46 : decode b_JA_rangeCheck 46 = .ok (.iload_n 1, 1) := by decide +kernel
theorem d_JA_rangeCheck_47 : decode b_JA_rangeCheck 47 = .ok (.ifCond .ge 12, 3) := by decide +kernel
theorem d_JA_rangeCheck_50 : decode b_JA_rangeCheck 50 = .ok (.new 68, 3) := by decide +kernel
theorem d_JA_rangeCheck_53 : decode b_JA_rangeCheck 53 = .ok (.dup, 1) := by decide +kernel
theorem d_JA_rangeCheck_54 : decode b_JA_rangeCheck 54 = .ok (.iload_n 1, 1) := by decide +kernel
theorem d_JA_rangeCheck_55 : decode b_JA_rangeCheck 55 = .ok (.invokespecial 70, 3) := by decide +kernel
theorem d_JA_rangeCheck_58 : decode b_JA_rangeCheck 58 = .ok (.athrow, 1) := by decide +kernel
theorem d_JA_rangeCheck_59 : decode b_JA_rangeCheck 59 = .ok (.iload_n 2, 1) := by decide +kernel
theorem d_JA_rangeCheck_60 : decode b_JA_rangeCheck 60 = .ok (.iload_n 0, 1) := by decide +kernel
theorem d_JA_rangeCheck_61 : decode b_JA_rangeCheck 61 = .ok (.if_icmp .le 12, 3) := by decide +kernel
theorem d_JA_rangeCheck_64 : decode b_JA_rangeCheck 64 = .ok (.new 68, 3) := by decide +kernel
theorem d_JA_rangeCheck_67 : decode b_JA_rangeCheck 67 = .ok (.dup, 1) := by decide +kernel
theorem d_JA_rangeCheck_68 : decode b_JA_rangeCheck 68 = .ok (.iload_n 2, 1) := by decide +kernel
theorem d_JA_rangeCheck_69 : decode b_JA_rangeCheck 69 = .ok (.invokespecial 70, 3) := by decide +kernel
theorem d_JA_rangeCheck_72 : decode b_JA_rangeCheck 72 = .ok (.athrow, 1) := by decide +kernel
theorem d_JA_rangeCheck_73 : decode b_JA_rangeCheck 73 = .ok (.return_, 1) := by decide +kernel
def y_JA_fill4 : MethodName := ⟨R_JA, "fill", "([IIII)V"⟩
abbrev b_JA_fill4 : ByteArray := prog_11_method_104_code
def w_JA_fill4 : List Cond := .code y_JA_fill4 b_JA_fill4 5 none :: TB
theorem d_JA_fill4_0 : decode b_JA_fill4 0 = .ok (.aload_n 0, 1) := by decide +kernel
theorem d_JA_fill4_1 : decode b_JA_fill4 1 = .ok (.arraylength, 1) := by decide +kernel
theorem d_JA_fill4_2 : decode b_JA_fill4 2 = .ok (.iload_n 1, 1) := by decide +kernel
theorem d_JA_fill4_3 : decode b_JA_fill4 3 = .ok (.iload_n 2, 1) := by decide +kernel
theorem d_JA_fill4_4 : decode b_JA_fill4 4 = .ok (.invokestatic 13, 3) := by decide +kernel
theorem d_JA_fill4_7 : decode b_JA_fill4 7 = .ok (.iload_n 1, 1) := by decide +kernel
theorem d_JA_fill4_8 : decode b_JA_fill4 8 = .ok (.istore 4, 2) := by decide +kernel
theorem d_JA_fill4_10 : decode b_JA_fill4 10 = .ok (.iload 4, 2) := by decide +kernel
theorem d_JA_fill4_12 : decode b_JA_fill4 12 = .ok (.iload_n 2, 1) := by decide +kernel
theorem d_JA_fill4_13 : decode b_JA_fill4 13 = .ok (.if_icmp .ge 14, 3) := by decide +kernel
theorem d_JA_fill4_16 : decode b_JA_fill4 16 = .ok (.aload_n 0, 1) := by decide +kernel
theorem d_JA_fill4_17 : decode b_JA_fill4 17 = .ok (.iload 4, 2) := by decide +kernel
theorem d_JA_fill4_19 : decode b_JA_fill4 19 = .ok (.iload_n 3, 1) := by decide +kernel
theorem d_JA_fill4_20 : decode b_JA_fill4 20 = .ok (.iastore, 1) := by decide +kernel
theorem d_JA_fill4_21 : decode b_JA_fill4 21 = .ok (.iinc 4 1, 3) := by decide +kernel
theorem d_JA_fill4_24 : decode b_JA_fill4 24 = .ok (.goto (-14), 3) := by decide +kernel
theorem d_JA_fill4_27 : decode b_JA_fill4 27 = .ok (.return_, 1) := by decide +kernel
def y_JA_fill2 : MethodName := ⟨R_JA, "fill", "([II)V"⟩
abbrev b_JA_fill2 : ByteArray := prog_11_method_103_code
def w_JA_fill2 : List Cond := .code y_JA_fill2 b_JA_fill2 4 none :: TB
theorem d_JA_fill2_0 : decode b_JA_fill2 0 = .ok (.iconst 0, 1) := by decide +kernel
theorem d_JA_fill2_1 : decode b_JA_fill2 1 = .ok (.istore_n 2, 1) := by decide +kernel
theorem d_JA_fill2_2 : decode b_JA_fill2 2 = .ok (.aload_n 0, 1) := by decide +kernel
theorem d_JA_fill2_3 : decode b_JA_fill2 3 = .ok (.arraylength, 1) := by decide +kernel
theorem d_JA_fill2_4 : decode b_JA_fill2 4 = .ok (.istore_n 3, 1) := by decide +kernel
theorem d_JA_fill2_5 : decode b_JA_fill2 5 = .ok (.iload_n 2, 1) := by decide +kernel
theorem d_JA_fill2_6 : decode b_JA_fill2 6 = .ok (.iload_n 3, 1) := by decide +kernel
theorem d_JA_fill2_7 : decode b_JA_fill2 7 = .ok (.if_icmp .ge 13, 3) := by decide +kernel
theorem d_JA_fill2_10 : decode b_JA_fill2 10 = .ok (.aload_n 0, 1) := by decide +kernel
theorem d_JA_fill2_11 : decode b_JA_fill2 11 = .ok (.iload_n 2, 1) := by decide +kernel
theorem d_JA_fill2_12 : decode b_JA_fill2 12 = .ok (.iload_n 1, 1) := by decide +kernel
theorem d_JA_fill2_13 : decode b_JA_fill2 13 = .ok (.iastore, 1) := by decide +kernel
theorem d_JA_fill2_14 : decode b_JA_fill2 14 = .ok (.iinc 2 1, 3) := by decide +kernel
theorem d_JA_fill2_17 : decode b_JA_fill2 17 = .ok (.goto (-12), 3) := by decide +kernel
theorem d_JA_fill2_20 : decode b_JA_fill2 20 = .ok (.return_, 1) := by decide +kernel
def y_T_start : MethodName := ⟨R_T, "start", "(II)V"⟩
abbrev b_T_start : ByteArray := prog_2_method_2_code
def w_T_start : List Cond := .code y_T_start b_T_start 3 none :: TB
theorem d_T_start_0 : decode b_T_start 0 = .ok (.aload_n 0, 1) := by decide +kernel
theorem d_T_start_1 : decode b_T_start 1 = .ok (.iload_n 2, 1) := by decide +kernel
theorem d_T_start_2 : decode b_T_start 2 = .ok (.putfield 18, 3) := by decide +kernel
theorem d_T_start_5 : decode b_T_start 5 = .ok (.aload_n 0, 1) := by decide +kernel
theorem d_T_start_6 : decode b_T_start 6 = .ok (.iconst 0, 1) := by decide +kernel
theorem d_T_start_7 : decode b_T_start 7 = .ok (.putfield 21, 3) := by decide +kernel
theorem d_T_start_10 : decode b_T_start 10 = .ok (.aload_n 0, 1) := by decide +kernel
theorem d_T_start_11 : decode b_T_start 11 = .ok (.iload_n 1, 1) := by decide +kernel
theorem d_T_start_12 : decode b_T_start 12 = .ok (.putfield 9, 3) := by decide +kernel
theorem d_T_start_15 : decode b_T_start 15 = .ok (.aload_n 0, 1) := by decide +kernel
theorem d_T_start_16 : decode b_T_start 16 = .ok (.iload_n 1, 1) := by decide +kernel
theorem d_T_start_17 : decode b_T_start 17 = .ok (.iconst 3, 1) := by decide +kernel
theorem d_T_start_18 : decode b_T_start 18 = .ok (.imul, 1) := by decide +kernel
theorem d_T_start_19 : decode b_T_start 19 = .ok (.putfield 15, 3) := by decide +kernel
theorem d_T_start_22 : decode b_T_start 22 = .ok (.return_, 1) := by decide +kernel
def y_T_tick : MethodName := ⟨R_T, "tick", "()V"⟩
abbrev b_T_tick : ByteArray := prog_2_method_3_code
def w_T_tick : List Cond := .code y_T_tick b_T_tick 1 none :: TB
theorem d_T_tick_0 : decode b_T_tick 0 = .ok (.aload_n 0, 1) := by decide +kernel
theorem d_T_tick_1 : decode b_T_tick 1 = .ok (.dup, 1) := by decide +kernel
theorem d_T_tick_2 : decode b_T_tick 2 = .ok (.getfield 15, 3) := by decide +kernel
theorem d_T_tick_5 : decode b_T_tick 5 = .ok (.iconst 1, 1) := by decide +kernel
theorem d_T_tick_6 : decode b_T_tick 6 = .ok (.isub, 1) := by decide +kernel
theorem d_T_tick_7 : decode b_T_tick 7 = .ok (.putfield 15, 3) := by decide +kernel
theorem d_T_tick_10 : decode b_T_tick 10 = .ok (.aload_n 0, 1) := by decide +kernel
theorem d_T_tick_11 : decode b_T_tick 11 = .ok (.getfield 15, 3) := by decide +kernel
theorem d_T_tick_14 : decode b_T_tick 14 = .ok (.ifCond .le 4, 3) := by decide +kernel
theorem d_T_tick_17 : decode b_T_tick 17 = .ok (.return_, 1) := by decide +kernel
theorem d_T_tick_18 : decode b_T_tick 18 = .ok (.aload_n 0, 1) := by decide +kernel
theorem d_T_tick_19 : decode b_T_tick 19 = .ok (.dup, 1) := by decide +kernel
theorem d_T_tick_20 : decode b_T_tick 20 = .ok (.getfield 18, 3) := by decide +kernel
theorem d_T_tick_23 : decode b_T_tick 23 = .ok (.iconst 1, 1) := by decide +kernel
theorem d_T_tick_24 : decode b_T_tick 24 = .ok (.isub, 1) := by decide +kernel
theorem d_T_tick_25 : decode b_T_tick 25 = .ok (.putfield 18, 3) := by decide +kernel
theorem d_T_tick_28 : decode b_T_tick 28 = .ok (.aload_n 0, 1) := by decide +kernel
theorem d_T_tick_29 : decode b_T_tick 29 = .ok (.getfield 18, 3) := by decide +kernel
theorem d_T_tick_32 : decode b_T_tick 32 = .ok (.ifCond .ge 20, 3) := by decide +kernel
theorem d_T_tick_35 : decode b_T_tick 35 = .ok (.aload_n 0, 1) := by decide +kernel
theorem d_T_tick_36 : decode b_T_tick 36 = .ok (.sipush 255, 3) := by decide +kernel
theorem d_T_tick_39 : decode b_T_tick 39 = .ok (.putfield 18, 3) := by decide +kernel
theorem d_T_tick_42 : decode b_T_tick 42 = .ok (.aload_n 0, 1) := by decide +kernel
theorem d_T_tick_43 : decode b_T_tick 43 = .ok (.iconst 1, 1) := by decide +kernel
theorem d_T_tick_44 : decode b_T_tick 44 = .ok (.putfield 21, 3) := by decide +kernel
theorem d_T_tick_47 : decode b_T_tick 47 = .ok (.aload_n 0, 1) := by decide +kernel
theorem d_T_tick_48 : decode b_T_tick 48 = .ok (.iconst 1, 1) := by decide +kernel
theorem d_T_tick_49 : decode b_T_tick 49 = .ok (.putfield 9, 3) := by decide +kernel
theorem d_T_tick_52 : decode b_T_tick 52 = .ok (.aload_n 0, 1) := by decide +kernel
theorem d_T_tick_53 : decode b_T_tick 53 = .ok (.aload_n 0, 1) := by decide +kernel
theorem d_T_tick_54 : decode b_T_tick 54 = .ok (.getfield 9, 3) := by decide +kernel
theorem d_T_tick_57 : decode b_T_tick 57 = .ok (.iconst 3, 1) := by decide +kernel
theorem d_T_tick_58 : decode b_T_tick 58 = .ok (.imul, 1) := by decide +kernel
theorem d_T_tick_59 : decode b_T_tick 59 = .ok (.putfield 15, 3) := by decide +kernel
theorem d_T_tick_62 : decode b_T_tick 62 = .ok (.return_, 1) := by decide +kernel
def y_B_stepClock : MethodName := ⟨R_B, "stepClock", "()V"⟩
abbrev b_B_stepClock : ByteArray := prog_1_method_21_code
def w_B_stepClock : List Cond := .code y_B_stepClock b_B_stepClock 1 none :: TB
theorem d_B_stepClock_0 : decode b_B_stepClock 0 = .ok (.aload_n 0, 1) := by decide +kernel
theorem d_B_stepClock_1 : decode b_B_stepClock 1 = .ok (.dup, 1) := by decide +kernel
theorem d_B_stepClock_2 : decode b_B_stepClock 2 = .ok (.getfield 49, 3) := by decide +kernel
theorem d_B_stepClock_5 : decode b_B_stepClock 5 = .ok (.iconst 1, 1) := by decide +kernel
theorem d_B_stepClock_6 : decode b_B_stepClock 6 = .ok (.iadd, 1) := by decide +kernel
theorem d_B_stepClock_7 : decode b_B_stepClock 7 = .ok (.putfield 49, 3) := by decide +kernel
theorem d_B_stepClock_10 : decode b_B_stepClock 10 = .ok (.aload_n 0, 1) := by decide +kernel
theorem d_B_stepClock_11 : decode b_B_stepClock 11 = .ok (.getfield 49, 3) := by decide +kernel
theorem d_B_stepClock_14 : decode b_B_stepClock 14 = .ok (.sipush 228, 3) := by decide +kernel
theorem d_B_stepClock_17 : decode b_B_stepClock 17 = .ok (.if_icmp .ne 18, 3) := by decide +kernel
theorem d_B_stepClock_20 : decode b_B_stepClock 20 = .ok (.aload_n 0, 1) := by decide +kernel
theorem d_B_stepClock_21 : decode b_B_stepClock 21 = .ok (.iconst 0, 1) := by decide +kernel
theorem d_B_stepClock_22 : decode b_B_stepClock 22 = .ok (.putfield 49, 3) := by decide +kernel
theorem d_B_stepClock_25 : decode b_B_stepClock 25 = .ok (.aload_n 0, 1) := by decide +kernel
theorem d_B_stepClock_26 : decode b_B_stepClock 26 = .ok (.dup, 1) := by decide +kernel
theorem d_B_stepClock_27 : decode b_B_stepClock 27 = .ok (.getfield 73, 3) := by decide +kernel
theorem d_B_stepClock_30 : decode b_B_stepClock 30 = .ok (.iconst 1, 1) := by decide +kernel
theorem d_B_stepClock_31 : decode b_B_stepClock 31 = .ok (.iadd, 1) := by decide +kernel
theorem d_B_stepClock_32 : decode b_B_stepClock 32 = .ok (.putfield 73, 3) := by decide +kernel
theorem d_B_stepClock_35 : decode b_B_stepClock 35 = .ok (.return_, 1) := by decide +kernel
def y_B_keepMeetings : MethodName := ⟨R_B, "keepMeetings", "(I)V"⟩
abbrev b_B_keepMeetings : ByteArray := prog_1_method_25_code
def w_B_keepMeetings : List Cond := .code y_B_keepMeetings b_B_keepMeetings 4 none :: TB
theorem d_B_keepMeetings_0 : decode b_B_keepMeetings 0 = .ok (.iconst 0, 1) := by decide +kernel
theorem d_B_keepMeetings_1 : decode b_B_keepMeetings 1 = .ok (.istore_n 2, 1) := by decide +kernel
theorem d_B_keepMeetings_2 : decode b_B_keepMeetings 2 = .ok (.iload_n 2, 1) := by decide +kernel
theorem d_B_keepMeetings_3 : decode b_B_keepMeetings 3 = .ok (.bipush 6, 2) := by decide +kernel
theorem d_B_keepMeetings_5 : decode b_B_keepMeetings 5 = .ok (.if_icmp .ge 33, 3) := by decide +kernel
theorem d_B_keepMeetings_8 : decode b_B_keepMeetings 8 = .ok (.iconst 1, 1) := by decide +kernel
theorem d_B_keepMeetings_9 : decode b_B_keepMeetings 9 = .ok (.iload_n 2, 1) := by decide +kernel
theorem d_B_keepMeetings_10 : decode b_B_keepMeetings 10 = .ok (.ishl, 1) := by decide +kernel
theorem d_B_keepMeetings_11 : decode b_B_keepMeetings 11 = .ok (.istore_n 3, 1) := by decide +kernel
theorem d_B_keepMeetings_12 : decode b_B_keepMeetings 12 = .ok (.iload_n 1, 1) := by decide +kernel
theorem d_B_keepMeetings_13 : decode b_B_keepMeetings 13 = .ok (.iload_n 3, 1) := by decide +kernel
theorem d_B_keepMeetings_14 : decode b_B_keepMeetings 14 = .ok (.iand, 1) := by decide +kernel
theorem d_B_keepMeetings_15 : decode b_B_keepMeetings 15 = .ok (.ifCond .eq 17, 3) := by decide +kernel
theorem d_B_keepMeetings_18 : decode b_B_keepMeetings 18 = .ok (.aload_n 0, 1) := by decide +kernel
theorem d_B_keepMeetings_19 : decode b_B_keepMeetings 19 = .ok (.getfield 22, 3) := by decide +kernel
theorem d_B_keepMeetings_22 : decode b_B_keepMeetings 22 = .ok (.iload_n 2, 1) := by decide +kernel
theorem d_B_keepMeetings_23 : decode b_B_keepMeetings 23 = .ok (.dup2, 1) := by decide +kernel
theorem d_B_keepMeetings_24 : decode b_B_keepMeetings 24 = .ok (.iaload, 1) := by decide +kernel
theorem d_B_keepMeetings_25 : decode b_B_keepMeetings 25 = .ok (.iload_n 1, 1) := by decide +kernel
theorem d_B_keepMeetings_26 : decode b_B_keepMeetings 26 = .ok (.iload_n 3, 1) := by decide +kernel
theorem d_B_keepMeetings_27 : decode b_B_keepMeetings 27 = .ok (.iconst (-1), 1) := by decide +kernel
theorem d_B_keepMeetings_28 : decode b_B_keepMeetings 28 = .ok (.ixor, 1) := by decide +kernel
theorem d_B_keepMeetings_29 : decode b_B_keepMeetings 29 = .ok (.iand, 1) := by decide +kernel
theorem d_B_keepMeetings_30 : decode b_B_keepMeetings 30 = .ok (.ior, 1) := by decide +kernel
theorem d_B_keepMeetings_31 : decode b_B_keepMeetings 31 = .ok (.iastore, 1) := by decide +kernel
theorem d_B_keepMeetings_32 : decode b_B_keepMeetings 32 = .ok (.iinc 2 1, 3) := by decide +kernel
theorem d_B_keepMeetings_35 : decode b_B_keepMeetings 35 = .ok (.goto (-33), 3) := by decide +kernel
theorem d_B_keepMeetings_38 : decode b_B_keepMeetings 38 = .ok (.return_, 1) := by decide +kernel
def y_B_draw : MethodName := ⟨R_B, "draw", "(I)V"⟩
abbrev b_B_draw : ByteArray := prog_1_method_22_code
def w_B_draw : List Cond := .code y_B_draw b_B_draw 4 none :: TB
theorem d_B_draw_0 : decode b_B_draw 0 = .ok (.iconst 0, 1) := by decide +kernel
theorem d_B_draw_1 : decode b_B_draw 1 = .ok (.istore_n 2, 1) := by decide +kernel
theorem d_B_draw_2 : decode b_B_draw 2 = .ok (.iconst 0, 1) := by decide +kernel
theorem d_B_draw_3 : decode b_B_draw 3 = .ok (.istore_n 3, 1) := by decide +kernel
theorem d_B_draw_4 : decode b_B_draw 4 = .ok (.iload_n 3, 1) := by decide +kernel
theorem d_B_draw_5 : decode b_B_draw 5 = .ok (.bipush 6, 2) := by decide +kernel
theorem d_B_draw_7 : decode b_B_draw 7 = .ok (.if_icmp .ge 24, 3) := by decide +kernel
theorem d_B_draw_10 : decode b_B_draw 10 = .ok (.aload_n 0, 1) := by decide +kernel
theorem d_B_draw_11 : decode b_B_draw 11 = .ok (.iload_n 3, 1) := by decide +kernel
theorem d_B_draw_12 : decode b_B_draw 12 = .ok (.iload_n 1, 1) := by decide +kernel
theorem d_B_draw_13 : decode b_B_draw 13 = .ok (.invokevirtual 60, 3) := by decide +kernel
theorem d_B_draw_16 : decode b_B_draw 16 = .ok (.ifCond .eq 9, 3) := by decide +kernel
theorem d_B_draw_19 : decode b_B_draw 19 = .ok (.iload_n 2, 1) := by decide +kernel
theorem d_B_draw_20 : decode b_B_draw 20 = .ok (.iconst 1, 1) := by decide +kernel
theorem d_B_draw_21 : decode b_B_draw 21 = .ok (.iload_n 3, 1) := by decide +kernel
theorem d_B_draw_22 : decode b_B_draw 22 = .ok (.ishl, 1) := by decide +kernel
theorem d_B_draw_23 : decode b_B_draw 23 = .ok (.ior, 1) := by decide +kernel
theorem d_B_draw_24 : decode b_B_draw 24 = .ok (.istore_n 2, 1) := by decide +kernel
theorem d_B_draw_25 : decode b_B_draw 25 = .ok (.iinc 3 1, 3) := by decide +kernel
theorem d_B_draw_28 : decode b_B_draw 28 = .ok (.goto (-24), 3) := by decide +kernel
theorem d_B_draw_31 : decode b_B_draw 31 = .ok (.aload_n 0, 1) := by decide +kernel
theorem d_B_draw_32 : decode b_B_draw 32 = .ok (.getfield 19, 3) := by decide +kernel
theorem d_B_draw_35 : decode b_B_draw 35 = .ok (.iload_n 1, 1) := by decide +kernel
theorem d_B_draw_36 : decode b_B_draw 36 = .ok (.aload_n 0, 1) := by decide +kernel
theorem d_B_draw_37 : decode b_B_draw 37 = .ok (.iload_n 1, 1) := by decide +kernel
theorem d_B_draw_38 : decode b_B_draw 38 = .ok (.iload_n 2, 1) := by decide +kernel
theorem d_B_draw_39 : decode b_B_draw 39 = .ok (.invokevirtual 136, 3) := by decide +kernel
theorem d_B_draw_42 : decode b_B_draw 42 = .ok (.iastore, 1) := by decide +kernel
theorem d_B_draw_43 : decode b_B_draw 43 = .ok (.aload_n 0, 1) := by decide +kernel
theorem d_B_draw_44 : decode b_B_draw 44 = .ok (.iload_n 2, 1) := by decide +kernel
theorem d_B_draw_45 : decode b_B_draw 45 = .ok (.invokevirtual 139, 3) := by decide +kernel
theorem d_B_draw_48 : decode b_B_draw 48 = .ok (.return_, 1) := by decide +kernel
def y_B_run : MethodName := ⟨R_B, "run", "(I)V"⟩
abbrev b_B_run : ByteArray := prog_1_method_20_code
def w_B_run : List Cond := .code y_B_run b_B_run 3 none :: TB
theorem d_B_run_0 : decode b_B_run 0 = .ok (.iconst 0, 1) := by decide +kernel
theorem d_B_run_1 : decode b_B_run 1 = .ok (.istore_n 2, 1) := by decide +kernel
theorem d_B_run_2 : decode b_B_run 2 = .ok (.iload_n 2, 1) := by decide +kernel
theorem d_B_run_3 : decode b_B_run 3 = .ok (.iload_n 1, 1) := by decide +kernel
theorem d_B_run_4 : decode b_B_run 4 = .ok (.if_icmp .ge 57, 3) := by decide +kernel
theorem d_B_run_7 : decode b_B_run 7 = .ok (.aload_n 0, 1) := by decide +kernel
theorem d_B_run_8 : decode b_B_run 8 = .ok (.getfield 49, 3) := by decide +kernel
theorem d_B_run_11 : decode b_B_run 11 = .ok (.bipush 68, 2) := by decide +kernel
theorem d_B_run_13 : decode b_B_run 13 = .ok (.if_icmp .lt 31, 3) := by decide +kernel
theorem d_B_run_16 : decode b_B_run 16 = .ok (.iload_n 2, 1) := by decide +kernel
theorem d_B_run_17 : decode b_B_run 17 = .ok (.sipush 228, 3) := by decide +kernel
theorem d_B_run_20 : decode b_B_run 20 = .ok (.if_icmp .ge 14, 3) := by decide +kernel
theorem d_B_run_23 : decode b_B_run 23 = .ok (.aload_n 0, 1) := by decide +kernel
theorem d_B_run_24 : decode b_B_run 24 = .ok (.aload_n 0, 1) := by decide +kernel
theorem d_B_run_25 : decode b_B_run 25 = .ok (.getfield 49, 3) := by decide +kernel
theorem d_B_run_28 : decode b_B_run 28 = .ok (.bipush 68, 2) := by decide +kernel
theorem d_B_run_30 : decode b_B_run 30 = .ok (.isub, 1) := by decide +kernel
theorem d_B_run_31 : decode b_B_run 31 = .ok (.invokevirtual 127, 3) := by decide +kernel
theorem d_B_run_34 : decode b_B_run 34 = .ok (.aload_n 0, 1) := by decide +kernel
theorem d_B_run_35 : decode b_B_run 35 = .ok (.dup, 1) := by decide +kernel
theorem d_B_run_36 : decode b_B_run 36 = .ok (.getfield 84, 3) := by decide +kernel
theorem d_B_run_39 : decode b_B_run 39 = .ok (.iconst 1, 1) := by decide +kernel
theorem d_B_run_40 : decode b_B_run 40 = .ok (.iadd, 1) := by decide +kernel
theorem d_B_run_41 : decode b_B_run 41 = .ok (.putfield 84, 3) := by decide +kernel
theorem d_B_run_44 : decode b_B_run 44 = .ok (.aload_n 0, 1) := by decide +kernel
theorem d_B_run_45 : decode b_B_run 45 = .ok (.getfield 28, 3) := by decide +kernel
theorem d_B_run_48 : decode b_B_run 48 = .ok (.invokevirtual 130, 3) := by decide +kernel
theorem d_B_run_51 : decode b_B_run 51 = .ok (.aload_n 0, 1) := by decide +kernel
theorem d_B_run_52 : decode b_B_run 52 = .ok (.invokevirtual 133, 3) := by decide +kernel
theorem d_B_run_55 : decode b_B_run 55 = .ok (.iinc 2 1, 3) := by decide +kernel
theorem d_B_run_58 : decode b_B_run 58 = .ok (.goto (-56), 3) := by decide +kernel
theorem d_B_run_61 : decode b_B_run 61 = .ok (.return_, 1) := by decide +kernel
def y_B_put : MethodName := ⟨R_B, "put", "(I)V"⟩
abbrev b_B_put : ByteArray := prog_1_method_17_code
def w_B_put : List Cond := .code y_B_put b_B_put 3 none :: TB
theorem d_B_put_0 : decode b_B_put 0 = .ok (.iload_n 1, 1) := by decide +kernel
theorem d_B_put_1 : decode b_B_put 1 = .ok (.iconst 2, 1) := by decide +kernel
theorem d_B_put_2 : decode b_B_put 2 = .ok (.if_icmp .ge 7, 3) := by decide +kernel
theorem d_B_put_5 : decode b_B_put 5 = .ok (.iconst 1, 1) := by decide +kernel
theorem d_B_put_6 : decode b_B_put 6 = .ok (.goto 4, 3) := by decide +kernel
theorem d_B_put_9 : decode b_B_put 9 = .ok (.iconst 0, 1) := by decide +kernel
theorem d_B_put_10 : decode b_B_put 10 = .ok (.istore_n 2, 1) := by decide +kernel
theorem d_B_put_11 : decode b_B_put 11 = .ok (.aload_n 0, 1) := by decide +kernel
theorem d_B_put_12 : decode b_B_put 12 = .ok (.getfield 49, 3) := by decide +kernel
theorem d_B_put_15 : decode b_B_put 15 = .ok (.bipush 68, 2) := by decide +kernel
theorem d_B_put_17 : decode b_B_put 17 = .ok (.if_icmp .ge 15, 3) := by decide +kernel
theorem d_B_put_20 : decode b_B_put 20 = .ok (.aload_n 0, 1) := by decide +kernel
theorem d_B_put_21 : decode b_B_put 21 = .ok (.getfield 16, 3) := by decide +kernel
theorem d_B_put_24 : decode b_B_put 24 = .ok (.iload_n 1, 1) := by decide +kernel
theorem d_B_put_25 : decode b_B_put 25 = .ok (.iconst 2, 1) := by decide +kernel
theorem d_B_put_26 : decode b_B_put 26 = .ok (.iload_n 2, 1) := by decide +kernel
theorem d_B_put_27 : decode b_B_put 27 = .ok (.iadd, 1) := by decide +kernel
theorem d_B_put_28 : decode b_B_put 28 = .ok (.iastore, 1) := by decide +kernel
theorem d_B_put_29 : decode b_B_put 29 = .ok (.goto 24, 3) := by decide +kernel
theorem d_B_put_32 : decode b_B_put 32 = .ok (.aload_n 0, 1) := by decide +kernel
theorem d_B_put_33 : decode b_B_put 33 = .ok (.getfield 16, 3) := by decide +kernel
theorem d_B_put_36 : decode b_B_put 36 = .ok (.iload_n 1, 1) := by decide +kernel
theorem d_B_put_37 : decode b_B_put 37 = .ok (.aload_n 0, 1) := by decide +kernel
theorem d_B_put_38 : decode b_B_put 38 = .ok (.getfield 49, 3) := by decide +kernel
theorem d_B_put_41 : decode b_B_put 41 = .ok (.bipush 68, 2) := by decide +kernel
theorem d_B_put_43 : decode b_B_put 43 = .ok (.isub, 1) := by decide +kernel
theorem d_B_put_44 : decode b_B_put 44 = .ok (.iconst 4, 1) := by decide +kernel
theorem d_B_put_45 : decode b_B_put 45 = .ok (.iadd, 1) := by decide +kernel
theorem d_B_put_46 : decode b_B_put 46 = .ok (.iload_n 2, 1) := by decide +kernel
theorem d_B_put_47 : decode b_B_put 47 = .ok (.iadd, 1) := by decide +kernel
theorem d_B_put_48 : decode b_B_put 48 = .ok (.sipush 160, 3) := by decide +kernel
theorem d_B_put_51 : decode b_B_put 51 = .ok (.irem, 1) := by decide +kernel
theorem d_B_put_52 : decode b_B_put 52 = .ok (.iastore, 1) := by decide +kernel
theorem d_B_put_53 : decode b_B_put 53 = .ok (.return_, 1) := by decide +kernel
def y_B_moveAll : MethodName := ⟨R_B, "moveAll", "()V"⟩
abbrev b_B_moveAll : ByteArray := prog_1_method_18_code
def w_B_moveAll : List Cond := .code y_B_moveAll b_B_moveAll 2 none :: TB
theorem d_B_moveAll_0 : decode b_B_moveAll 0 = .ok (.iconst 0, 1) := by decide +kernel
theorem d_B_moveAll_1 : decode b_B_moveAll 1 = .ok (.istore_n 1, 1) := by decide +kernel
theorem d_B_moveAll_2 : decode b_B_moveAll 2 = .ok (.iload_n 1, 1) := by decide +kernel
theorem d_B_moveAll_3 : decode b_B_moveAll 3 = .ok (.iconst 5, 1) := by decide +kernel
theorem d_B_moveAll_4 : decode b_B_moveAll 4 = .ok (.if_icmp .ge 33, 3) := by decide +kernel
theorem d_B_moveAll_7 : decode b_B_moveAll 7 = .ok (.aload_n 0, 1) := by decide +kernel
theorem d_B_moveAll_8 : decode b_B_moveAll 8 = .ok (.getfield 16, 3) := by decide +kernel
theorem d_B_moveAll_11 : decode b_B_moveAll 11 = .ok (.iload_n 1, 1) := by decide +kernel
theorem d_B_moveAll_12 : decode b_B_moveAll 12 = .ok (.aload_n 0, 1) := by decide +kernel
theorem d_B_moveAll_13 : decode b_B_moveAll 13 = .ok (.getfield 16, 3) := by decide +kernel
theorem d_B_moveAll_16 : decode b_B_moveAll 16 = .ok (.iload_n 1, 1) := by decide +kernel
theorem d_B_moveAll_17 : decode b_B_moveAll 17 = .ok (.iaload, 1) := by decide +kernel
theorem d_B_moveAll_18 : decode b_B_moveAll 18 = .ok (.aload_n 0, 1) := by decide +kernel
theorem d_B_moveAll_19 : decode b_B_moveAll 19 = .ok (.iload_n 1, 1) := by decide +kernel
theorem d_B_moveAll_20 : decode b_B_moveAll 20 = .ok (.invokevirtual 118, 3) := by decide +kernel
theorem d_B_moveAll_23 : decode b_B_moveAll 23 = .ok (.isub, 1) := by decide +kernel
theorem d_B_moveAll_24 : decode b_B_moveAll 24 = .ok (.sipush 160, 3) := by decide +kernel
theorem d_B_moveAll_27 : decode b_B_moveAll 27 = .ok (.invokestatic 121, 3) := by decide +kernel
theorem d_B_moveAll_30 : decode b_B_moveAll 30 = .ok (.iastore, 1) := by decide +kernel
theorem d_B_moveAll_31 : decode b_B_moveAll 31 = .ok (.iinc 1 1, 3) := by decide +kernel
theorem d_B_moveAll_34 : decode b_B_moveAll 34 = .ok (.goto (-32), 3) := by decide +kernel
theorem d_B_moveAll_37 : decode b_B_moveAll 37 = .ok (.return_, 1) := by decide +kernel
def y_B_unlock : MethodName := ⟨R_B, "unlock", "(I)V"⟩
abbrev b_B_unlock : ByteArray := prog_1_method_15_code
def w_B_unlock : List Cond := .code y_B_unlock b_B_unlock 3 none :: TB
theorem d_B_unlock_0 : decode b_B_unlock 0 = .ok (.iconst 4, 1) := by decide +kernel
theorem d_B_unlock_1 : decode b_B_unlock 1 = .ok (.getstatic 96, 3) := by decide +kernel
theorem d_B_unlock_4 : decode b_B_unlock 4 = .ok (.aload_n 0, 1) := by decide +kernel
theorem d_B_unlock_5 : decode b_B_unlock 5 = .ok (.iload_n 1, 1) := by decide +kernel
theorem d_B_unlock_6 : decode b_B_unlock 6 = .ok (.invokevirtual 99, 3) := by decide +kernel
theorem d_B_unlock_9 : decode b_B_unlock 9 = .ok (.iaload, 1) := by decide +kernel
theorem d_B_unlock_10 : decode b_B_unlock 10 = .ok (.ishl, 1) := by decide +kernel
theorem d_B_unlock_11 : decode b_B_unlock 11 = .ok (.istore_n 2, 1) := by decide +kernel
theorem d_B_unlock_12 : decode b_B_unlock 12 = .ok (.aload_n 0, 1) := by decide +kernel
theorem d_B_unlock_13 : decode b_B_unlock 13 = .ok (.getfield 16, 3) := by decide +kernel
theorem d_B_unlock_16 : decode b_B_unlock 16 = .ok (.iconst 2, 1) := by decide +kernel
theorem d_B_unlock_17 : decode b_B_unlock 17 = .ok (.iload_n 1, 1) := by decide +kernel
theorem d_B_unlock_18 : decode b_B_unlock 18 = .ok (.iadd, 1) := by decide +kernel
theorem d_B_unlock_19 : decode b_B_unlock 19 = .ok (.aload_n 0, 1) := by decide +kernel
theorem d_B_unlock_20 : decode b_B_unlock 20 = .ok (.getfield 16, 3) := by decide +kernel
theorem d_B_unlock_23 : decode b_B_unlock 23 = .ok (.iload_n 1, 1) := by decide +kernel
theorem d_B_unlock_24 : decode b_B_unlock 24 = .ok (.iaload, 1) := by decide +kernel
theorem d_B_unlock_25 : decode b_B_unlock 25 = .ok (.iload_n 2, 1) := by decide +kernel
theorem d_B_unlock_26 : decode b_B_unlock 26 = .ok (.iadd, 1) := by decide +kernel
theorem d_B_unlock_27 : decode b_B_unlock 27 = .ok (.sipush 160, 3) := by decide +kernel
theorem d_B_unlock_30 : decode b_B_unlock 30 = .ok (.irem, 1) := by decide +kernel
theorem d_B_unlock_31 : decode b_B_unlock 31 = .ok (.iastore, 1) := by decide +kernel
theorem d_B_unlock_32 : decode b_B_unlock 32 = .ok (.return_, 1) := by decide +kernel
def y_B_strobe : MethodName := ⟨R_B, "strobe", "(I)V"⟩
abbrev b_B_strobe : ByteArray := prog_1_method_16_code
def w_B_strobe : List Cond := .code y_B_strobe b_B_strobe 2 none :: TB
theorem d_B_strobe_0 : decode b_B_strobe 0 = .ok (.iload_n 1, 1) := by decide +kernel
theorem d_B_strobe_1 : decode b_B_strobe 1 = .ok (.tableswitch 60 33 35 #[27, 34, 49], 27) := by decide +kernel
theorem d_B_strobe_28 : decode b_B_strobe 28 = .ok (.aload_n 0, 1) := by decide +kernel
theorem d_B_strobe_29 : decode b_B_strobe 29 = .ok (.invokevirtual 103, 3) := by decide +kernel
theorem d_B_strobe_32 : decode b_B_strobe 32 = .ok (.goto 37, 3) := by decide +kernel
theorem d_B_strobe_35 : decode b_B_strobe 35 = .ok (.aload_n 0, 1) := by decide +kernel
theorem d_B_strobe_36 : decode b_B_strobe 36 = .ok (.getfield 9, 3) := by decide +kernel
theorem d_B_strobe_39 : decode b_B_strobe 39 = .ok (.bipush 23, 2) := by decide +kernel
theorem d_B_strobe_41 : decode b_B_strobe 41 = .ok (.bipush 28, 2) := by decide +kernel
theorem d_B_strobe_43 : decode b_B_strobe 43 = .ok (.iconst 0, 1) := by decide +kernel
theorem d_B_strobe_44 : decode b_B_strobe 44 = .ok (.invokestatic 106, 3) := by decide +kernel
theorem d_B_strobe_47 : decode b_B_strobe 47 = .ok (.goto 22, 3) := by decide +kernel
theorem d_B_strobe_50 : decode b_B_strobe 50 = .ok (.aload_n 0, 1) := by decide +kernel
theorem d_B_strobe_51 : decode b_B_strobe 51 = .ok (.getfield 22, 3) := by decide +kernel
theorem d_B_strobe_54 : decode b_B_strobe 54 = .ok (.iconst 0, 1) := by decide +kernel
theorem d_B_strobe_55 : decode b_B_strobe 55 = .ok (.invokestatic 112, 3) := by decide +kernel
theorem d_B_strobe_58 : decode b_B_strobe 58 = .ok (.goto 11, 3) := by decide +kernel
theorem d_B_strobe_61 : decode b_B_strobe 61 = .ok (.aload_n 0, 1) := by decide +kernel
theorem d_B_strobe_62 : decode b_B_strobe 62 = .ok (.iload_n 1, 1) := by decide +kernel
theorem d_B_strobe_63 : decode b_B_strobe 63 = .ok (.bipush 28, 2) := by decide +kernel
theorem d_B_strobe_65 : decode b_B_strobe 65 = .ok (.isub, 1) := by decide +kernel
theorem d_B_strobe_66 : decode b_B_strobe 66 = .ok (.invokevirtual 115, 3) := by decide +kernel
theorem d_B_strobe_69 : decode b_B_strobe 69 = .ok (.return_, 1) := by decide +kernel
def y_B_store : MethodName := ⟨R_B, "store", "(II)V"⟩
abbrev b_B_store : ByteArray := prog_1_method_14_code
def w_B_store : List Cond := .code y_B_store b_B_store 3 none :: TB
theorem d_B_store_0 : decode b_B_store 0 = .ok (.iload_n 1, 1) := by decide +kernel
theorem d_B_store_1 : decode b_B_store 1 = .ok (.lookupswitch 112 #[(9, 43), (10, 59), (21, 86), (22, 86)], 43) := by decide +kernel
theorem d_B_store_44 : decode b_B_store 44 = .ok (.aload_n 0, 1) := by decide +kernel
theorem d_B_store_45 : decode b_B_store 45 = .ok (.getfield 13, 3) := by decide +kernel
theorem d_B_store_48 : decode b_B_store 48 = .ok (.iconst 1, 1) := by decide +kernel
theorem d_B_store_49 : decode b_B_store 49 = .ok (.aload_n 0, 1) := by decide +kernel
theorem d_B_store_50 : decode b_B_store 50 = .ok (.getfield 9, 3) := by decide +kernel
theorem d_B_store_53 : decode b_B_store 53 = .ok (.bipush 10, 2) := by decide +kernel
theorem d_B_store_55 : decode b_B_store 55 = .ok (.iaload, 1) := by decide +kernel
theorem d_B_store_56 : decode b_B_store 56 = .ok (.iastore, 1) := by decide +kernel
theorem d_B_store_57 : decode b_B_store 57 = .ok (.goto 56, 3) := by decide +kernel
theorem d_B_store_60 : decode b_B_store 60 = .ok (.aload_n 0, 1) := by decide +kernel
theorem d_B_store_61 : decode b_B_store 61 = .ok (.getfield 13, 3) := by decide +kernel
theorem d_B_store_64 : decode b_B_store 64 = .ok (.iconst 0, 1) := by decide +kernel
theorem d_B_store_65 : decode b_B_store 65 = .ok (.aload_n 0, 1) := by decide +kernel
theorem d_B_store_66 : decode b_B_store 66 = .ok (.getfield 9, 3) := by decide +kernel
theorem d_B_store_69 : decode b_B_store 69 = .ok (.bipush 9, 2) := by decide +kernel
theorem d_B_store_71 : decode b_B_store 71 = .ok (.iaload, 1) := by decide +kernel
theorem d_B_store_72 : decode b_B_store 72 = .ok (.iastore, 1) := by decide +kernel
theorem d_B_store_73 : decode b_B_store 73 = .ok (.aload_n 0, 1) := by decide +kernel
theorem d_B_store_74 : decode b_B_store 74 = .ok (.aload_n 0, 1) := by decide +kernel
theorem d_B_store_75 : decode b_B_store 75 = .ok (.getfield 9, 3) := by decide +kernel
theorem d_B_store_78 : decode b_B_store 78 = .ok (.bipush 13, 2) := by decide +kernel
theorem d_B_store_80 : decode b_B_store 80 = .ok (.iaload, 1) := by decide +kernel
theorem d_B_store_81 : decode b_B_store 81 = .ok (.putfield 87, 3) := by decide +kernel
theorem d_B_store_84 : decode b_B_store 84 = .ok (.goto 29, 3) := by decide +kernel
theorem d_B_store_87 : decode b_B_store 87 = .ok (.aload_n 0, 1) := by decide +kernel
theorem d_B_store_88 : decode b_B_store 88 = .ok (.iload_n 1, 1) := by decide +kernel
theorem d_B_store_89 : decode b_B_store 89 = .ok (.iconst 2, 1) := by decide +kernel
theorem d_B_store_90 : decode b_B_store 90 = .ok (.invokevirtual 90, 3) := by decide +kernel
theorem d_B_store_93 : decode b_B_store 93 = .ok (.ifCond .eq 20, 3) := by decide +kernel
theorem d_B_store_96 : decode b_B_store 96 = .ok (.iload_n 2, 1) := by decide +kernel
theorem d_B_store_97 : decode b_B_store 97 = .ok (.iconst 2, 1) := by decide +kernel
theorem d_B_store_98 : decode b_B_store 98 = .ok (.iand, 1) := by decide +kernel
theorem d_B_store_99 : decode b_B_store 99 = .ok (.ifCond .ne 14, 3) := by decide +kernel
theorem d_B_store_102 : decode b_B_store 102 = .ok (.aload_n 0, 1) := by decide +kernel
theorem d_B_store_103 : decode b_B_store 103 = .ok (.iload_n 1, 1) := by decide +kernel
theorem d_B_store_104 : decode b_B_store 104 = .ok (.bipush 21, 2) := by decide +kernel
theorem d_B_store_106 : decode b_B_store 106 = .ok (.isub, 1) := by decide +kernel
theorem d_B_store_107 : decode b_B_store 107 = .ok (.invokevirtual 93, 3) := by decide +kernel
theorem d_B_store_110 : decode b_B_store 110 = .ok (.goto 3, 3) := by decide +kernel
theorem d_B_store_113 : decode b_B_store 113 = .ok (.aload_n 0, 1) := by decide +kernel
theorem d_B_store_114 : decode b_B_store 114 = .ok (.getfield 9, 3) := by decide +kernel
theorem d_B_store_117 : decode b_B_store 117 = .ok (.iload_n 1, 1) := by decide +kernel
theorem d_B_store_118 : decode b_B_store 118 = .ok (.iload_n 2, 1) := by decide +kernel
theorem d_B_store_119 : decode b_B_store 119 = .ok (.iastore, 1) := by decide +kernel
theorem d_B_store_120 : decode b_B_store 120 = .ok (.return_, 1) := by decide +kernel
def y_B_write : MethodName := ⟨R_B, "write", "(II)V"⟩
abbrev b_B_write : ByteArray := prog_1_method_2_code
def w_B_write : List Cond := .code y_B_write b_B_write 3 none :: TB
theorem d_B_write_0 : decode b_B_write 0 = .ok (.iload_n 1, 1) := by decide +kernel
theorem d_B_write_1 : decode b_B_write 1 = .ok (.ifCond .lt 9, 3) := by decide +kernel
theorem d_B_write_4 : decode b_B_write 4 = .ok (.iload_n 1, 1) := by decide +kernel
theorem d_B_write_5 : decode b_B_write 5 = .ok (.bipush 36, 2) := by decide +kernel
theorem d_B_write_7 : decode b_B_write 7 = .ok (.if_icmp .lt 11, 3) := by decide +kernel
theorem d_B_write_10 : decode b_B_write 10 = .ok (.new 32, 3) := by decide +kernel
theorem d_B_write_13 : decode b_B_write 13 = .ok (.dup, 1) := by decide +kernel
theorem d_B_write_14 : decode b_B_write 14 = .ok (.invokespecial 34, 3) := by decide +kernel
theorem d_B_write_17 : decode b_B_write 17 = .ok (.athrow, 1) := by decide +kernel
theorem d_B_write_18 : decode b_B_write 18 = .ok (.iload_n 2, 1) := by decide +kernel
theorem d_B_write_19 : decode b_B_write 19 = .ok (.ifCond .lt 10, 3) := by decide +kernel
theorem d_B_write_22 : decode b_B_write 22 = .ok (.iload_n 2, 1) := by decide +kernel
theorem d_B_write_23 : decode b_B_write 23 = .ok (.sipush 255, 3) := by decide +kernel
theorem d_B_write_26 : decode b_B_write 26 = .ok (.if_icmp .le 11, 3) := by decide +kernel
theorem d_B_write_29 : decode b_B_write 29 = .ok (.new 35, 3) := by decide +kernel
theorem d_B_write_32 : decode b_B_write 32 = .ok (.dup, 1) := by decide +kernel
theorem d_B_write_33 : decode b_B_write 33 = .ok (.invokespecial 37, 3) := by decide +kernel
theorem d_B_write_36 : decode b_B_write 36 = .ok (.athrow, 1) := by decide +kernel
theorem d_B_write_37 : decode b_B_write 37 = .ok (.iload_n 1, 1) := by decide +kernel
theorem d_B_write_38 : decode b_B_write 38 = .ok (.bipush 28, 2) := by decide +kernel
theorem d_B_write_40 : decode b_B_write 40 = .ok (.if_icmp .lt 11, 3) := by decide +kernel
theorem d_B_write_43 : decode b_B_write 43 = .ok (.aload_n 0, 1) := by decide +kernel
theorem d_B_write_44 : decode b_B_write 44 = .ok (.iload_n 1, 1) := by decide +kernel
theorem d_B_write_45 : decode b_B_write 45 = .ok (.invokevirtual 38, 3) := by decide +kernel
theorem d_B_write_48 : decode b_B_write 48 = .ok (.goto 9, 3) := by decide +kernel
theorem d_B_write_51 : decode b_B_write 51 = .ok (.aload_n 0, 1) := by decide +kernel
theorem d_B_write_52 : decode b_B_write 52 = .ok (.iload_n 1, 1) := by decide +kernel
theorem d_B_write_53 : decode b_B_write 53 = .ok (.iload_n 2, 1) := by decide +kernel
theorem d_B_write_54 : decode b_B_write 54 = .ok (.invokevirtual 42, 3) := by decide +kernel
theorem d_B_write_57 : decode b_B_write 57 = .ok (.return_, 1) := by decide +kernel
def y_B_clocks : MethodName := ⟨R_B, "clocks", "(I)I"⟩
abbrev b_B_clocks : ByteArray := prog_1_method_3_code
def w_B_clocks : List Cond := .code y_B_clocks b_B_clocks 2 (some .int) :: TB
theorem d_B_clocks_0 : decode b_B_clocks 0 = .ok (.iload_n 1, 1) := by decide +kernel
theorem d_B_clocks_1 : decode b_B_clocks 1 = .ok (.ifCond .lt 10, 3) := by decide +kernel
theorem d_B_clocks_4 : decode b_B_clocks 4 = .ok (.iload_n 1, 1) := by decide +kernel
theorem d_B_clocks_5 : decode b_B_clocks 5 = .ok (.sipush 2000, 3) := by decide +kernel
theorem d_B_clocks_8 : decode b_B_clocks 8 = .ok (.if_icmp .le 11, 3) := by decide +kernel
theorem d_B_clocks_11 : decode b_B_clocks 11 = .ok (.new 35, 3) := by decide +kernel
theorem d_B_clocks_14 : decode b_B_clocks 14 = .ok (.dup, 1) := by decide +kernel
theorem d_B_clocks_15 : decode b_B_clocks 15 = .ok (.invokespecial 37, 3) := by decide +kernel
theorem d_B_clocks_18 : decode b_B_clocks 18 = .ok (.athrow, 1) := by decide +kernel
theorem d_B_clocks_19 : decode b_B_clocks 19 = .ok (.aload_n 0, 1) := by decide +kernel
theorem d_B_clocks_20 : decode b_B_clocks 20 = .ok (.iload_n 1, 1) := by decide +kernel
theorem d_B_clocks_21 : decode b_B_clocks 21 = .ok (.invokevirtual 46, 3) := by decide +kernel
theorem d_B_clocks_24 : decode b_B_clocks 24 = .ok (.aload_n 0, 1) := by decide +kernel
theorem d_B_clocks_25 : decode b_B_clocks 25 = .ok (.getfield 49, 3) := by decide +kernel
theorem d_B_clocks_28 : decode b_B_clocks 28 = .ok (.ireturn, 1) := by decide +kernel
def y_B_sync : MethodName := ⟨R_B, "sync", "()I"⟩
abbrev b_B_sync : ByteArray := prog_1_method_4_code
def w_B_sync : List Cond := .code y_B_sync b_B_sync 2 (some .int) :: TB
theorem d_B_sync_0 : decode b_B_sync 0 = .ok (.sipush 228, 3) := by decide +kernel
theorem d_B_sync_3 : decode b_B_sync 3 = .ok (.aload_n 0, 1) := by decide +kernel
theorem d_B_sync_4 : decode b_B_sync 4 = .ok (.getfield 49, 3) := by decide +kernel
theorem d_B_sync_7 : decode b_B_sync 7 = .ok (.isub, 1) := by decide +kernel
theorem d_B_sync_8 : decode b_B_sync 8 = .ok (.istore_n 1, 1) := by decide +kernel
theorem d_B_sync_9 : decode b_B_sync 9 = .ok (.aload_n 0, 1) := by decide +kernel
theorem d_B_sync_10 : decode b_B_sync 10 = .ok (.iload_n 1, 1) := by decide +kernel
theorem d_B_sync_11 : decode b_B_sync 11 = .ok (.invokevirtual 46, 3) := by decide +kernel
theorem d_B_sync_14 : decode b_B_sync 14 = .ok (.iload_n 1, 1) := by decide +kernel
theorem d_B_sync_15 : decode b_B_sync 15 = .ok (.ireturn, 1) := by decide +kernel
def y_B_pixel : MethodName := ⟨R_B, "pixel", "(I)I"⟩
abbrev b_B_pixel : ByteArray := prog_1_method_5_code
def w_B_pixel : List Cond := .code y_B_pixel b_B_pixel 2 (some .int) :: TB
theorem d_B_pixel_0 : decode b_B_pixel 0 = .ok (.iload_n 1, 1) := by decide +kernel
theorem d_B_pixel_1 : decode b_B_pixel 1 = .ok (.invokestatic 53, 3) := by decide +kernel
theorem d_B_pixel_4 : decode b_B_pixel 4 = .ok (.ifCond .ne 11, 3) := by decide +kernel
theorem d_B_pixel_7 : decode b_B_pixel 7 = .ok (.new 32, 3) := by decide +kernel
theorem d_B_pixel_10 : decode b_B_pixel 10 = .ok (.dup, 1) := by decide +kernel
theorem d_B_pixel_11 : decode b_B_pixel 11 = .ok (.invokespecial 34, 3) := by decide +kernel
theorem d_B_pixel_14 : decode b_B_pixel 14 = .ok (.athrow, 1) := by decide +kernel
theorem d_B_pixel_15 : decode b_B_pixel 15 = .ok (.aload_n 0, 1) := by decide +kernel
theorem d_B_pixel_16 : decode b_B_pixel 16 = .ok (.getfield 19, 3) := by decide +kernel
theorem d_B_pixel_19 : decode b_B_pixel 19 = .ok (.iload_n 1, 1) := by decide +kernel
theorem d_B_pixel_20 : decode b_B_pixel 20 = .ok (.iaload, 1) := by decide +kernel
theorem d_B_pixel_21 : decode b_B_pixel 21 = .ok (.ireturn, 1) := by decide +kernel
def y_B_met : MethodName := ⟨R_B, "met", "(II)Z"⟩
abbrev b_B_met : ByteArray := prog_1_method_6_code
def w_B_met : List Cond := .code y_B_met b_B_met 3 (some .boolean) :: TB
theorem d_B_met_0 : decode b_B_met 0 = .ok (.iload_n 1, 1) := by decide +kernel
theorem d_B_met_1 : decode b_B_met 1 = .ok (.invokestatic 57, 3) := by decide +kernel
theorem d_B_met_4 : decode b_B_met 4 = .ok (.ifCond .eq 15, 3) := by decide +kernel
theorem d_B_met_7 : decode b_B_met 7 = .ok (.iload_n 2, 1) := by decide +kernel
theorem d_B_met_8 : decode b_B_met 8 = .ok (.invokestatic 57, 3) := by decide +kernel
theorem d_B_met_11 : decode b_B_met 11 = .ok (.ifCond .eq 8, 3) := by decide +kernel
theorem d_B_met_14 : decode b_B_met 14 = .ok (.iload_n 1, 1) := by decide +kernel
theorem d_B_met_15 : decode b_B_met 15 = .ok (.iload_n 2, 1) := by decide +kernel
theorem d_B_met_16 : decode b_B_met 16 = .ok (.if_icmp .ne 11, 3) := by decide +kernel
theorem d_B_met_19 : decode b_B_met 19 = .ok (.new 32, 3) := by decide +kernel
theorem d_B_met_22 : decode b_B_met 22 = .ok (.dup, 1) := by decide +kernel
theorem d_B_met_23 : decode b_B_met 23 = .ok (.invokespecial 34, 3) := by decide +kernel
theorem d_B_met_26 : decode b_B_met 26 = .ok (.athrow, 1) := by decide +kernel
theorem d_B_met_27 : decode b_B_met 27 = .ok (.aload_n 0, 1) := by decide +kernel
theorem d_B_met_28 : decode b_B_met 28 = .ok (.getfield 22, 3) := by decide +kernel
theorem d_B_met_31 : decode b_B_met 31 = .ok (.iload_n 1, 1) := by decide +kernel
theorem d_B_met_32 : decode b_B_met 32 = .ok (.iaload, 1) := by decide +kernel
theorem d_B_met_33 : decode b_B_met 33 = .ok (.iload_n 2, 1) := by decide +kernel
theorem d_B_met_34 : decode b_B_met 34 = .ok (.ishr, 1) := by decide +kernel
theorem d_B_met_35 : decode b_B_met 35 = .ok (.iconst 1, 1) := by decide +kernel
theorem d_B_met_36 : decode b_B_met 36 = .ok (.iand, 1) := by decide +kernel
theorem d_B_met_37 : decode b_B_met 37 = .ok (.ifCond .eq 7, 3) := by decide +kernel
theorem d_B_met_40 : decode b_B_met 40 = .ok (.iconst 1, 1) := by decide +kernel
theorem d_B_met_41 : decode b_B_met 41 = .ok (.goto 4, 3) := by decide +kernel
theorem d_B_met_44 : decode b_B_met 44 = .ok (.iconst 0, 1) := by decide +kernel
theorem d_B_met_45 : decode b_B_met 45 = .ok (.ireturn, 1) := by decide +kernel
def y_B_place : MethodName := ⟨R_B, "place", "(I)I"⟩
abbrev b_B_place : ByteArray := prog_1_method_7_code
def w_B_place : List Cond := .code y_B_place b_B_place 2 (some .int) :: TB
theorem d_B_place_0 : decode b_B_place 0 = .ok (.iload_n 1, 1) := by decide +kernel
theorem d_B_place_1 : decode b_B_place 1 = .ok (.ifCond .lt 8, 3) := by decide +kernel
theorem d_B_place_4 : decode b_B_place 4 = .ok (.iload_n 1, 1) := by decide +kernel
theorem d_B_place_5 : decode b_B_place 5 = .ok (.iconst 5, 1) := by decide +kernel
theorem d_B_place_6 : decode b_B_place 6 = .ok (.if_icmp .lt 11, 3) := by decide +kernel
theorem d_B_place_9 : decode b_B_place 9 = .ok (.new 32, 3) := by decide +kernel
theorem d_B_place_12 : decode b_B_place 12 = .ok (.dup, 1) := by decide +kernel
theorem d_B_place_13 : decode b_B_place 13 = .ok (.invokespecial 34, 3) := by decide +kernel
theorem d_B_place_16 : decode b_B_place 16 = .ok (.athrow, 1) := by decide +kernel
theorem d_B_place_17 : decode b_B_place 17 = .ok (.aload_n 0, 1) := by decide +kernel
theorem d_B_place_18 : decode b_B_place 18 = .ok (.getfield 16, 3) := by decide +kernel
theorem d_B_place_21 : decode b_B_place 21 = .ok (.iload_n 1, 1) := by decide +kernel
theorem d_B_place_22 : decode b_B_place 22 = .ok (.iaload, 1) := by decide +kernel
theorem d_B_place_23 : decode b_B_place 23 = .ok (.ireturn, 1) := by decide +kernel
def y_B_there : MethodName := ⟨R_B, "there", "(II)Z"⟩
abbrev b_B_there : ByteArray := prog_1_method_8_code
def w_B_there : List Cond := .code y_B_there b_B_there 3 (some .boolean) :: TB
theorem d_B_there_0 : decode b_B_there 0 = .ok (.iload_n 1, 1) := by decide +kernel
theorem d_B_there_1 : decode b_B_there 1 = .ok (.invokestatic 57, 3) := by decide +kernel
theorem d_B_there_4 : decode b_B_there 4 = .ok (.ifCond .eq 10, 3) := by decide +kernel
theorem d_B_there_7 : decode b_B_there 7 = .ok (.iload_n 2, 1) := by decide +kernel
theorem d_B_there_8 : decode b_B_there 8 = .ok (.invokestatic 53, 3) := by decide +kernel
theorem d_B_there_11 : decode b_B_there 11 = .ok (.ifCond .ne 11, 3) := by decide +kernel
theorem d_B_there_14 : decode b_B_there 14 = .ok (.new 32, 3) := by decide +kernel
theorem d_B_there_17 : decode b_B_there 17 = .ok (.dup, 1) := by decide +kernel
theorem d_B_there_18 : decode b_B_there 18 = .ok (.invokespecial 34, 3) := by decide +kernel
theorem d_B_there_21 : decode b_B_there 21 = .ok (.athrow, 1) := by decide +kernel
theorem d_B_there_22 : decode b_B_there 22 = .ok (.aload_n 0, 1) := by decide +kernel
theorem d_B_there_23 : decode b_B_there 23 = .ok (.iload_n 1, 1) := by decide +kernel
theorem d_B_there_24 : decode b_B_there 24 = .ok (.iload_n 2, 1) := by decide +kernel
theorem d_B_there_25 : decode b_B_there 25 = .ok (.invokevirtual 60, 3) := by decide +kernel
theorem d_B_there_28 : decode b_B_there 28 = .ok (.ireturn, 1) := by decide +kernel
def y_B_set : MethodName := ⟨R_B, "set", "(II)I"⟩
abbrev b_B_set : ByteArray := prog_1_method_9_code
def w_B_set : List Cond := .code y_B_set b_B_set 4 (some .int) :: TB
theorem d_B_set_0 : decode b_B_set 0 = .ok (.iload_n 1, 1) := by decide +kernel
theorem d_B_set_1 : decode b_B_set 1 = .ok (.ifCond .lt 11, 3) := by decide +kernel
theorem d_B_set_4 : decode b_B_set 4 = .ok (.iload_n 1, 1) := by decide +kernel
theorem d_B_set_5 : decode b_B_set 5 = .ok (.getstatic 64, 3) := by decide +kernel
theorem d_B_set_8 : decode b_B_set 8 = .ok (.arraylength, 1) := by decide +kernel
theorem d_B_set_9 : decode b_B_set 9 = .ok (.if_icmp .lt 11, 3) := by decide +kernel
theorem d_B_set_12 : decode b_B_set 12 = .ok (.new 32, 3) := by decide +kernel
theorem d_B_set_15 : decode b_B_set 15 = .ok (.dup, 1) := by decide +kernel
theorem d_B_set_16 : decode b_B_set 16 = .ok (.invokespecial 34, 3) := by decide +kernel
theorem d_B_set_19 : decode b_B_set 19 = .ok (.athrow, 1) := by decide +kernel
theorem d_B_set_20 : decode b_B_set 20 = .ok (.iload_n 2, 1) := by decide +kernel
theorem d_B_set_21 : decode b_B_set 21 = .ok (.ifCond .lt 10, 3) := by decide +kernel
theorem d_B_set_24 : decode b_B_set 24 = .ok (.iload_n 2, 1) := by decide +kernel
theorem d_B_set_25 : decode b_B_set 25 = .ok (.sipush 255, 3) := by decide +kernel
theorem d_B_set_28 : decode b_B_set 28 = .ok (.if_icmp .le 11, 3) := by decide +kernel
theorem d_B_set_31 : decode b_B_set 31 = .ok (.new 35, 3) := by decide +kernel
theorem d_B_set_34 : decode b_B_set 34 = .ok (.dup, 1) := by decide +kernel
theorem d_B_set_35 : decode b_B_set 35 = .ok (.invokespecial 37, 3) := by decide +kernel
theorem d_B_set_38 : decode b_B_set 38 = .ok (.athrow, 1) := by decide +kernel
theorem d_B_set_39 : decode b_B_set 39 = .ok (.aload_n 0, 1) := by decide +kernel
theorem d_B_set_40 : decode b_B_set 40 = .ok (.getfield 28, 3) := by decide +kernel
theorem d_B_set_43 : decode b_B_set 43 = .ok (.getfield 67, 3) := by decide +kernel
theorem d_B_set_46 : decode b_B_set 46 = .ok (.istore_n 3, 1) := by decide +kernel
theorem d_B_set_47 : decode b_B_set 47 = .ok (.aload_n 0, 1) := by decide +kernel
theorem d_B_set_48 : decode b_B_set 48 = .ok (.getfield 28, 3) := by decide +kernel
theorem d_B_set_51 : decode b_B_set 51 = .ok (.getstatic 64, 3) := by decide +kernel
theorem d_B_set_54 : decode b_B_set 54 = .ok (.iload_n 1, 1) := by decide +kernel
theorem d_B_set_55 : decode b_B_set 55 = .ok (.iaload, 1) := by decide +kernel
theorem d_B_set_56 : decode b_B_set 56 = .ok (.iload_n 2, 1) := by decide +kernel
theorem d_B_set_57 : decode b_B_set 57 = .ok (.invokevirtual 70, 3) := by decide +kernel
theorem d_B_set_60 : decode b_B_set 60 = .ok (.iload_n 3, 1) := by decide +kernel
theorem d_B_set_61 : decode b_B_set 61 = .ok (.ireturn, 1) := by decide +kernel
def y_B_count : MethodName := ⟨R_B, "count", "(I)I"⟩
abbrev b_B_count : ByteArray := prog_1_method_10_code
def w_B_count : List Cond := .code y_B_count b_B_count 2 (some .int) :: TB
theorem d_B_count_0 : decode b_B_count 0 = .ok (.iload_n 1, 1) := by decide +kernel
theorem d_B_count_1 : decode b_B_count 1 = .ok (.tableswitch 83 0 5 #[39, 44, 49, 57, 73, 78], 39) := by decide +kernel
theorem d_B_count_40 : decode b_B_count 40 = .ok (.aload_n 0, 1) := by decide +kernel
theorem d_B_count_41 : decode b_B_count 41 = .ok (.getfield 49, 3) := by decide +kernel
theorem d_B_count_44 : decode b_B_count 44 = .ok (.ireturn, 1) := by decide +kernel
theorem d_B_count_45 : decode b_B_count 45 = .ok (.aload_n 0, 1) := by decide +kernel
theorem d_B_count_46 : decode b_B_count 46 = .ok (.getfield 73, 3) := by decide +kernel
theorem d_B_count_49 : decode b_B_count 49 = .ok (.ireturn, 1) := by decide +kernel
theorem d_B_count_50 : decode b_B_count 50 = .ok (.aload_n 0, 1) := by decide +kernel
theorem d_B_count_51 : decode b_B_count 51 = .ok (.getfield 28, 3) := by decide +kernel
theorem d_B_count_54 : decode b_B_count 54 = .ok (.getfield 67, 3) := by decide +kernel
theorem d_B_count_57 : decode b_B_count 57 = .ok (.ireturn, 1) := by decide +kernel
theorem d_B_count_58 : decode b_B_count 58 = .ok (.aload_n 0, 1) := by decide +kernel
theorem d_B_count_59 : decode b_B_count 59 = .ok (.getfield 28, 3) := by decide +kernel
theorem d_B_count_62 : decode b_B_count 62 = .ok (.getfield 76, 3) := by decide +kernel
theorem d_B_count_65 : decode b_B_count 65 = .ok (.ifCond .eq 7, 3) := by decide +kernel
theorem d_B_count_68 : decode b_B_count 68 = .ok (.iconst 1, 1) := by decide +kernel
theorem d_B_count_69 : decode b_B_count 69 = .ok (.goto 4, 3) := by decide +kernel
theorem d_B_count_72 : decode b_B_count 72 = .ok (.iconst 0, 1) := by decide +kernel
theorem d_B_count_73 : decode b_B_count 73 = .ok (.ireturn, 1) := by decide +kernel
theorem d_B_count_74 : decode b_B_count 74 = .ok (.aload_n 0, 1) := by decide +kernel
theorem d_B_count_75 : decode b_B_count 75 = .ok (.invokevirtual 80, 3) := by decide +kernel
theorem d_B_count_78 : decode b_B_count 78 = .ok (.ireturn, 1) := by decide +kernel
theorem d_B_count_79 : decode b_B_count 79 = .ok (.aload_n 0, 1) := by decide +kernel
theorem d_B_count_80 : decode b_B_count 80 = .ok (.getfield 84, 3) := by decide +kernel
theorem d_B_count_83 : decode b_B_count 83 = .ok (.ireturn, 1) := by decide +kernel
theorem d_B_count_84 : decode b_B_count 84 = .ok (.new 32, 3) := by decide +kernel
theorem d_B_count_87 : decode b_B_count 87 = .ok (.dup, 1) := by decide +kernel
theorem d_B_count_88 : decode b_B_count 88 = .ok (.invokespecial 34, 3) := by decide +kernel
theorem d_B_count_91 : decode b_B_count 91 = .ok (.athrow, 1) := by decide +kernel
