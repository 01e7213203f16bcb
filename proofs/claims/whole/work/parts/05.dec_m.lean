def y_M_thrown : MethodName := ⟨R_M, "thrown", "()I"⟩
abbrev b_M_thrown : ByteArray := prog_4_method_2_code
def w_M_thrown : List Cond := .code y_M_thrown b_M_thrown 1 (some .int) :: TB
theorem d_M_thrown_0 : decode b_M_thrown 0 = .ok (.aload_n 0, 1) := by decide +kernel
theorem d_M_thrown_1 : decode b_M_thrown 1 = .ok (.getfield 36, 3) := by decide +kernel
theorem d_M_thrown_4 : decode b_M_thrown 4 = .ok (.ireturn, 1) := by decide +kernel
def y_M_goes : MethodName := ⟨R_M, "goes", "(ZZ)Z"⟩
abbrev b_M_goes : ByteArray := prog_4_method_3_code
def w_M_goes : List Cond := .code y_M_goes b_M_goes 3 (some .boolean) :: TB
theorem d_M_goes_0 : decode b_M_goes 0 = .ok (.aload_n 0, 1) := by decide +kernel
theorem d_M_goes_1 : decode b_M_goes 1 = .ok (.iload_n 1, 1) := by decide +kernel
theorem d_M_goes_2 : decode b_M_goes 2 = .ok (.ifCond .ne 7, 3) := by decide +kernel
theorem d_M_goes_5 : decode b_M_goes 5 = .ok (.iconst 1, 1) := by decide +kernel
theorem d_M_goes_6 : decode b_M_goes 6 = .ok (.goto 12, 3) := by decide +kernel
theorem d_M_goes_9 : decode b_M_goes 9 = .ok (.iload_n 2, 1) := by decide +kernel
theorem d_M_goes_10 : decode b_M_goes 10 = .ok (.ifCond .ne 7, 3) := by decide +kernel
theorem d_M_goes_13 : decode b_M_goes 13 = .ok (.iconst 2, 1) := by decide +kernel
theorem d_M_goes_14 : decode b_M_goes 14 = .ok (.goto 4, 3) := by decide +kernel
theorem d_M_goes_17 : decode b_M_goes 17 = .ok (.iconst 0, 1) := by decide +kernel
theorem d_M_goes_18 : decode b_M_goes 18 = .ok (.putfield 36, 3) := by decide +kernel
theorem d_M_goes_21 : decode b_M_goes 21 = .ok (.aload_n 0, 1) := by decide +kernel
theorem d_M_goes_22 : decode b_M_goes 22 = .ok (.getfield 36, 3) := by decide +kernel
theorem d_M_goes_25 : decode b_M_goes 25 = .ok (.ifCond .ne 7, 3) := by decide +kernel
theorem d_M_goes_28 : decode b_M_goes 28 = .ok (.iconst 1, 1) := by decide +kernel
theorem d_M_goes_29 : decode b_M_goes 29 = .ok (.goto 4, 3) := by decide +kernel
theorem d_M_goes_32 : decode b_M_goes 32 = .ok (.iconst 0, 1) := by decide +kernel
theorem d_M_goes_33 : decode b_M_goes 33 = .ok (.ireturn, 1) := by decide +kernel
def y_M_bit : MethodName := ⟨R_M, "bit", "(II)Z"⟩
abbrev b_M_bit : ByteArray := prog_4_method_4_code
def w_M_bit : List Cond := .code y_M_bit b_M_bit 3 (some .boolean) :: TB
theorem d_M_bit_0 : decode b_M_bit 0 = .ok (.aload_n 0, 1) := by decide +kernel
theorem d_M_bit_1 : decode b_M_bit 1 = .ok (.getfield 7, 3) := by decide +kernel
theorem d_M_bit_4 : decode b_M_bit 4 = .ok (.iload_n 1, 1) := by decide +kernel
theorem d_M_bit_5 : decode b_M_bit 5 = .ok (.iaload, 1) := by decide +kernel
theorem d_M_bit_6 : decode b_M_bit 6 = .ok (.iload_n 2, 1) := by decide +kernel
theorem d_M_bit_7 : decode b_M_bit 7 = .ok (.ishr, 1) := by decide +kernel
theorem d_M_bit_8 : decode b_M_bit 8 = .ok (.iconst 1, 1) := by decide +kernel
theorem d_M_bit_9 : decode b_M_bit 9 = .ok (.iand, 1) := by decide +kernel
theorem d_M_bit_10 : decode b_M_bit 10 = .ok (.iconst 1, 1) := by decide +kernel
theorem d_M_bit_11 : decode b_M_bit 11 = .ok (.if_icmp .ne 7, 3) := by decide +kernel
theorem d_M_bit_14 : decode b_M_bit 14 = .ok (.iconst 1, 1) := by decide +kernel
theorem d_M_bit_15 : decode b_M_bit 15 = .ok (.goto 4, 3) := by decide +kernel
theorem d_M_bit_18 : decode b_M_bit 18 = .ok (.iconst 0, 1) := by decide +kernel
theorem d_M_bit_19 : decode b_M_bit 19 = .ok (.ireturn, 1) := by decide +kernel
def y_M_copiesOf : MethodName := ⟨R_M, "copiesOf", "(I)I"⟩
abbrev b_M_copiesOf : ByteArray := prog_4_method_5_code
def w_M_copiesOf : List Cond := .code y_M_copiesOf b_M_copiesOf 2 (some .int) :: TB
theorem d_M_copiesOf_0 : decode b_M_copiesOf 0 = .ok (.aload_n 0, 1) := by decide +kernel
theorem d_M_copiesOf_1 : decode b_M_copiesOf 1 = .ok (.getfield 7, 3) := by decide +kernel
theorem d_M_copiesOf_4 : decode b_M_copiesOf 4 = .ok (.bipush 17, 2) := by decide +kernel
theorem d_M_copiesOf_6 : decode b_M_copiesOf 6 = .ok (.iload_n 1, 1) := by decide +kernel
theorem d_M_copiesOf_7 : decode b_M_copiesOf 7 = .ok (.iadd, 1) := by decide +kernel
theorem d_M_copiesOf_8 : decode b_M_copiesOf 8 = .ok (.iaload, 1) := by decide +kernel
theorem d_M_copiesOf_9 : decode b_M_copiesOf 9 = .ok (.bipush 7, 2) := by decide +kernel
theorem d_M_copiesOf_11 : decode b_M_copiesOf 11 = .ok (.iand, 1) := by decide +kernel
theorem d_M_copiesOf_12 : decode b_M_copiesOf 12 = .ok (.ireturn, 1) := by decide +kernel
def y_M_wide : MethodName := ⟨R_M, "wide", "(I)I"⟩
abbrev b_M_wide : ByteArray := prog_4_method_6_code
def w_M_wide : List Cond := .code y_M_wide b_M_wide 2 (some .int) :: TB
theorem d_M_wide_0 : decode b_M_wide 0 = .ok (.aload_n 0, 1) := by decide +kernel
theorem d_M_wide_1 : decode b_M_wide 1 = .ok (.iload_n 1, 1) := by decide +kernel
theorem d_M_wide_2 : decode b_M_wide 2 = .ok (.invokevirtual 39, 3) := by decide +kernel
theorem d_M_wide_5 : decode b_M_wide 5 = .ok (.iconst 5, 1) := by decide +kernel
theorem d_M_wide_6 : decode b_M_wide 6 = .ok (.if_icmp .ne 7, 3) := by decide +kernel
theorem d_M_wide_9 : decode b_M_wide 9 = .ok (.iconst 2, 1) := by decide +kernel
theorem d_M_wide_10 : decode b_M_wide 10 = .ok (.goto 18, 3) := by decide +kernel
theorem d_M_wide_13 : decode b_M_wide 13 = .ok (.aload_n 0, 1) := by decide +kernel
theorem d_M_wide_14 : decode b_M_wide 14 = .ok (.iload_n 1, 1) := by decide +kernel
theorem d_M_wide_15 : decode b_M_wide 15 = .ok (.invokevirtual 39, 3) := by decide +kernel
theorem d_M_wide_18 : decode b_M_wide 18 = .ok (.bipush 7, 2) := by decide +kernel
theorem d_M_wide_20 : decode b_M_wide 20 = .ok (.if_icmp .ne 7, 3) := by decide +kernel
theorem d_M_wide_23 : decode b_M_wide 23 = .ok (.iconst 4, 1) := by decide +kernel
theorem d_M_wide_24 : decode b_M_wide 24 = .ok (.goto 4, 3) := by decide +kernel
theorem d_M_wide_27 : decode b_M_wide 27 = .ok (.iconst 1, 1) := by decide +kernel
theorem d_M_wide_28 : decode b_M_wide 28 = .ok (.ireturn, 1) := by decide +kernel
def y_M_lock : MethodName := ⟨R_M, "lock", "(II)V"⟩
abbrev b_M_lock : ByteArray := prog_4_method_7_code
def w_M_lock : List Cond := .code y_M_lock b_M_lock 4 none :: TB
theorem d_M_lock_0 : decode b_M_lock 0 = .ok (.aload_n 0, 1) := by decide +kernel
theorem d_M_lock_1 : decode b_M_lock 1 = .ok (.bipush 21, 2) := by decide +kernel
theorem d_M_lock_3 : decode b_M_lock 3 = .ok (.iload_n 1, 1) := by decide +kernel
theorem d_M_lock_4 : decode b_M_lock 4 = .ok (.iadd, 1) := by decide +kernel
theorem d_M_lock_5 : decode b_M_lock 5 = .ok (.iconst 1, 1) := by decide +kernel
theorem d_M_lock_6 : decode b_M_lock 6 = .ok (.invokevirtual 43, 3) := by decide +kernel
theorem d_M_lock_9 : decode b_M_lock 9 = .ok (.ifCond .eq 15, 3) := by decide +kernel
theorem d_M_lock_12 : decode b_M_lock 12 = .ok (.iload_n 2, 1) := by decide +kernel
theorem d_M_lock_13 : decode b_M_lock 13 = .ok (.iconst 1, 1) := by decide +kernel
theorem d_M_lock_14 : decode b_M_lock 14 = .ok (.ishr, 1) := by decide +kernel
theorem d_M_lock_15 : decode b_M_lock 15 = .ok (.iconst 1, 1) := by decide +kernel
theorem d_M_lock_16 : decode b_M_lock 16 = .ok (.iand, 1) := by decide +kernel
theorem d_M_lock_17 : decode b_M_lock 17 = .ok (.ifCond .ne 7, 3) := by decide +kernel
theorem d_M_lock_20 : decode b_M_lock 20 = .ok (.iconst 1, 1) := by decide +kernel
theorem d_M_lock_21 : decode b_M_lock 21 = .ok (.goto 4, 3) := by decide +kernel
theorem d_M_lock_24 : decode b_M_lock 24 = .ok (.iconst 0, 1) := by decide +kernel
theorem d_M_lock_25 : decode b_M_lock 25 = .ok (.istore_n 3, 1) := by decide +kernel
theorem d_M_lock_26 : decode b_M_lock 26 = .ok (.iload_n 3, 1) := by decide +kernel
theorem d_M_lock_27 : decode b_M_lock 27 = .ok (.ifCond .eq 29, 3) := by decide +kernel
theorem d_M_lock_30 : decode b_M_lock 30 = .ok (.aload_n 0, 1) := by decide +kernel
theorem d_M_lock_31 : decode b_M_lock 31 = .ok (.getfield 13, 3) := by decide +kernel
theorem d_M_lock_34 : decode b_M_lock 34 = .ok (.iconst 2, 1) := by decide +kernel
theorem d_M_lock_35 : decode b_M_lock 35 = .ok (.iload_n 1, 1) := by decide +kernel
theorem d_M_lock_36 : decode b_M_lock 36 = .ok (.iadd, 1) := by decide +kernel
theorem d_M_lock_37 : decode b_M_lock 37 = .ok (.aload_n 0, 1) := by decide +kernel
theorem d_M_lock_38 : decode b_M_lock 38 = .ok (.getfield 13, 3) := by decide +kernel
theorem d_M_lock_41 : decode b_M_lock 41 = .ok (.iload_n 1, 1) := by decide +kernel
theorem d_M_lock_42 : decode b_M_lock 42 = .ok (.iaload, 1) := by decide +kernel
theorem d_M_lock_43 : decode b_M_lock 43 = .ok (.iconst 4, 1) := by decide +kernel
theorem d_M_lock_44 : decode b_M_lock 44 = .ok (.aload_n 0, 1) := by decide +kernel
theorem d_M_lock_45 : decode b_M_lock 45 = .ok (.iload_n 1, 1) := by decide +kernel
theorem d_M_lock_46 : decode b_M_lock 46 = .ok (.invokevirtual 47, 3) := by decide +kernel
theorem d_M_lock_49 : decode b_M_lock 49 = .ok (.imul, 1) := by decide +kernel
theorem d_M_lock_50 : decode b_M_lock 50 = .ok (.iadd, 1) := by decide +kernel
theorem d_M_lock_51 : decode b_M_lock 51 = .ok (.sipush 160, 3) := by decide +kernel
theorem d_M_lock_54 : decode b_M_lock 54 = .ok (.irem, 1) := by decide +kernel
theorem d_M_lock_55 : decode b_M_lock 55 = .ok (.iastore, 1) := by decide +kernel
theorem d_M_lock_56 : decode b_M_lock 56 = .ok (.return_, 1) := by decide +kernel
def y_M_reset : MethodName := ⟨R_M, "reset", "(I)V"⟩
abbrev b_M_reset : ByteArray := prog_4_method_8_code
def w_M_reset : List Cond := .code y_M_reset b_M_reset 3 none :: TB
theorem d_M_reset_0 : decode b_M_reset 0 = .ok (.aload_n 0, 1) := by decide +kernel
theorem d_M_reset_1 : decode b_M_reset 1 = .ok (.getfield 50, 3) := by decide +kernel
theorem d_M_reset_4 : decode b_M_reset 4 = .ok (.bipush 68, 2) := by decide +kernel
theorem d_M_reset_6 : decode b_M_reset 6 = .ok (.isub, 1) := by decide +kernel
theorem d_M_reset_7 : decode b_M_reset 7 = .ok (.istore_n 2, 1) := by decide +kernel
theorem d_M_reset_8 : decode b_M_reset 8 = .ok (.iload_n 1, 1) := by decide +kernel
theorem d_M_reset_9 : decode b_M_reset 9 = .ok (.iconst 2, 1) := by decide +kernel
theorem d_M_reset_10 : decode b_M_reset 10 = .ok (.if_icmp .ge 27, 3) := by decide +kernel
theorem d_M_reset_13 : decode b_M_reset 13 = .ok (.aload_n 0, 1) := by decide +kernel
theorem d_M_reset_14 : decode b_M_reset 14 = .ok (.getfield 13, 3) := by decide +kernel
theorem d_M_reset_17 : decode b_M_reset 17 = .ok (.iload_n 1, 1) := by decide +kernel
theorem d_M_reset_18 : decode b_M_reset 18 = .ok (.iload_n 2, 1) := by decide +kernel
theorem d_M_reset_19 : decode b_M_reset 19 = .ok (.ifCond .ge 7, 3) := by decide +kernel
theorem d_M_reset_22 : decode b_M_reset 22 = .ok (.iconst 3, 1) := by decide +kernel
theorem d_M_reset_23 : decode b_M_reset 23 = .ok (.goto 10, 3) := by decide +kernel
theorem d_M_reset_26 : decode b_M_reset 26 = .ok (.iload_n 2, 1) := by decide +kernel
theorem d_M_reset_27 : decode b_M_reset 27 = .ok (.iconst 5, 1) := by decide +kernel
theorem d_M_reset_28 : decode b_M_reset 28 = .ok (.iadd, 1) := by decide +kernel
theorem d_M_reset_29 : decode b_M_reset 29 = .ok (.sipush 160, 3) := by decide +kernel
theorem d_M_reset_32 : decode b_M_reset 32 = .ok (.irem, 1) := by decide +kernel
theorem d_M_reset_33 : decode b_M_reset 33 = .ok (.iastore, 1) := by decide +kernel
theorem d_M_reset_34 : decode b_M_reset 34 = .ok (.goto 24, 3) := by decide +kernel
theorem d_M_reset_37 : decode b_M_reset 37 = .ok (.aload_n 0, 1) := by decide +kernel
theorem d_M_reset_38 : decode b_M_reset 38 = .ok (.getfield 13, 3) := by decide +kernel
theorem d_M_reset_41 : decode b_M_reset 41 = .ok (.iload_n 1, 1) := by decide +kernel
theorem d_M_reset_42 : decode b_M_reset 42 = .ok (.iload_n 2, 1) := by decide +kernel
theorem d_M_reset_43 : decode b_M_reset 43 = .ok (.ifCond .ge 7, 3) := by decide +kernel
theorem d_M_reset_46 : decode b_M_reset 46 = .ok (.iconst 2, 1) := by decide +kernel
theorem d_M_reset_47 : decode b_M_reset 47 = .ok (.goto 10, 3) := by decide +kernel
theorem d_M_reset_50 : decode b_M_reset 50 = .ok (.iload_n 2, 1) := by decide +kernel
theorem d_M_reset_51 : decode b_M_reset 51 = .ok (.iconst 4, 1) := by decide +kernel
theorem d_M_reset_52 : decode b_M_reset 52 = .ok (.iadd, 1) := by decide +kernel
theorem d_M_reset_53 : decode b_M_reset 53 = .ok (.sipush 160, 3) := by decide +kernel
theorem d_M_reset_56 : decode b_M_reset 56 = .ok (.irem, 1) := by decide +kernel
theorem d_M_reset_57 : decode b_M_reset 57 = .ok (.iastore, 1) := by decide +kernel
theorem d_M_reset_58 : decode b_M_reset 58 = .ok (.return_, 1) := by decide +kernel
def y_M_move : MethodName := ⟨R_M, "move", "()V"⟩
abbrev b_M_move : ByteArray := prog_4_method_9_code
def w_M_move : List Cond := .code y_M_move b_M_move 3 none :: TB
theorem d_M_move_0 : decode b_M_move 0 = .ok (.iconst 0, 1) := by decide +kernel
theorem d_M_move_1 : decode b_M_move 1 = .ok (.istore_n 1, 1) := by decide +kernel
theorem d_M_move_2 : decode b_M_move 2 = .ok (.iload_n 1, 1) := by decide +kernel
theorem d_M_move_3 : decode b_M_move 3 = .ok (.iconst 5, 1) := by decide +kernel
theorem d_M_move_4 : decode b_M_move 4 = .ok (.if_icmp .ge 59, 3) := by decide +kernel
theorem d_M_move_7 : decode b_M_move 7 = .ok (.aload_n 0, 1) := by decide +kernel
theorem d_M_move_8 : decode b_M_move 8 = .ok (.getfield 7, 3) := by decide +kernel
theorem d_M_move_11 : decode b_M_move 11 = .ok (.bipush 23, 2) := by decide +kernel
theorem d_M_move_13 : decode b_M_move 13 = .ok (.iload_n 1, 1) := by decide +kernel
theorem d_M_move_14 : decode b_M_move 14 = .ok (.iadd, 1) := by decide +kernel
theorem d_M_move_15 : decode b_M_move 15 = .ok (.iaload, 1) := by decide +kernel
theorem d_M_move_16 : decode b_M_move 16 = .ok (.bipush 16, 2) := by decide +kernel
theorem d_M_move_18 : decode b_M_move 18 = .ok (.idiv, 1) := by decide +kernel
theorem d_M_move_19 : decode b_M_move 19 = .ok (.istore_n 2, 1) := by decide +kernel
theorem d_M_move_20 : decode b_M_move 20 = .ok (.iload_n 2, 1) := by decide +kernel
theorem d_M_move_21 : decode b_M_move 21 = .ok (.bipush 7, 2) := by decide +kernel
theorem d_M_move_23 : decode b_M_move 23 = .ok (.if_icmp .le 10, 3) := by decide +kernel
theorem d_M_move_26 : decode b_M_move 26 = .ok (.iload_n 2, 1) := by decide +kernel
theorem d_M_move_27 : decode b_M_move 27 = .ok (.bipush 16, 2) := by decide +kernel
theorem d_M_move_29 : decode b_M_move 29 = .ok (.isub, 1) := by decide +kernel
theorem d_M_move_30 : decode b_M_move 30 = .ok (.goto 4, 3) := by decide +kernel
theorem d_M_move_33 : decode b_M_move 33 = .ok (.iload_n 2, 1) := by decide +kernel
theorem d_M_move_34 : decode b_M_move 34 = .ok (.istore_n 2, 1) := by decide +kernel
theorem d_M_move_35 : decode b_M_move 35 = .ok (.aload_n 0, 1) := by decide +kernel
theorem d_M_move_36 : decode b_M_move 36 = .ok (.getfield 13, 3) := by decide +kernel
theorem d_M_move_39 : decode b_M_move 39 = .ok (.iload_n 1, 1) := by decide +kernel
theorem d_M_move_40 : decode b_M_move 40 = .ok (.aload_n 0, 1) := by decide +kernel
theorem d_M_move_41 : decode b_M_move 41 = .ok (.getfield 13, 3) := by decide +kernel
theorem d_M_move_44 : decode b_M_move 44 = .ok (.iload_n 1, 1) := by decide +kernel
theorem d_M_move_45 : decode b_M_move 45 = .ok (.iaload, 1) := by decide +kernel
theorem d_M_move_46 : decode b_M_move 46 = .ok (.iload_n 2, 1) := by decide +kernel
theorem d_M_move_47 : decode b_M_move 47 = .ok (.isub, 1) := by decide +kernel
theorem d_M_move_48 : decode b_M_move 48 = .ok (.sipush 160, 3) := by decide +kernel
theorem d_M_move_51 : decode b_M_move 51 = .ok (.iadd, 1) := by decide +kernel
theorem d_M_move_52 : decode b_M_move 52 = .ok (.sipush 160, 3) := by decide +kernel
theorem d_M_move_55 : decode b_M_move 55 = .ok (.irem, 1) := by decide +kernel
theorem d_M_move_56 : decode b_M_move 56 = .ok (.iastore, 1) := by decide +kernel
theorem d_M_move_57 : decode b_M_move 57 = .ok (.iinc 1 1, 3) := by decide +kernel
theorem d_M_move_60 : decode b_M_move 60 = .ok (.goto (-58), 3) := by decide +kernel
theorem d_M_move_63 : decode b_M_move 63 = .ok (.return_, 1) := by decide +kernel
def y_M_special : MethodName := ⟨R_M, "special", "(I)V"⟩
abbrev b_M_special : ByteArray := prog_4_method_10_code
def w_M_special : List Cond := .code y_M_special b_M_special 3 none :: TB
theorem d_M_special_0 : decode b_M_special 0 = .ok (.iload_n 1, 1) := by decide +kernel
theorem d_M_special_1 : decode b_M_special 1 = .ok (.bipush 33, 2) := by decide +kernel
theorem d_M_special_3 : decode b_M_special 3 = .ok (.if_icmp .ge 14, 3) := by decide +kernel
theorem d_M_special_6 : decode b_M_special 6 = .ok (.aload_n 0, 1) := by decide +kernel
theorem d_M_special_7 : decode b_M_special 7 = .ok (.iload_n 1, 1) := by decide +kernel
theorem d_M_special_8 : decode b_M_special 8 = .ok (.bipush 28, 2) := by decide +kernel
theorem d_M_special_10 : decode b_M_special 10 = .ok (.isub, 1) := by decide +kernel
theorem d_M_special_11 : decode b_M_special 11 = .ok (.invokevirtual 53, 3) := by decide +kernel
theorem d_M_special_14 : decode b_M_special 14 = .ok (.goto 68, 3) := by decide +kernel
theorem d_M_special_17 : decode b_M_special 17 = .ok (.iload_n 1, 1) := by decide +kernel
theorem d_M_special_18 : decode b_M_special 18 = .ok (.bipush 33, 2) := by decide +kernel
theorem d_M_special_20 : decode b_M_special 20 = .ok (.if_icmp .ne 10, 3) := by decide +kernel
theorem d_M_special_23 : decode b_M_special 23 = .ok (.aload_n 0, 1) := by decide +kernel
theorem d_M_special_24 : decode b_M_special 24 = .ok (.invokevirtual 57, 3) := by decide +kernel
theorem d_M_special_27 : decode b_M_special 27 = .ok (.goto 55, 3) := by decide +kernel
theorem d_M_special_30 : decode b_M_special 30 = .ok (.iload_n 1, 1) := by decide +kernel
theorem d_M_special_31 : decode b_M_special 31 = .ok (.bipush 34, 2) := by decide +kernel
theorem d_M_special_33 : decode b_M_special 33 = .ok (.if_icmp .ne 28, 3) := by decide +kernel
theorem d_M_special_36 : decode b_M_special 36 = .ok (.bipush 23, 2) := by decide +kernel
theorem d_M_special_38 : decode b_M_special 38 = .ok (.istore_n 2, 1) := by decide +kernel
theorem d_M_special_39 : decode b_M_special 39 = .ok (.iload_n 2, 1) := by decide +kernel
theorem d_M_special_40 : decode b_M_special 40 = .ok (.bipush 28, 2) := by decide +kernel
theorem d_M_special_42 : decode b_M_special 42 = .ok (.if_icmp .ge 16, 3) := by decide +kernel
theorem d_M_special_45 : decode b_M_special 45 = .ok (.aload_n 0, 1) := by decide +kernel
theorem d_M_special_46 : decode b_M_special 46 = .ok (.getfield 7, 3) := by decide +kernel
theorem d_M_special_49 : decode b_M_special 49 = .ok (.iload_n 2, 1) := by decide +kernel
theorem d_M_special_50 : decode b_M_special 50 = .ok (.iconst 0, 1) := by decide +kernel
theorem d_M_special_51 : decode b_M_special 51 = .ok (.iastore, 1) := by decide +kernel
theorem d_M_special_52 : decode b_M_special 52 = .ok (.iinc 2 1, 3) := by decide +kernel
theorem d_M_special_55 : decode b_M_special 55 = .ok (.goto (-16), 3) := by decide +kernel
theorem d_M_special_58 : decode b_M_special 58 = .ok (.goto 24, 3) := by decide +kernel
theorem d_M_special_61 : decode b_M_special 61 = .ok (.iconst 0, 1) := by decide +kernel
theorem d_M_special_62 : decode b_M_special 62 = .ok (.istore_n 2, 1) := by decide +kernel
theorem d_M_special_63 : decode b_M_special 63 = .ok (.iload_n 2, 1) := by decide +kernel
theorem d_M_special_64 : decode b_M_special 64 = .ok (.bipush 36, 2) := by decide +kernel
theorem d_M_special_66 : decode b_M_special 66 = .ok (.if_icmp .ge 16, 3) := by decide +kernel
theorem d_M_special_69 : decode b_M_special 69 = .ok (.aload_n 0, 1) := by decide +kernel
theorem d_M_special_70 : decode b_M_special 70 = .ok (.getfield 22, 3) := by decide +kernel
theorem d_M_special_73 : decode b_M_special 73 = .ok (.iload_n 2, 1) := by decide +kernel
theorem d_M_special_74 : decode b_M_special 74 = .ok (.iconst 0, 1) := by decide +kernel
theorem d_M_special_75 : decode b_M_special 75 = .ok (.bastore, 1) := by decide +kernel
theorem d_M_special_76 : decode b_M_special 76 = .ok (.iinc 2 1, 3) := by decide +kernel
theorem d_M_special_79 : decode b_M_special 79 = .ok (.goto (-16), 3) := by decide +kernel
theorem d_M_special_82 : decode b_M_special 82 = .ok (.return_, 1) := by decide +kernel
def y_M_write : MethodName := ⟨R_M, "write", "(II)V"⟩
abbrev b_M_write : ByteArray := prog_4_method_11_code
def w_M_write : List Cond := .code y_M_write b_M_write 3 none :: TB
theorem d_M_write_0 : decode b_M_write 0 = .ok (.aload_n 0, 1) := by decide +kernel
theorem d_M_write_1 : decode b_M_write 1 = .ok (.iload_n 1, 1) := by decide +kernel
theorem d_M_write_2 : decode b_M_write 2 = .ok (.ifCond .lt 13, 3) := by decide +kernel
theorem d_M_write_5 : decode b_M_write 5 = .ok (.iload_n 1, 1) := by decide +kernel
theorem d_M_write_6 : decode b_M_write 6 = .ok (.bipush 35, 2) := by decide +kernel
theorem d_M_write_8 : decode b_M_write 8 = .ok (.if_icmp .gt 7, 3) := by decide +kernel
theorem d_M_write_11 : decode b_M_write 11 = .ok (.iconst 1, 1) := by decide +kernel
theorem d_M_write_12 : decode b_M_write 12 = .ok (.goto 4, 3) := by decide +kernel
theorem d_M_write_15 : decode b_M_write 15 = .ok (.iconst 0, 1) := by decide +kernel
theorem d_M_write_16 : decode b_M_write 16 = .ok (.iload_n 2, 1) := by decide +kernel
theorem d_M_write_17 : decode b_M_write 17 = .ok (.ifCond .lt 14, 3) := by decide +kernel
theorem d_M_write_20 : decode b_M_write 20 = .ok (.iload_n 2, 1) := by decide +kernel
theorem d_M_write_21 : decode b_M_write 21 = .ok (.sipush 255, 3) := by decide +kernel
theorem d_M_write_24 : decode b_M_write 24 = .ok (.if_icmp .gt 7, 3) := by decide +kernel
theorem d_M_write_27 : decode b_M_write 27 = .ok (.iconst 1, 1) := by decide +kernel
theorem d_M_write_28 : decode b_M_write 28 = .ok (.goto 4, 3) := by decide +kernel
theorem d_M_write_31 : decode b_M_write 31 = .ok (.iconst 0, 1) := by decide +kernel
theorem d_M_write_32 : decode b_M_write 32 = .ok (.invokevirtual 60, 3) := by decide +kernel
theorem d_M_write_35 : decode b_M_write 35 = .ok (.ifCond .ne 4, 3) := by decide +kernel
theorem d_M_write_38 : decode b_M_write 38 = .ok (.return_, 1) := by decide +kernel
theorem d_M_write_39 : decode b_M_write 39 = .ok (.iload_n 1, 1) := by decide +kernel
theorem d_M_write_40 : decode b_M_write 40 = .ok (.bipush 27, 2) := by decide +kernel
theorem d_M_write_42 : decode b_M_write 42 = .ok (.if_icmp .le 9, 3) := by decide +kernel
theorem d_M_write_45 : decode b_M_write 45 = .ok (.aload_n 0, 1) := by decide +kernel
theorem d_M_write_46 : decode b_M_write 46 = .ok (.iload_n 1, 1) := by decide +kernel
theorem d_M_write_47 : decode b_M_write 47 = .ok (.invokevirtual 64, 3) := by decide +kernel
theorem d_M_write_50 : decode b_M_write 50 = .ok (.return_, 1) := by decide +kernel
theorem d_M_write_51 : decode b_M_write 51 = .ok (.iload_n 1, 1) := by decide +kernel
theorem d_M_write_52 : decode b_M_write 52 = .ok (.bipush 9, 2) := by decide +kernel
theorem d_M_write_54 : decode b_M_write 54 = .ok (.if_icmp .ne 25, 3) := by decide +kernel
theorem d_M_write_57 : decode b_M_write 57 = .ok (.aload_n 0, 1) := by decide +kernel
theorem d_M_write_58 : decode b_M_write 58 = .ok (.getfield 16, 3) := by decide +kernel
theorem d_M_write_61 : decode b_M_write 61 = .ok (.iconst 0, 1) := by decide +kernel
theorem d_M_write_62 : decode b_M_write 62 = .ok (.iload_n 2, 1) := by decide +kernel
theorem d_M_write_63 : decode b_M_write 63 = .ok (.iastore, 1) := by decide +kernel
theorem d_M_write_64 : decode b_M_write 64 = .ok (.aload_n 0, 1) := by decide +kernel
theorem d_M_write_65 : decode b_M_write 65 = .ok (.getfield 19, 3) := by decide +kernel
theorem d_M_write_68 : decode b_M_write 68 = .ok (.iconst 1, 1) := by decide +kernel
theorem d_M_write_69 : decode b_M_write 69 = .ok (.aload_n 0, 1) := by decide +kernel
theorem d_M_write_70 : decode b_M_write 70 = .ok (.getfield 16, 3) := by decide +kernel
theorem d_M_write_73 : decode b_M_write 73 = .ok (.iconst 1, 1) := by decide +kernel
theorem d_M_write_74 : decode b_M_write 74 = .ok (.iaload, 1) := by decide +kernel
theorem d_M_write_75 : decode b_M_write 75 = .ok (.iastore, 1) := by decide +kernel
theorem d_M_write_76 : decode b_M_write 76 = .ok (.goto 87, 3) := by decide +kernel
theorem d_M_write_79 : decode b_M_write 79 = .ok (.iload_n 1, 1) := by decide +kernel
theorem d_M_write_80 : decode b_M_write 80 = .ok (.bipush 10, 2) := by decide +kernel
theorem d_M_write_82 : decode b_M_write 82 = .ok (.if_icmp .ne 33, 3) := by decide +kernel
theorem d_M_write_85 : decode b_M_write 85 = .ok (.aload_n 0, 1) := by decide +kernel
theorem d_M_write_86 : decode b_M_write 86 = .ok (.getfield 16, 3) := by decide +kernel
theorem d_M_write_89 : decode b_M_write 89 = .ok (.iconst 1, 1) := by decide +kernel
theorem d_M_write_90 : decode b_M_write 90 = .ok (.iload_n 2, 1) := by decide +kernel
theorem d_M_write_91 : decode b_M_write 91 = .ok (.iastore, 1) := by decide +kernel
theorem d_M_write_92 : decode b_M_write 92 = .ok (.aload_n 0, 1) := by decide +kernel
theorem d_M_write_93 : decode b_M_write 93 = .ok (.getfield 19, 3) := by decide +kernel
theorem d_M_write_96 : decode b_M_write 96 = .ok (.iconst 0, 1) := by decide +kernel
theorem d_M_write_97 : decode b_M_write 97 = .ok (.aload_n 0, 1) := by decide +kernel
theorem d_M_write_98 : decode b_M_write 98 = .ok (.getfield 16, 3) := by decide +kernel
theorem d_M_write_101 : decode b_M_write 101 = .ok (.iconst 0, 1) := by decide +kernel
theorem d_M_write_102 : decode b_M_write 102 = .ok (.iaload, 1) := by decide +kernel
theorem d_M_write_103 : decode b_M_write 103 = .ok (.iastore, 1) := by decide +kernel
theorem d_M_write_104 : decode b_M_write 104 = .ok (.aload_n 0, 1) := by decide +kernel
theorem d_M_write_105 : decode b_M_write 105 = .ok (.aload_n 0, 1) := by decide +kernel
theorem d_M_write_106 : decode b_M_write 106 = .ok (.getfield 67, 3) := by decide +kernel
theorem d_M_write_109 : decode b_M_write 109 = .ok (.putfield 71, 3) := by decide +kernel
theorem d_M_write_112 : decode b_M_write 112 = .ok (.goto 51, 3) := by decide +kernel
theorem d_M_write_115 : decode b_M_write 115 = .ok (.iload_n 1, 1) := by decide +kernel
theorem d_M_write_116 : decode b_M_write 116 = .ok (.bipush 13, 2) := by decide +kernel
theorem d_M_write_118 : decode b_M_write 118 = .ok (.if_icmp .ne 24, 3) := by decide +kernel
theorem d_M_write_121 : decode b_M_write 121 = .ok (.aload_n 0, 1) := by decide +kernel
theorem d_M_write_122 : decode b_M_write 122 = .ok (.iload_n 2, 1) := by decide +kernel
theorem d_M_write_123 : decode b_M_write 123 = .ok (.iconst 1, 1) := by decide +kernel
theorem d_M_write_124 : decode b_M_write 124 = .ok (.ishr, 1) := by decide +kernel
theorem d_M_write_125 : decode b_M_write 125 = .ok (.iconst 1, 1) := by decide +kernel
theorem d_M_write_126 : decode b_M_write 126 = .ok (.iand, 1) := by decide +kernel
theorem d_M_write_127 : decode b_M_write 127 = .ok (.iconst 1, 1) := by decide +kernel
theorem d_M_write_128 : decode b_M_write 128 = .ok (.if_icmp .ne 7, 3) := by decide +kernel
theorem d_M_write_131 : decode b_M_write 131 = .ok (.iconst 1, 1) := by decide +kernel
theorem d_M_write_132 : decode b_M_write 132 = .ok (.goto 4, 3) := by decide +kernel
theorem d_M_write_135 : decode b_M_write 135 = .ok (.iconst 0, 1) := by decide +kernel
theorem d_M_write_136 : decode b_M_write 136 = .ok (.putfield 67, 3) := by decide +kernel
theorem d_M_write_139 : decode b_M_write 139 = .ok (.goto 24, 3) := by decide +kernel
theorem d_M_write_142 : decode b_M_write 142 = .ok (.iload_n 1, 1) := by decide +kernel
theorem d_M_write_143 : decode b_M_write 143 = .ok (.bipush 21, 2) := by decide +kernel
theorem d_M_write_145 : decode b_M_write 145 = .ok (.if_icmp .eq 9, 3) := by decide +kernel
theorem d_M_write_148 : decode b_M_write 148 = .ok (.iload_n 1, 1) := by decide +kernel
theorem d_M_write_149 : decode b_M_write 149 = .ok (.bipush 22, 2) := by decide +kernel
theorem d_M_write_151 : decode b_M_write 151 = .ok (.if_icmp .ne 12, 3) := by decide +kernel
theorem d_M_write_154 : decode b_M_write 154 = .ok (.aload_n 0, 1) := by decide +kernel
theorem d_M_write_155 : decode b_M_write 155 = .ok (.iload_n 1, 1) := by decide +kernel
theorem d_M_write_156 : decode b_M_write 156 = .ok (.bipush 21, 2) := by decide +kernel
theorem d_M_write_158 : decode b_M_write 158 = .ok (.isub, 1) := by decide +kernel
theorem d_M_write_159 : decode b_M_write 159 = .ok (.iload_n 2, 1) := by decide +kernel
theorem d_M_write_160 : decode b_M_write 160 = .ok (.invokevirtual 74, 3) := by decide +kernel
theorem d_M_write_163 : decode b_M_write 163 = .ok (.aload_n 0, 1) := by decide +kernel
theorem d_M_write_164 : decode b_M_write 164 = .ok (.getfield 7, 3) := by decide +kernel
theorem d_M_write_167 : decode b_M_write 167 = .ok (.iload_n 1, 1) := by decide +kernel
theorem d_M_write_168 : decode b_M_write 168 = .ok (.iload_n 2, 1) := by decide +kernel
theorem d_M_write_169 : decode b_M_write 169 = .ok (.iastore, 1) := by decide +kernel
theorem d_M_write_170 : decode b_M_write 170 = .ok (.return_, 1) := by decide +kernel
def y_M_behind : MethodName := ⟨R_M, "behind", "(II)I"⟩
abbrev b_M_behind : ByteArray := prog_4_method_12_code
def w_M_behind : List Cond := .code y_M_behind b_M_behind 2 (some .int) :: TB
theorem d_M_behind_0 : decode b_M_behind 0 = .ok (.iload_n 0, 1) := by decide +kernel
theorem d_M_behind_1 : decode b_M_behind 1 = .ok (.iload_n 1, 1) := by decide +kernel
theorem d_M_behind_2 : decode b_M_behind 2 = .ok (.isub, 1) := by decide +kernel
theorem d_M_behind_3 : decode b_M_behind 3 = .ok (.sipush 320, 3) := by decide +kernel
theorem d_M_behind_6 : decode b_M_behind 6 = .ok (.iadd, 1) := by decide +kernel
theorem d_M_behind_7 : decode b_M_behind 7 = .ok (.sipush 160, 3) := by decide +kernel
theorem d_M_behind_10 : decode b_M_behind 10 = .ok (.irem, 1) := by decide +kernel
theorem d_M_behind_11 : decode b_M_behind 11 = .ok (.ireturn, 1) := by decide +kernel
def y_M_hasCopy : MethodName := ⟨R_M, "hasCopy", "(II)Z"⟩
abbrev b_M_hasCopy : ByteArray := prog_4_method_13_code
def w_M_hasCopy : List Cond := .code y_M_hasCopy b_M_hasCopy 4 (some .boolean) :: TB
theorem d_M_hasCopy_0 : decode b_M_hasCopy 0 = .ok (.aload_n 0, 1) := by decide +kernel
theorem d_M_hasCopy_1 : decode b_M_hasCopy 1 = .ok (.iload_n 1, 1) := by decide +kernel
theorem d_M_hasCopy_2 : decode b_M_hasCopy 2 = .ok (.invokevirtual 39, 3) := by decide +kernel
theorem d_M_hasCopy_5 : decode b_M_hasCopy 5 = .ok (.istore_n 3, 1) := by decide +kernel
theorem d_M_hasCopy_6 : decode b_M_hasCopy 6 = .ok (.iload_n 2, 1) := by decide +kernel
theorem d_M_hasCopy_7 : decode b_M_hasCopy 7 = .ok (.lookupswitch 73 #[(0, 33), (16, 35), (32, 51)], 33) := by decide +kernel
theorem d_M_hasCopy_40 : decode b_M_hasCopy 40 = .ok (.iconst 1, 1) := by decide +kernel
theorem d_M_hasCopy_41 : decode b_M_hasCopy 41 = .ok (.ireturn, 1) := by decide +kernel
theorem d_M_hasCopy_42 : decode b_M_hasCopy 42 = .ok (.iload_n 3, 1) := by decide +kernel
theorem d_M_hasCopy_43 : decode b_M_hasCopy 43 = .ok (.iconst 1, 1) := by decide +kernel
theorem d_M_hasCopy_44 : decode b_M_hasCopy 44 = .ok (.if_icmp .eq 8, 3) := by decide +kernel
theorem d_M_hasCopy_47 : decode b_M_hasCopy 47 = .ok (.iload_n 3, 1) := by decide +kernel
theorem d_M_hasCopy_48 : decode b_M_hasCopy 48 = .ok (.iconst 3, 1) := by decide +kernel
theorem d_M_hasCopy_49 : decode b_M_hasCopy 49 = .ok (.if_icmp .ne 7, 3) := by decide +kernel
theorem d_M_hasCopy_52 : decode b_M_hasCopy 52 = .ok (.iconst 1, 1) := by decide +kernel
theorem d_M_hasCopy_53 : decode b_M_hasCopy 53 = .ok (.goto 4, 3) := by decide +kernel
theorem d_M_hasCopy_56 : decode b_M_hasCopy 56 = .ok (.iconst 0, 1) := by decide +kernel
theorem d_M_hasCopy_57 : decode b_M_hasCopy 57 = .ok (.ireturn, 1) := by decide +kernel
theorem d_M_hasCopy_58 : decode b_M_hasCopy 58 = .ok (.iload_n 3, 1) := by decide +kernel
theorem d_M_hasCopy_59 : decode b_M_hasCopy 59 = .ok (.iconst 2, 1) := by decide +kernel
theorem d_M_hasCopy_60 : decode b_M_hasCopy 60 = .ok (.if_icmp .eq 14, 3) := by decide +kernel
theorem d_M_hasCopy_63 : decode b_M_hasCopy 63 = .ok (.iload_n 3, 1) := by decide +kernel
theorem d_M_hasCopy_64 : decode b_M_hasCopy 64 = .ok (.iconst 3, 1) := by decide +kernel
theorem d_M_hasCopy_65 : decode b_M_hasCopy 65 = .ok (.if_icmp .eq 9, 3) := by decide +kernel
theorem d_M_hasCopy_68 : decode b_M_hasCopy 68 = .ok (.iload_n 3, 1) := by decide +kernel
theorem d_M_hasCopy_69 : decode b_M_hasCopy 69 = .ok (.bipush 6, 2) := by decide +kernel
theorem d_M_hasCopy_71 : decode b_M_hasCopy 71 = .ok (.if_icmp .ne 7, 3) := by decide +kernel
theorem d_M_hasCopy_74 : decode b_M_hasCopy 74 = .ok (.iconst 1, 1) := by decide +kernel
theorem d_M_hasCopy_75 : decode b_M_hasCopy 75 = .ok (.goto 4, 3) := by decide +kernel
theorem d_M_hasCopy_78 : decode b_M_hasCopy 78 = .ok (.iconst 0, 1) := by decide +kernel
theorem d_M_hasCopy_79 : decode b_M_hasCopy 79 = .ok (.ireturn, 1) := by decide +kernel
theorem d_M_hasCopy_80 : decode b_M_hasCopy 80 = .ok (.iload_n 3, 1) := by decide +kernel
theorem d_M_hasCopy_81 : decode b_M_hasCopy 81 = .ok (.iconst 4, 1) := by decide +kernel
theorem d_M_hasCopy_82 : decode b_M_hasCopy 82 = .ok (.if_icmp .eq 9, 3) := by decide +kernel
theorem d_M_hasCopy_85 : decode b_M_hasCopy 85 = .ok (.iload_n 3, 1) := by decide +kernel
theorem d_M_hasCopy_86 : decode b_M_hasCopy 86 = .ok (.bipush 6, 2) := by decide +kernel
theorem d_M_hasCopy_88 : decode b_M_hasCopy 88 = .ok (.if_icmp .ne 7, 3) := by decide +kernel
theorem d_M_hasCopy_91 : decode b_M_hasCopy 91 = .ok (.iconst 1, 1) := by decide +kernel
theorem d_M_hasCopy_92 : decode b_M_hasCopy 92 = .ok (.goto 4, 3) := by decide +kernel
theorem d_M_hasCopy_95 : decode b_M_hasCopy 95 = .ok (.iconst 0, 1) := by decide +kernel
theorem d_M_hasCopy_96 : decode b_M_hasCopy 96 = .ok (.ireturn, 1) := by decide +kernel
def y_M_player : MethodName := ⟨R_M, "player", "(II)Z"⟩
abbrev b_M_player : ByteArray := prog_4_method_14_code
def w_M_player : List Cond := .code y_M_player b_M_player 8 (some .boolean) :: TB
theorem d_M_player_0 : decode b_M_player 0 = .ok (.aload_n 0, 1) := by decide +kernel
theorem d_M_player_1 : decode b_M_player 1 = .ok (.bipush 11, 2) := by decide +kernel
theorem d_M_player_3 : decode b_M_player 3 = .ok (.iload_n 1, 1) := by decide +kernel
theorem d_M_player_4 : decode b_M_player 4 = .ok (.iadd, 1) := by decide +kernel
theorem d_M_player_5 : decode b_M_player 5 = .ok (.iconst 0, 1) := by decide +kernel
theorem d_M_player_6 : decode b_M_player 6 = .ok (.invokevirtual 43, 3) := by decide +kernel
theorem d_M_player_9 : decode b_M_player 9 = .ok (.ifCond .eq 12, 3) := by decide +kernel
theorem d_M_player_12 : decode b_M_player 12 = .ok (.aload_n 0, 1) := by decide +kernel
theorem d_M_player_13 : decode b_M_player 13 = .ok (.getfield 19, 3) := by decide +kernel
theorem d_M_player_16 : decode b_M_player 16 = .ok (.iload_n 1, 1) := by decide +kernel
theorem d_M_player_17 : decode b_M_player 17 = .ok (.iaload, 1) := by decide +kernel
theorem d_M_player_18 : decode b_M_player 18 = .ok (.goto 9, 3) := by decide +kernel
theorem d_M_player_21 : decode b_M_player 21 = .ok (.aload_n 0, 1) := by decide +kernel
theorem d_M_player_22 : decode b_M_player 22 = .ok (.getfield 16, 3) := by decide +kernel
theorem d_M_player_25 : decode b_M_player 25 = .ok (.iload_n 1, 1) := by decide +kernel
theorem d_M_player_26 : decode b_M_player 26 = .ok (.iaload, 1) := by decide +kernel
theorem d_M_player_27 : decode b_M_player 27 = .ok (.istore_n 3, 1) := by decide +kernel
theorem d_M_player_28 : decode b_M_player 28 = .ok (.iconst 0, 1) := by decide +kernel
theorem d_M_player_29 : decode b_M_player 29 = .ok (.istore 4, 2) := by decide +kernel
theorem d_M_player_31 : decode b_M_player 31 = .ok (.iconst 0, 1) := by decide +kernel
theorem d_M_player_32 : decode b_M_player 32 = .ok (.istore 5, 2) := by decide +kernel
theorem d_M_player_34 : decode b_M_player 34 = .ok (.iload 5, 2) := by decide +kernel
theorem d_M_player_36 : decode b_M_player 36 = .ok (.iconst 4, 1) := by decide +kernel
theorem d_M_player_37 : decode b_M_player 37 = .ok (.if_icmp .ge 107, 3) := by decide +kernel
theorem d_M_player_40 : decode b_M_player 40 = .ok (.iload 5, 2) := by decide +kernel
theorem d_M_player_42 : decode b_M_player 42 = .ok (.iconst 3, 1) := by decide +kernel
theorem d_M_player_43 : decode b_M_player 43 = .ok (.if_icmp .ne 8, 3) := by decide +kernel
theorem d_M_player_46 : decode b_M_player 46 = .ok (.bipush 64, 2) := by decide +kernel
theorem d_M_player_48 : decode b_M_player 48 = .ok (.goto 8, 3) := by decide +kernel
theorem d_M_player_51 : decode b_M_player 51 = .ok (.bipush 16, 2) := by decide +kernel
theorem d_M_player_53 : decode b_M_player 53 = .ok (.iload 5, 2) := by decide +kernel
theorem d_M_player_55 : decode b_M_player 55 = .ok (.imul, 1) := by decide +kernel
theorem d_M_player_56 : decode b_M_player 56 = .ok (.istore 6, 2) := by decide +kernel
theorem d_M_player_58 : decode b_M_player 58 = .ok (.iload_n 2, 1) := by decide +kernel
theorem d_M_player_59 : decode b_M_player 59 = .ok (.aload_n 0, 1) := by decide +kernel
theorem d_M_player_60 : decode b_M_player 60 = .ok (.getfield 13, 3) := by decide +kernel
theorem d_M_player_63 : decode b_M_player 63 = .ok (.iload_n 1, 1) := by decide +kernel
theorem d_M_player_64 : decode b_M_player 64 = .ok (.iaload, 1) := by decide +kernel
theorem d_M_player_65 : decode b_M_player 65 = .ok (.iload 6, 2) := by decide +kernel
theorem d_M_player_67 : decode b_M_player 67 = .ok (.iadd, 1) := by decide +kernel
theorem d_M_player_68 : decode b_M_player 68 = .ok (.invokestatic 78, 3) := by decide +kernel
theorem d_M_player_71 : decode b_M_player 71 = .ok (.aload_n 0, 1) := by decide +kernel
theorem d_M_player_72 : decode b_M_player 72 = .ok (.iload_n 1, 1) := by decide +kernel
theorem d_M_player_73 : decode b_M_player 73 = .ok (.invokevirtual 47, 3) := by decide +kernel
theorem d_M_player_76 : decode b_M_player 76 = .ok (.idiv, 1) := by decide +kernel
theorem d_M_player_77 : decode b_M_player 77 = .ok (.istore 7, 2) := by decide +kernel
theorem d_M_player_79 : decode b_M_player 79 = .ok (.aload_n 0, 1) := by decide +kernel
theorem d_M_player_80 : decode b_M_player 80 = .ok (.iload_n 1, 1) := by decide +kernel
theorem d_M_player_81 : decode b_M_player 81 = .ok (.iload 6, 2) := by decide +kernel
theorem d_M_player_83 : decode b_M_player 83 = .ok (.invokevirtual 82, 3) := by decide +kernel
theorem d_M_player_86 : decode b_M_player 86 = .ok (.ifCond .eq 52, 3) := by decide +kernel
theorem d_M_player_89 : decode b_M_player 89 = .ok (.iload 7, 2) := by decide +kernel
theorem d_M_player_91 : decode b_M_player 91 = .ok (.bipush 8, 2) := by decide +kernel
theorem d_M_player_93 : decode b_M_player 93 = .ok (.if_icmp .ge 45, 3) := by decide +kernel
theorem d_M_player_96 : decode b_M_player 96 = .ok (.iload 4, 2) := by decide +kernel
theorem d_M_player_98 : decode b_M_player 98 = .ok (.ifCond .ne 33, 3) := by decide +kernel
theorem d_M_player_101 : decode b_M_player 101 = .ok (.iload_n 3, 1) := by decide +kernel
theorem d_M_player_102 : decode b_M_player 102 = .ok (.aload_n 0, 1) := by decide +kernel
theorem d_M_player_103 : decode b_M_player 103 = .ok (.bipush 15, 2) := by decide +kernel
theorem d_M_player_105 : decode b_M_player 105 = .ok (.iload_n 1, 1) := by decide +kernel
theorem d_M_player_106 : decode b_M_player 106 = .ok (.iadd, 1) := by decide +kernel
theorem d_M_player_107 : decode b_M_player 107 = .ok (.iconst 3, 1) := by decide +kernel
theorem d_M_player_108 : decode b_M_player 108 = .ok (.invokevirtual 43, 3) := by decide +kernel
theorem d_M_player_111 : decode b_M_player 111 = .ok (.ifCond .eq 8, 3) := by decide +kernel
theorem d_M_player_114 : decode b_M_player 114 = .ok (.iload 7, 2) := by decide +kernel
theorem d_M_player_116 : decode b_M_player 116 = .ok (.goto 8, 3) := by decide +kernel
theorem d_M_player_119 : decode b_M_player 119 = .ok (.bipush 7, 2) := by decide +kernel
theorem d_M_player_121 : decode b_M_player 121 = .ok (.iload 7, 2) := by decide +kernel
theorem d_M_player_123 : decode b_M_player 123 = .ok (.isub, 1) := by decide +kernel
theorem d_M_player_124 : decode b_M_player 124 = .ok (.ishr, 1) := by decide +kernel
theorem d_M_player_125 : decode b_M_player 125 = .ok (.iconst 1, 1) := by decide +kernel
theorem d_M_player_126 : decode b_M_player 126 = .ok (.iand, 1) := by decide +kernel
theorem d_M_player_127 : decode b_M_player 127 = .ok (.iconst 1, 1) := by decide +kernel
theorem d_M_player_128 : decode b_M_player 128 = .ok (.if_icmp .ne 7, 3) := by decide +kernel
theorem d_M_player_131 : decode b_M_player 131 = .ok (.iconst 1, 1) := by decide +kernel
theorem d_M_player_132 : decode b_M_player 132 = .ok (.goto 4, 3) := by decide +kernel
theorem d_M_player_135 : decode b_M_player 135 = .ok (.iconst 0, 1) := by decide +kernel
theorem d_M_player_136 : decode b_M_player 136 = .ok (.istore 4, 2) := by decide +kernel
theorem d_M_player_138 : decode b_M_player 138 = .ok (.iinc 5 1, 3) := by decide +kernel
theorem d_M_player_141 : decode b_M_player 141 = .ok (.goto (-107), 3) := by decide +kernel
theorem d_M_player_144 : decode b_M_player 144 = .ok (.iload 4, 2) := by decide +kernel
theorem d_M_player_146 : decode b_M_player 146 = .ok (.ireturn, 1) := by decide +kernel
def y_M_size : MethodName := ⟨R_M, "size", "(I)I"⟩
abbrev b_M_size : ByteArray := prog_4_method_15_code
def w_M_size : List Cond := .code y_M_size b_M_size 1 (some .int) :: TB
theorem d_M_size_0 : decode b_M_size 0 = .ok (.iconst 1, 1) := by decide +kernel
theorem d_M_size_1 : decode b_M_size 1 = .ok (.iload_n 0, 1) := by decide +kernel
theorem d_M_size_2 : decode b_M_size 2 = .ok (.iconst 4, 1) := by decide +kernel
theorem d_M_size_3 : decode b_M_size 3 = .ok (.ishr, 1) := by decide +kernel
theorem d_M_size_4 : decode b_M_size 4 = .ok (.iconst 3, 1) := by decide +kernel
theorem d_M_size_5 : decode b_M_size 5 = .ok (.iand, 1) := by decide +kernel
theorem d_M_size_6 : decode b_M_size 6 = .ok (.ishl, 1) := by decide +kernel
theorem d_M_size_7 : decode b_M_size 7 = .ok (.ireturn, 1) := by decide +kernel
def y_M_missile : MethodName := ⟨R_M, "missile", "(II)Z"⟩
abbrev b_M_missile : ByteArray := prog_4_method_16_code
def w_M_missile : List Cond := .code y_M_missile b_M_missile 7 (some .boolean) :: TB
theorem d_M_missile_0 : decode b_M_missile 0 = .ok (.aload_n 0, 1) := by decide +kernel
theorem d_M_missile_1 : decode b_M_missile 1 = .ok (.bipush 19, 2) := by decide +kernel
theorem d_M_missile_3 : decode b_M_missile 3 = .ok (.iload_n 1, 1) := by decide +kernel
theorem d_M_missile_4 : decode b_M_missile 4 = .ok (.iadd, 1) := by decide +kernel
theorem d_M_missile_5 : decode b_M_missile 5 = .ok (.iconst 1, 1) := by decide +kernel
theorem d_M_missile_6 : decode b_M_missile 6 = .ok (.invokevirtual 43, 3) := by decide +kernel
theorem d_M_missile_9 : decode b_M_missile 9 = .ok (.ifCond .eq 19, 3) := by decide +kernel
theorem d_M_missile_12 : decode b_M_missile 12 = .ok (.aload_n 0, 1) := by decide +kernel
theorem d_M_missile_13 : decode b_M_missile 13 = .ok (.bipush 21, 2) := by decide +kernel
theorem d_M_missile_15 : decode b_M_missile 15 = .ok (.iload_n 1, 1) := by decide +kernel
theorem d_M_missile_16 : decode b_M_missile 16 = .ok (.iadd, 1) := by decide +kernel
theorem d_M_missile_17 : decode b_M_missile 17 = .ok (.iconst 1, 1) := by decide +kernel
theorem d_M_missile_18 : decode b_M_missile 18 = .ok (.invokevirtual 43, 3) := by decide +kernel
theorem d_M_missile_21 : decode b_M_missile 21 = .ok (.ifCond .ne 7, 3) := by decide +kernel
theorem d_M_missile_24 : decode b_M_missile 24 = .ok (.iconst 1, 1) := by decide +kernel
theorem d_M_missile_25 : decode b_M_missile 25 = .ok (.goto 4, 3) := by decide +kernel
theorem d_M_missile_28 : decode b_M_missile 28 = .ok (.iconst 0, 1) := by decide +kernel
theorem d_M_missile_29 : decode b_M_missile 29 = .ok (.istore_n 3, 1) := by decide +kernel
theorem d_M_missile_30 : decode b_M_missile 30 = .ok (.iconst 0, 1) := by decide +kernel
theorem d_M_missile_31 : decode b_M_missile 31 = .ok (.istore 4, 2) := by decide +kernel
theorem d_M_missile_33 : decode b_M_missile 33 = .ok (.iconst 0, 1) := by decide +kernel
theorem d_M_missile_34 : decode b_M_missile 34 = .ok (.istore 5, 2) := by decide +kernel
theorem d_M_missile_36 : decode b_M_missile 36 = .ok (.iload 5, 2) := by decide +kernel
theorem d_M_missile_38 : decode b_M_missile 38 = .ok (.iconst 4, 1) := by decide +kernel
theorem d_M_missile_39 : decode b_M_missile 39 = .ok (.if_icmp .ge 83, 3) := by decide +kernel
theorem d_M_missile_42 : decode b_M_missile 42 = .ok (.iload_n 3, 1) := by decide +kernel
theorem d_M_missile_43 : decode b_M_missile 43 = .ok (.ifCond .eq 79, 3) := by decide +kernel
theorem d_M_missile_46 : decode b_M_missile 46 = .ok (.iload 5, 2) := by decide +kernel
theorem d_M_missile_48 : decode b_M_missile 48 = .ok (.iconst 3, 1) := by decide +kernel
theorem d_M_missile_49 : decode b_M_missile 49 = .ok (.if_icmp .ne 8, 3) := by decide +kernel
theorem d_M_missile_52 : decode b_M_missile 52 = .ok (.bipush 64, 2) := by decide +kernel
theorem d_M_missile_54 : decode b_M_missile 54 = .ok (.goto 8, 3) := by decide +kernel
theorem d_M_missile_57 : decode b_M_missile 57 = .ok (.bipush 16, 2) := by decide +kernel
theorem d_M_missile_59 : decode b_M_missile 59 = .ok (.iload 5, 2) := by decide +kernel
theorem d_M_missile_61 : decode b_M_missile 61 = .ok (.imul, 1) := by decide +kernel
theorem d_M_missile_62 : decode b_M_missile 62 = .ok (.istore 6, 2) := by decide +kernel
theorem d_M_missile_64 : decode b_M_missile 64 = .ok (.iload 4, 2) := by decide +kernel
theorem d_M_missile_66 : decode b_M_missile 66 = .ok (.ifCond .ne 43, 3) := by decide +kernel
theorem d_M_missile_69 : decode b_M_missile 69 = .ok (.aload_n 0, 1) := by decide +kernel
theorem d_M_missile_70 : decode b_M_missile 70 = .ok (.iload_n 1, 1) := by decide +kernel
theorem d_M_missile_71 : decode b_M_missile 71 = .ok (.iload 6, 2) := by decide +kernel
theorem d_M_missile_73 : decode b_M_missile 73 = .ok (.invokevirtual 82, 3) := by decide +kernel
theorem d_M_missile_76 : decode b_M_missile 76 = .ok (.ifCond .eq 37, 3) := by decide +kernel
theorem d_M_missile_79 : decode b_M_missile 79 = .ok (.iload_n 2, 1) := by decide +kernel
theorem d_M_missile_80 : decode b_M_missile 80 = .ok (.aload_n 0, 1) := by decide +kernel
theorem d_M_missile_81 : decode b_M_missile 81 = .ok (.getfield 13, 3) := by decide +kernel
theorem d_M_missile_84 : decode b_M_missile 84 = .ok (.iconst 2, 1) := by decide +kernel
theorem d_M_missile_85 : decode b_M_missile 85 = .ok (.iload_n 1, 1) := by decide +kernel
theorem d_M_missile_86 : decode b_M_missile 86 = .ok (.iadd, 1) := by decide +kernel
theorem d_M_missile_87 : decode b_M_missile 87 = .ok (.iaload, 1) := by decide +kernel
theorem d_M_missile_88 : decode b_M_missile 88 = .ok (.iload 6, 2) := by decide +kernel
theorem d_M_missile_90 : decode b_M_missile 90 = .ok (.iadd, 1) := by decide +kernel
theorem d_M_missile_91 : decode b_M_missile 91 = .ok (.invokestatic 78, 3) := by decide +kernel
theorem d_M_missile_94 : decode b_M_missile 94 = .ok (.aload_n 0, 1) := by decide +kernel
theorem d_M_missile_95 : decode b_M_missile 95 = .ok (.getfield 7, 3) := by decide +kernel
theorem d_M_missile_98 : decode b_M_missile 98 = .ok (.bipush 17, 2) := by decide +kernel
theorem d_M_missile_100 : decode b_M_missile 100 = .ok (.iload_n 1, 1) := by decide +kernel
theorem d_M_missile_101 : decode b_M_missile 101 = .ok (.iadd, 1) := by decide +kernel
theorem d_M_missile_102 : decode b_M_missile 102 = .ok (.iaload, 1) := by decide +kernel
theorem d_M_missile_103 : decode b_M_missile 103 = .ok (.invokestatic 85, 3) := by decide +kernel
theorem d_M_missile_106 : decode b_M_missile 106 = .ok (.if_icmp .ge 7, 3) := by decide +kernel
theorem d_M_missile_109 : decode b_M_missile 109 = .ok (.iconst 1, 1) := by decide +kernel
theorem d_M_missile_110 : decode b_M_missile 110 = .ok (.goto 4, 3) := by decide +kernel
theorem d_M_missile_113 : decode b_M_missile 113 = .ok (.iconst 0, 1) := by decide +kernel
theorem d_M_missile_114 : decode b_M_missile 114 = .ok (.istore 4, 2) := by decide +kernel
theorem d_M_missile_116 : decode b_M_missile 116 = .ok (.iinc 5 1, 3) := by decide +kernel
theorem d_M_missile_119 : decode b_M_missile 119 = .ok (.goto (-83), 3) := by decide +kernel
theorem d_M_missile_122 : decode b_M_missile 122 = .ok (.iload 4, 2) := by decide +kernel
theorem d_M_missile_124 : decode b_M_missile 124 = .ok (.ireturn, 1) := by decide +kernel
def y_M_playfield : MethodName := ⟨R_M, "playfield", "(I)Z"⟩
abbrev b_M_playfield : ByteArray := prog_4_method_17_code
def w_M_playfield : List Cond := .code y_M_playfield b_M_playfield 3 (some .boolean) :: TB
theorem d_M_playfield_0 : decode b_M_playfield 0 = .ok (.iload_n 1, 1) := by decide +kernel
theorem d_M_playfield_1 : decode b_M_playfield 1 = .ok (.bipush 80, 2) := by decide +kernel
theorem d_M_playfield_3 : decode b_M_playfield 3 = .ok (.irem, 1) := by decide +kernel
theorem d_M_playfield_4 : decode b_M_playfield 4 = .ok (.iconst 4, 1) := by decide +kernel
theorem d_M_playfield_5 : decode b_M_playfield 5 = .ok (.idiv, 1) := by decide +kernel
theorem d_M_playfield_6 : decode b_M_playfield 6 = .ok (.istore_n 2, 1) := by decide +kernel
theorem d_M_playfield_7 : decode b_M_playfield 7 = .ok (.iload_n 1, 1) := by decide +kernel
theorem d_M_playfield_8 : decode b_M_playfield 8 = .ok (.bipush 80, 2) := by decide +kernel
theorem d_M_playfield_10 : decode b_M_playfield 10 = .ok (.if_icmp .lt 20, 3) := by decide +kernel
theorem d_M_playfield_13 : decode b_M_playfield 13 = .ok (.aload_n 0, 1) := by decide +kernel
theorem d_M_playfield_14 : decode b_M_playfield 14 = .ok (.bipush 8, 2) := by decide +kernel
theorem d_M_playfield_16 : decode b_M_playfield 16 = .ok (.iconst 0, 1) := by decide +kernel
theorem d_M_playfield_17 : decode b_M_playfield 17 = .ok (.invokevirtual 43, 3) := by decide +kernel
theorem d_M_playfield_20 : decode b_M_playfield 20 = .ok (.ifCond .eq 10, 3) := by decide +kernel
theorem d_M_playfield_23 : decode b_M_playfield 23 = .ok (.bipush 19, 2) := by decide +kernel
theorem d_M_playfield_25 : decode b_M_playfield 25 = .ok (.iload_n 2, 1) := by decide +kernel
theorem d_M_playfield_26 : decode b_M_playfield 26 = .ok (.isub, 1) := by decide +kernel
theorem d_M_playfield_27 : decode b_M_playfield 27 = .ok (.goto 4, 3) := by decide +kernel
theorem d_M_playfield_30 : decode b_M_playfield 30 = .ok (.iload_n 2, 1) := by decide +kernel
theorem d_M_playfield_31 : decode b_M_playfield 31 = .ok (.istore_n 2, 1) := by decide +kernel
theorem d_M_playfield_32 : decode b_M_playfield 32 = .ok (.iload_n 2, 1) := by decide +kernel
theorem d_M_playfield_33 : decode b_M_playfield 33 = .ok (.iconst 4, 1) := by decide +kernel
theorem d_M_playfield_34 : decode b_M_playfield 34 = .ok (.if_icmp .ge 14, 3) := by decide +kernel
theorem d_M_playfield_37 : decode b_M_playfield 37 = .ok (.aload_n 0, 1) := by decide +kernel
theorem d_M_playfield_38 : decode b_M_playfield 38 = .ok (.iconst 5, 1) := by decide +kernel
theorem d_M_playfield_39 : decode b_M_playfield 39 = .ok (.iconst 4, 1) := by decide +kernel
theorem d_M_playfield_40 : decode b_M_playfield 40 = .ok (.iload_n 2, 1) := by decide +kernel
theorem d_M_playfield_41 : decode b_M_playfield 41 = .ok (.iadd, 1) := by decide +kernel
theorem d_M_playfield_42 : decode b_M_playfield 42 = .ok (.invokevirtual 43, 3) := by decide +kernel
theorem d_M_playfield_45 : decode b_M_playfield 45 = .ok (.goto 32, 3) := by decide +kernel
theorem d_M_playfield_48 : decode b_M_playfield 48 = .ok (.iload_n 2, 1) := by decide +kernel
theorem d_M_playfield_49 : decode b_M_playfield 49 = .ok (.bipush 12, 2) := by decide +kernel
theorem d_M_playfield_51 : decode b_M_playfield 51 = .ok (.if_icmp .ge 16, 3) := by decide +kernel
theorem d_M_playfield_54 : decode b_M_playfield 54 = .ok (.aload_n 0, 1) := by decide +kernel
theorem d_M_playfield_55 : decode b_M_playfield 55 = .ok (.bipush 6, 2) := by decide +kernel
theorem d_M_playfield_57 : decode b_M_playfield 57 = .ok (.bipush 11, 2) := by decide +kernel
theorem d_M_playfield_59 : decode b_M_playfield 59 = .ok (.iload_n 2, 1) := by decide +kernel
theorem d_M_playfield_60 : decode b_M_playfield 60 = .ok (.isub, 1) := by decide +kernel
theorem d_M_playfield_61 : decode b_M_playfield 61 = .ok (.invokevirtual 43, 3) := by decide +kernel
theorem d_M_playfield_64 : decode b_M_playfield 64 = .ok (.goto 13, 3) := by decide +kernel
theorem d_M_playfield_67 : decode b_M_playfield 67 = .ok (.aload_n 0, 1) := by decide +kernel
theorem d_M_playfield_68 : decode b_M_playfield 68 = .ok (.bipush 7, 2) := by decide +kernel
theorem d_M_playfield_70 : decode b_M_playfield 70 = .ok (.iload_n 2, 1) := by decide +kernel
theorem d_M_playfield_71 : decode b_M_playfield 71 = .ok (.bipush 12, 2) := by decide +kernel
theorem d_M_playfield_73 : decode b_M_playfield 73 = .ok (.isub, 1) := by decide +kernel
theorem d_M_playfield_74 : decode b_M_playfield 74 = .ok (.invokevirtual 43, 3) := by decide +kernel
theorem d_M_playfield_77 : decode b_M_playfield 77 = .ok (.ireturn, 1) := by decide +kernel
def y_M_isThere : MethodName := ⟨R_M, "isThere", "(II)Z"⟩
abbrev b_M_isThere : ByteArray := prog_4_method_18_code
def w_M_isThere : List Cond := .code y_M_isThere b_M_isThere 3 (some .boolean) :: TB
theorem d_M_isThere_0 : decode b_M_isThere 0 = .ok (.iload_n 1, 1) := by decide +kernel
theorem d_M_isThere_1 : decode b_M_isThere 1 = .ok (.tableswitch 107 0 4 #[35, 35, 42, 42, 51], 35) := by decide +kernel
theorem d_M_isThere_36 : decode b_M_isThere 36 = .ok (.aload_n 0, 1) := by decide +kernel
theorem d_M_isThere_37 : decode b_M_isThere 37 = .ok (.iload_n 1, 1) := by decide +kernel
theorem d_M_isThere_38 : decode b_M_isThere 38 = .ok (.iload_n 2, 1) := by decide +kernel
theorem d_M_isThere_39 : decode b_M_isThere 39 = .ok (.invokevirtual 88, 3) := by decide +kernel
theorem d_M_isThere_42 : decode b_M_isThere 42 = .ok (.ireturn, 1) := by decide +kernel
theorem d_M_isThere_43 : decode b_M_isThere 43 = .ok (.aload_n 0, 1) := by decide +kernel
theorem d_M_isThere_44 : decode b_M_isThere 44 = .ok (.iload_n 1, 1) := by decide +kernel
theorem d_M_isThere_45 : decode b_M_isThere 45 = .ok (.iconst 2, 1) := by decide +kernel
theorem d_M_isThere_46 : decode b_M_isThere 46 = .ok (.isub, 1) := by decide +kernel
theorem d_M_isThere_47 : decode b_M_isThere 47 = .ok (.iload_n 2, 1) := by decide +kernel
theorem d_M_isThere_48 : decode b_M_isThere 48 = .ok (.invokevirtual 91, 3) := by decide +kernel
theorem d_M_isThere_51 : decode b_M_isThere 51 = .ok (.ireturn, 1) := by decide +kernel
theorem d_M_isThere_52 : decode b_M_isThere 52 = .ok (.aload_n 0, 1) := by decide +kernel
theorem d_M_isThere_53 : decode b_M_isThere 53 = .ok (.bipush 14, 2) := by decide +kernel
theorem d_M_isThere_55 : decode b_M_isThere 55 = .ok (.iconst 0, 1) := by decide +kernel
theorem d_M_isThere_56 : decode b_M_isThere 56 = .ok (.invokevirtual 43, 3) := by decide +kernel
theorem d_M_isThere_59 : decode b_M_isThere 59 = .ok (.ifCond .eq 13, 3) := by decide +kernel
theorem d_M_isThere_62 : decode b_M_isThere 62 = .ok (.aload_n 0, 1) := by decide +kernel
theorem d_M_isThere_63 : decode b_M_isThere 63 = .ok (.getfield 71, 3) := by decide +kernel
theorem d_M_isThere_66 : decode b_M_isThere 66 = .ok (.ifCond .eq 40, 3) := by decide +kernel
theorem d_M_isThere_69 : decode b_M_isThere 69 = .ok (.goto 10, 3) := by decide +kernel
theorem d_M_isThere_72 : decode b_M_isThere 72 = .ok (.aload_n 0, 1) := by decide +kernel
theorem d_M_isThere_73 : decode b_M_isThere 73 = .ok (.getfield 67, 3) := by decide +kernel
theorem d_M_isThere_76 : decode b_M_isThere 76 = .ok (.ifCond .eq 30, 3) := by decide +kernel
theorem d_M_isThere_79 : decode b_M_isThere 79 = .ok (.iload_n 2, 1) := by decide +kernel
theorem d_M_isThere_80 : decode b_M_isThere 80 = .ok (.aload_n 0, 1) := by decide +kernel
theorem d_M_isThere_81 : decode b_M_isThere 81 = .ok (.getfield 13, 3) := by decide +kernel
theorem d_M_isThere_84 : decode b_M_isThere 84 = .ok (.iconst 4, 1) := by decide +kernel
theorem d_M_isThere_85 : decode b_M_isThere 85 = .ok (.iaload, 1) := by decide +kernel
theorem d_M_isThere_86 : decode b_M_isThere 86 = .ok (.invokestatic 78, 3) := by decide +kernel
theorem d_M_isThere_89 : decode b_M_isThere 89 = .ok (.aload_n 0, 1) := by decide +kernel
theorem d_M_isThere_90 : decode b_M_isThere 90 = .ok (.getfield 7, 3) := by decide +kernel
theorem d_M_isThere_93 : decode b_M_isThere 93 = .ok (.bipush 8, 2) := by decide +kernel
theorem d_M_isThere_95 : decode b_M_isThere 95 = .ok (.iaload, 1) := by decide +kernel
theorem d_M_isThere_96 : decode b_M_isThere 96 = .ok (.invokestatic 85, 3) := by decide +kernel
theorem d_M_isThere_99 : decode b_M_isThere 99 = .ok (.if_icmp .ge 7, 3) := by decide +kernel
theorem d_M_isThere_102 : decode b_M_isThere 102 = .ok (.iconst 1, 1) := by decide +kernel
theorem d_M_isThere_103 : decode b_M_isThere 103 = .ok (.goto 4, 3) := by decide +kernel
theorem d_M_isThere_106 : decode b_M_isThere 106 = .ok (.iconst 0, 1) := by decide +kernel
theorem d_M_isThere_107 : decode b_M_isThere 107 = .ok (.ireturn, 1) := by decide +kernel
theorem d_M_isThere_108 : decode b_M_isThere 108 = .ok (.aload_n 0, 1) := by decide +kernel
theorem d_M_isThere_109 : decode b_M_isThere 109 = .ok (.iload_n 2, 1) := by decide +kernel
theorem d_M_isThere_110 : decode b_M_isThere 110 = .ok (.invokevirtual 94, 3) := by decide +kernel
theorem d_M_isThere_113 : decode b_M_isThere 113 = .ok (.ireturn, 1) := by decide +kernel
def y_M_colour : MethodName := ⟨R_M, "colour", "(I)I"⟩
abbrev b_M_colour : ByteArray := prog_4_method_19_code
def w_M_colour : List Cond := .code y_M_colour b_M_colour 4 (some .int) :: TB
theorem d_M_colour_0 : decode b_M_colour 0 = .ok (.aload_n 0, 1) := by decide +kernel
theorem d_M_colour_1 : decode b_M_colour 1 = .ok (.bipush 8, 2) := by decide +kernel
theorem d_M_colour_3 : decode b_M_colour 3 = .ok (.iconst 2, 1) := by decide +kernel
theorem d_M_colour_4 : decode b_M_colour 4 = .ok (.invokevirtual 43, 3) := by decide +kernel
theorem d_M_colour_7 : decode b_M_colour 7 = .ok (.istore_n 2, 1) := by decide +kernel
theorem d_M_colour_8 : decode b_M_colour 8 = .ok (.aload_n 0, 1) := by decide +kernel
theorem d_M_colour_9 : decode b_M_colour 9 = .ok (.getfield 29, 3) := by decide +kernel
theorem d_M_colour_12 : decode b_M_colour 12 = .ok (.iconst 4, 1) := by decide +kernel
theorem d_M_colour_13 : decode b_M_colour 13 = .ok (.baload, 1) := by decide +kernel
theorem d_M_colour_14 : decode b_M_colour 14 = .ok (.ifCond .ne 12, 3) := by decide +kernel
theorem d_M_colour_17 : decode b_M_colour 17 = .ok (.aload_n 0, 1) := by decide +kernel
theorem d_M_colour_18 : decode b_M_colour 18 = .ok (.getfield 29, 3) := by decide +kernel
theorem d_M_colour_21 : decode b_M_colour 21 = .ok (.iconst 5, 1) := by decide +kernel
theorem d_M_colour_22 : decode b_M_colour 22 = .ok (.baload, 1) := by decide +kernel
theorem d_M_colour_23 : decode b_M_colour 23 = .ok (.ifCond .eq 7, 3) := by decide +kernel
theorem d_M_colour_26 : decode b_M_colour 26 = .ok (.iconst 1, 1) := by decide +kernel
theorem d_M_colour_27 : decode b_M_colour 27 = .ok (.goto 4, 3) := by decide +kernel
theorem d_M_colour_30 : decode b_M_colour 30 = .ok (.iconst 0, 1) := by decide +kernel
theorem d_M_colour_31 : decode b_M_colour 31 = .ok (.istore_n 3, 1) := by decide +kernel
theorem d_M_colour_32 : decode b_M_colour 32 = .ok (.aload_n 0, 1) := by decide +kernel
theorem d_M_colour_33 : decode b_M_colour 33 = .ok (.iconst 4, 1) := by decide +kernel
theorem d_M_colour_34 : decode b_M_colour 34 = .ok (.iconst 0, 1) := by decide +kernel
theorem d_M_colour_35 : decode b_M_colour 35 = .ok (.invokevirtual 43, 3) := by decide +kernel
theorem d_M_colour_38 : decode b_M_colour 38 = .ok (.ifCond .eq 5, 3) := by decide +kernel
theorem d_M_colour_41 : decode b_M_colour 41 = .ok (.iconst 0, 1) := by decide +kernel
theorem d_M_colour_42 : decode b_M_colour 42 = .ok (.ireturn, 1) := by decide +kernel
theorem d_M_colour_43 : decode b_M_colour 43 = .ok (.iload_n 2, 1) := by decide +kernel
theorem d_M_colour_44 : decode b_M_colour 44 = .ok (.ifCond .eq 7, 3) := by decide +kernel
theorem d_M_colour_47 : decode b_M_colour 47 = .ok (.iload_n 3, 1) := by decide +kernel
theorem d_M_colour_48 : decode b_M_colour 48 = .ok (.ifCond .ne 53, 3) := by decide +kernel
theorem d_M_colour_51 : decode b_M_colour 51 = .ok (.aload_n 0, 1) := by decide +kernel
theorem d_M_colour_52 : decode b_M_colour 52 = .ok (.getfield 29, 3) := by decide +kernel
theorem d_M_colour_55 : decode b_M_colour 55 = .ok (.iconst 0, 1) := by decide +kernel
theorem d_M_colour_56 : decode b_M_colour 56 = .ok (.baload, 1) := by decide +kernel
theorem d_M_colour_57 : decode b_M_colour 57 = .ok (.ifCond .ne 12, 3) := by decide +kernel
theorem d_M_colour_60 : decode b_M_colour 60 = .ok (.aload_n 0, 1) := by decide +kernel
theorem d_M_colour_61 : decode b_M_colour 61 = .ok (.getfield 29, 3) := by decide +kernel
theorem d_M_colour_64 : decode b_M_colour 64 = .ok (.iconst 2, 1) := by decide +kernel
theorem d_M_colour_65 : decode b_M_colour 65 = .ok (.baload, 1) := by decide +kernel
theorem d_M_colour_66 : decode b_M_colour 66 = .ok (.ifCond .eq 10, 3) := by decide +kernel
theorem d_M_colour_69 : decode b_M_colour 69 = .ok (.aload_n 0, 1) := by decide +kernel
theorem d_M_colour_70 : decode b_M_colour 70 = .ok (.getfield 7, 3) := by decide +kernel
theorem d_M_colour_73 : decode b_M_colour 73 = .ok (.iconst 2, 1) := by decide +kernel
theorem d_M_colour_74 : decode b_M_colour 74 = .ok (.iaload, 1) := by decide +kernel
theorem d_M_colour_75 : decode b_M_colour 75 = .ok (.ireturn, 1) := by decide +kernel
theorem d_M_colour_76 : decode b_M_colour 76 = .ok (.aload_n 0, 1) := by decide +kernel
theorem d_M_colour_77 : decode b_M_colour 77 = .ok (.getfield 29, 3) := by decide +kernel
theorem d_M_colour_80 : decode b_M_colour 80 = .ok (.iconst 1, 1) := by decide +kernel
theorem d_M_colour_81 : decode b_M_colour 81 = .ok (.baload, 1) := by decide +kernel
theorem d_M_colour_82 : decode b_M_colour 82 = .ok (.ifCond .ne 12, 3) := by decide +kernel
theorem d_M_colour_85 : decode b_M_colour 85 = .ok (.aload_n 0, 1) := by decide +kernel
theorem d_M_colour_86 : decode b_M_colour 86 = .ok (.getfield 29, 3) := by decide +kernel
theorem d_M_colour_89 : decode b_M_colour 89 = .ok (.iconst 3, 1) := by decide +kernel
theorem d_M_colour_90 : decode b_M_colour 90 = .ok (.baload, 1) := by decide +kernel
theorem d_M_colour_91 : decode b_M_colour 91 = .ok (.ifCond .eq 10, 3) := by decide +kernel
theorem d_M_colour_94 : decode b_M_colour 94 = .ok (.aload_n 0, 1) := by decide +kernel
theorem d_M_colour_95 : decode b_M_colour 95 = .ok (.getfield 7, 3) := by decide +kernel
theorem d_M_colour_98 : decode b_M_colour 98 = .ok (.iconst 3, 1) := by decide +kernel
theorem d_M_colour_99 : decode b_M_colour 99 = .ok (.iaload, 1) := by decide +kernel
theorem d_M_colour_100 : decode b_M_colour 100 = .ok (.ireturn, 1) := by decide +kernel
theorem d_M_colour_101 : decode b_M_colour 101 = .ok (.iload_n 3, 1) := by decide +kernel
theorem d_M_colour_102 : decode b_M_colour 102 = .ok (.ifCond .ne 10, 3) := by decide +kernel
theorem d_M_colour_105 : decode b_M_colour 105 = .ok (.aload_n 0, 1) := by decide +kernel
theorem d_M_colour_106 : decode b_M_colour 106 = .ok (.getfield 7, 3) := by decide +kernel
theorem d_M_colour_109 : decode b_M_colour 109 = .ok (.iconst 0, 1) := by decide +kernel
theorem d_M_colour_110 : decode b_M_colour 110 = .ok (.iaload, 1) := by decide +kernel
theorem d_M_colour_111 : decode b_M_colour 111 = .ok (.ireturn, 1) := by decide +kernel
theorem d_M_colour_112 : decode b_M_colour 112 = .ok (.aload_n 0, 1) := by decide +kernel
theorem d_M_colour_113 : decode b_M_colour 113 = .ok (.bipush 8, 2) := by decide +kernel
theorem d_M_colour_115 : decode b_M_colour 115 = .ok (.iconst 1, 1) := by decide +kernel
theorem d_M_colour_116 : decode b_M_colour 116 = .ok (.invokevirtual 43, 3) := by decide +kernel
theorem d_M_colour_119 : decode b_M_colour 119 = .ok (.ifCond .eq 31, 3) := by decide +kernel
theorem d_M_colour_122 : decode b_M_colour 122 = .ok (.aload_n 0, 1) := by decide +kernel
theorem d_M_colour_123 : decode b_M_colour 123 = .ok (.getfield 29, 3) := by decide +kernel
theorem d_M_colour_126 : decode b_M_colour 126 = .ok (.iconst 5, 1) := by decide +kernel
theorem d_M_colour_127 : decode b_M_colour 127 = .ok (.baload, 1) := by decide +kernel
theorem d_M_colour_128 : decode b_M_colour 128 = .ok (.ifCond .eq 22, 3) := by decide +kernel
theorem d_M_colour_131 : decode b_M_colour 131 = .ok (.aload_n 0, 1) := by decide +kernel
theorem d_M_colour_132 : decode b_M_colour 132 = .ok (.getfield 7, 3) := by decide +kernel
theorem d_M_colour_135 : decode b_M_colour 135 = .ok (.iload_n 1, 1) := by decide +kernel
theorem d_M_colour_136 : decode b_M_colour 136 = .ok (.bipush 80, 2) := by decide +kernel
theorem d_M_colour_138 : decode b_M_colour 138 = .ok (.if_icmp .ge 7, 3) := by decide +kernel
theorem d_M_colour_141 : decode b_M_colour 141 = .ok (.iconst 2, 1) := by decide +kernel
theorem d_M_colour_142 : decode b_M_colour 142 = .ok (.goto 4, 3) := by decide +kernel
theorem d_M_colour_145 : decode b_M_colour 145 = .ok (.iconst 3, 1) := by decide +kernel
theorem d_M_colour_146 : decode b_M_colour 146 = .ok (.iaload, 1) := by decide +kernel
theorem d_M_colour_147 : decode b_M_colour 147 = .ok (.goto 9, 3) := by decide +kernel
theorem d_M_colour_150 : decode b_M_colour 150 = .ok (.aload_n 0, 1) := by decide +kernel
theorem d_M_colour_151 : decode b_M_colour 151 = .ok (.getfield 7, 3) := by decide +kernel
theorem d_M_colour_154 : decode b_M_colour 154 = .ok (.iconst 1, 1) := by decide +kernel
theorem d_M_colour_155 : decode b_M_colour 155 = .ok (.iaload, 1) := by decide +kernel
theorem d_M_colour_156 : decode b_M_colour 156 = .ok (.ireturn, 1) := by decide +kernel
def y_M_draw : MethodName := ⟨R_M, "draw", "(I)V"⟩
abbrev b_M_draw : ByteArray := prog_4_method_20_code
def w_M_draw : List Cond := .code y_M_draw b_M_draw 3 none :: TB
theorem d_M_draw_0 : decode b_M_draw 0 = .ok (.iconst 0, 1) := by decide +kernel
theorem d_M_draw_1 : decode b_M_draw 1 = .ok (.istore_n 2, 1) := by decide +kernel
theorem d_M_draw_2 : decode b_M_draw 2 = .ok (.iload_n 2, 1) := by decide +kernel
theorem d_M_draw_3 : decode b_M_draw 3 = .ok (.bipush 6, 2) := by decide +kernel
theorem d_M_draw_5 : decode b_M_draw 5 = .ok (.if_icmp .ge 21, 3) := by decide +kernel
theorem d_M_draw_8 : decode b_M_draw 8 = .ok (.aload_n 0, 1) := by decide +kernel
theorem d_M_draw_9 : decode b_M_draw 9 = .ok (.getfield 29, 3) := by decide +kernel
theorem d_M_draw_12 : decode b_M_draw 12 = .ok (.iload_n 2, 1) := by decide +kernel
theorem d_M_draw_13 : decode b_M_draw 13 = .ok (.aload_n 0, 1) := by decide +kernel
theorem d_M_draw_14 : decode b_M_draw 14 = .ok (.iload_n 2, 1) := by decide +kernel
theorem d_M_draw_15 : decode b_M_draw 15 = .ok (.iload_n 1, 1) := by decide +kernel
theorem d_M_draw_16 : decode b_M_draw 16 = .ok (.invokevirtual 98, 3) := by decide +kernel
theorem d_M_draw_19 : decode b_M_draw 19 = .ok (.bastore, 1) := by decide +kernel
theorem d_M_draw_20 : decode b_M_draw 20 = .ok (.iinc 2 1, 3) := by decide +kernel
theorem d_M_draw_23 : decode b_M_draw 23 = .ok (.goto (-21), 3) := by decide +kernel
theorem d_M_draw_26 : decode b_M_draw 26 = .ok (.iconst 0, 1) := by decide +kernel
theorem d_M_draw_27 : decode b_M_draw 27 = .ok (.istore_n 2, 1) := by decide +kernel
theorem d_M_draw_28 : decode b_M_draw 28 = .ok (.iload_n 2, 1) := by decide +kernel
theorem d_M_draw_29 : decode b_M_draw 29 = .ok (.bipush 36, 2) := by decide +kernel
theorem d_M_draw_31 : decode b_M_draw 31 = .ok (.if_icmp .ge 64, 3) := by decide +kernel
theorem d_M_draw_34 : decode b_M_draw 34 = .ok (.aload_n 0, 1) := by decide +kernel
theorem d_M_draw_35 : decode b_M_draw 35 = .ok (.getfield 22, 3) := by decide +kernel
theorem d_M_draw_38 : decode b_M_draw 38 = .ok (.iload_n 2, 1) := by decide +kernel
theorem d_M_draw_39 : decode b_M_draw 39 = .ok (.aload_n 0, 1) := by decide +kernel
theorem d_M_draw_40 : decode b_M_draw 40 = .ok (.getfield 22, 3) := by decide +kernel
theorem d_M_draw_43 : decode b_M_draw 43 = .ok (.iload_n 2, 1) := by decide +kernel
theorem d_M_draw_44 : decode b_M_draw 44 = .ok (.baload, 1) := by decide +kernel
theorem d_M_draw_45 : decode b_M_draw 45 = .ok (.ifCond .ne 38, 3) := by decide +kernel
theorem d_M_draw_48 : decode b_M_draw 48 = .ok (.iload_n 2, 1) := by decide +kernel
theorem d_M_draw_49 : decode b_M_draw 49 = .ok (.bipush 6, 2) := by decide +kernel
theorem d_M_draw_51 : decode b_M_draw 51 = .ok (.idiv, 1) := by decide +kernel
theorem d_M_draw_52 : decode b_M_draw 52 = .ok (.iload_n 2, 1) := by decide +kernel
theorem d_M_draw_53 : decode b_M_draw 53 = .ok (.bipush 6, 2) := by decide +kernel
theorem d_M_draw_55 : decode b_M_draw 55 = .ok (.irem, 1) := by decide +kernel
theorem d_M_draw_56 : decode b_M_draw 56 = .ok (.if_icmp .eq 31, 3) := by decide +kernel
theorem d_M_draw_59 : decode b_M_draw 59 = .ok (.aload_n 0, 1) := by decide +kernel
theorem d_M_draw_60 : decode b_M_draw 60 = .ok (.getfield 29, 3) := by decide +kernel
theorem d_M_draw_63 : decode b_M_draw 63 = .ok (.iload_n 2, 1) := by decide +kernel
theorem d_M_draw_64 : decode b_M_draw 64 = .ok (.bipush 6, 2) := by decide +kernel
theorem d_M_draw_66 : decode b_M_draw 66 = .ok (.idiv, 1) := by decide +kernel
theorem d_M_draw_67 : decode b_M_draw 67 = .ok (.baload, 1) := by decide +kernel
theorem d_M_draw_68 : decode b_M_draw 68 = .ok (.ifCond .eq 19, 3) := by decide +kernel
theorem d_M_draw_71 : decode b_M_draw 71 = .ok (.aload_n 0, 1) := by decide +kernel
theorem d_M_draw_72 : decode b_M_draw 72 = .ok (.getfield 29, 3) := by decide +kernel
theorem d_M_draw_75 : decode b_M_draw 75 = .ok (.iload_n 2, 1) := by decide +kernel
theorem d_M_draw_76 : decode b_M_draw 76 = .ok (.bipush 6, 2) := by decide +kernel
theorem d_M_draw_78 : decode b_M_draw 78 = .ok (.irem, 1) := by decide +kernel
theorem d_M_draw_79 : decode b_M_draw 79 = .ok (.baload, 1) := by decide +kernel
theorem d_M_draw_80 : decode b_M_draw 80 = .ok (.ifCond .eq 7, 3) := by decide +kernel
theorem d_M_draw_83 : decode b_M_draw 83 = .ok (.iconst 1, 1) := by decide +kernel
theorem d_M_draw_84 : decode b_M_draw 84 = .ok (.goto 4, 3) := by decide +kernel
theorem d_M_draw_87 : decode b_M_draw 87 = .ok (.iconst 0, 1) := by decide +kernel
theorem d_M_draw_88 : decode b_M_draw 88 = .ok (.bastore, 1) := by decide +kernel
theorem d_M_draw_89 : decode b_M_draw 89 = .ok (.iinc 2 1, 3) := by decide +kernel
theorem d_M_draw_92 : decode b_M_draw 92 = .ok (.goto (-64), 3) := by decide +kernel
theorem d_M_draw_95 : decode b_M_draw 95 = .ok (.aload_n 0, 1) := by decide +kernel
theorem d_M_draw_96 : decode b_M_draw 96 = .ok (.getfield 26, 3) := by decide +kernel
theorem d_M_draw_99 : decode b_M_draw 99 = .ok (.iload_n 1, 1) := by decide +kernel
theorem d_M_draw_100 : decode b_M_draw 100 = .ok (.aload_n 0, 1) := by decide +kernel
theorem d_M_draw_101 : decode b_M_draw 101 = .ok (.iload_n 1, 1) := by decide +kernel
theorem d_M_draw_102 : decode b_M_draw 102 = .ok (.invokevirtual 101, 3) := by decide +kernel
theorem d_M_draw_105 : decode b_M_draw 105 = .ok (.iastore, 1) := by decide +kernel
theorem d_M_draw_106 : decode b_M_draw 106 = .ok (.aload_n 0, 1) := by decide +kernel
theorem d_M_draw_107 : decode b_M_draw 107 = .ok (.dup, 1) := by decide +kernel
theorem d_M_draw_108 : decode b_M_draw 108 = .ok (.getfield 104, 3) := by decide +kernel
theorem d_M_draw_111 : decode b_M_draw 111 = .ok (.iconst 1, 1) := by decide +kernel
theorem d_M_draw_112 : decode b_M_draw 112 = .ok (.iadd, 1) := by decide +kernel
theorem d_M_draw_113 : decode b_M_draw 113 = .ok (.putfield 104, 3) := by decide +kernel
theorem d_M_draw_116 : decode b_M_draw 116 = .ok (.return_, 1) := by decide +kernel
def y_M_timer : MethodName := ⟨R_M, "timer", "()V"⟩
abbrev b_M_timer : ByteArray := prog_4_method_21_code
def w_M_timer : List Cond := .code y_M_timer b_M_timer 1 none :: TB
theorem d_M_timer_0 : decode b_M_timer 0 = .ok (.aload_n 0, 1) := by decide +kernel
theorem d_M_timer_1 : decode b_M_timer 1 = .ok (.dup, 1) := by decide +kernel
theorem d_M_timer_2 : decode b_M_timer 2 = .ok (.getfield 107, 3) := by decide +kernel
theorem d_M_timer_5 : decode b_M_timer 5 = .ok (.iconst 1, 1) := by decide +kernel
theorem d_M_timer_6 : decode b_M_timer 6 = .ok (.iadd, 1) := by decide +kernel
theorem d_M_timer_7 : decode b_M_timer 7 = .ok (.putfield 107, 3) := by decide +kernel
theorem d_M_timer_10 : decode b_M_timer 10 = .ok (.aload_n 0, 1) := by decide +kernel
theorem d_M_timer_11 : decode b_M_timer 11 = .ok (.getfield 107, 3) := by decide +kernel
theorem d_M_timer_14 : decode b_M_timer 14 = .ok (.iconst 3, 1) := by decide +kernel
theorem d_M_timer_15 : decode b_M_timer 15 = .ok (.aload_n 0, 1) := by decide +kernel
theorem d_M_timer_16 : decode b_M_timer 16 = .ok (.getfield 32, 3) := by decide +kernel
theorem d_M_timer_19 : decode b_M_timer 19 = .ok (.imul, 1) := by decide +kernel
theorem d_M_timer_20 : decode b_M_timer 20 = .ok (.if_icmp .ge 4, 3) := by decide +kernel
theorem d_M_timer_23 : decode b_M_timer 23 = .ok (.return_, 1) := by decide +kernel
theorem d_M_timer_24 : decode b_M_timer 24 = .ok (.aload_n 0, 1) := by decide +kernel
theorem d_M_timer_25 : decode b_M_timer 25 = .ok (.iconst 0, 1) := by decide +kernel
theorem d_M_timer_26 : decode b_M_timer 26 = .ok (.putfield 107, 3) := by decide +kernel
theorem d_M_timer_29 : decode b_M_timer 29 = .ok (.aload_n 0, 1) := by decide +kernel
theorem d_M_timer_30 : decode b_M_timer 30 = .ok (.dup, 1) := by decide +kernel
theorem d_M_timer_31 : decode b_M_timer 31 = .ok (.getfield 110, 3) := by decide +kernel
theorem d_M_timer_34 : decode b_M_timer 34 = .ok (.iconst 1, 1) := by decide +kernel
theorem d_M_timer_35 : decode b_M_timer 35 = .ok (.isub, 1) := by decide +kernel
theorem d_M_timer_36 : decode b_M_timer 36 = .ok (.putfield 110, 3) := by decide +kernel
theorem d_M_timer_39 : decode b_M_timer 39 = .ok (.aload_n 0, 1) := by decide +kernel
theorem d_M_timer_40 : decode b_M_timer 40 = .ok (.getfield 110, 3) := by decide +kernel
theorem d_M_timer_43 : decode b_M_timer 43 = .ok (.ifCond .ge 20, 3) := by decide +kernel
theorem d_M_timer_46 : decode b_M_timer 46 = .ok (.aload_n 0, 1) := by decide +kernel
theorem d_M_timer_47 : decode b_M_timer 47 = .ok (.sipush 255, 3) := by decide +kernel
theorem d_M_timer_50 : decode b_M_timer 50 = .ok (.putfield 110, 3) := by decide +kernel
theorem d_M_timer_53 : decode b_M_timer 53 = .ok (.aload_n 0, 1) := by decide +kernel
theorem d_M_timer_54 : decode b_M_timer 54 = .ok (.iconst 1, 1) := by decide +kernel
theorem d_M_timer_55 : decode b_M_timer 55 = .ok (.putfield 113, 3) := by decide +kernel
theorem d_M_timer_58 : decode b_M_timer 58 = .ok (.aload_n 0, 1) := by decide +kernel
theorem d_M_timer_59 : decode b_M_timer 59 = .ok (.iconst 1, 1) := by decide +kernel
theorem d_M_timer_60 : decode b_M_timer 60 = .ok (.putfield 32, 3) := by decide +kernel
theorem d_M_timer_63 : decode b_M_timer 63 = .ok (.return_, 1) := by decide +kernel
def y_M_oneClock : MethodName := ⟨R_M, "oneClock", "()V"⟩
abbrev b_M_oneClock : ByteArray := prog_4_method_22_code
def w_M_oneClock : List Cond := .code y_M_oneClock b_M_oneClock 1 none :: TB
theorem d_M_oneClock_0 : decode b_M_oneClock 0 = .ok (.aload_n 0, 1) := by decide +kernel
theorem d_M_oneClock_1 : decode b_M_oneClock 1 = .ok (.getfield 50, 3) := by decide +kernel
theorem d_M_oneClock_4 : decode b_M_oneClock 4 = .ok (.bipush 68, 2) := by decide +kernel
theorem d_M_oneClock_6 : decode b_M_oneClock 6 = .ok (.if_icmp .lt 14, 3) := by decide +kernel
theorem d_M_oneClock_9 : decode b_M_oneClock 9 = .ok (.aload_n 0, 1) := by decide +kernel
theorem d_M_oneClock_10 : decode b_M_oneClock 10 = .ok (.aload_n 0, 1) := by decide +kernel
theorem d_M_oneClock_11 : decode b_M_oneClock 11 = .ok (.getfield 50, 3) := by decide +kernel
theorem d_M_oneClock_14 : decode b_M_oneClock 14 = .ok (.bipush 68, 2) := by decide +kernel
theorem d_M_oneClock_16 : decode b_M_oneClock 16 = .ok (.isub, 1) := by decide +kernel
theorem d_M_oneClock_17 : decode b_M_oneClock 17 = .ok (.invokevirtual 116, 3) := by decide +kernel
theorem d_M_oneClock_20 : decode b_M_oneClock 20 = .ok (.aload_n 0, 1) := by decide +kernel
theorem d_M_oneClock_21 : decode b_M_oneClock 21 = .ok (.invokevirtual 119, 3) := by decide +kernel
theorem d_M_oneClock_24 : decode b_M_oneClock 24 = .ok (.aload_n 0, 1) := by decide +kernel
theorem d_M_oneClock_25 : decode b_M_oneClock 25 = .ok (.dup, 1) := by decide +kernel
theorem d_M_oneClock_26 : decode b_M_oneClock 26 = .ok (.getfield 50, 3) := by decide +kernel
theorem d_M_oneClock_29 : decode b_M_oneClock 29 = .ok (.iconst 1, 1) := by decide +kernel
theorem d_M_oneClock_30 : decode b_M_oneClock 30 = .ok (.iadd, 1) := by decide +kernel
theorem d_M_oneClock_31 : decode b_M_oneClock 31 = .ok (.putfield 50, 3) := by decide +kernel
theorem d_M_oneClock_34 : decode b_M_oneClock 34 = .ok (.aload_n 0, 1) := by decide +kernel
theorem d_M_oneClock_35 : decode b_M_oneClock 35 = .ok (.getfield 50, 3) := by decide +kernel
theorem d_M_oneClock_38 : decode b_M_oneClock 38 = .ok (.sipush 228, 3) := by decide +kernel
theorem d_M_oneClock_41 : decode b_M_oneClock 41 = .ok (.if_icmp .ne 18, 3) := by decide +kernel
theorem d_M_oneClock_44 : decode b_M_oneClock 44 = .ok (.aload_n 0, 1) := by decide +kernel
theorem d_M_oneClock_45 : decode b_M_oneClock 45 = .ok (.iconst 0, 1) := by decide +kernel
theorem d_M_oneClock_46 : decode b_M_oneClock 46 = .ok (.putfield 50, 3) := by decide +kernel
theorem d_M_oneClock_49 : decode b_M_oneClock 49 = .ok (.aload_n 0, 1) := by decide +kernel
theorem d_M_oneClock_50 : decode b_M_oneClock 50 = .ok (.dup, 1) := by decide +kernel
theorem d_M_oneClock_51 : decode b_M_oneClock 51 = .ok (.getfield 122, 3) := by decide +kernel
theorem d_M_oneClock_54 : decode b_M_oneClock 54 = .ok (.iconst 1, 1) := by decide +kernel
theorem d_M_oneClock_55 : decode b_M_oneClock 55 = .ok (.iadd, 1) := by decide +kernel
theorem d_M_oneClock_56 : decode b_M_oneClock 56 = .ok (.putfield 122, 3) := by decide +kernel
theorem d_M_oneClock_59 : decode b_M_oneClock 59 = .ok (.return_, 1) := by decide +kernel
def y_M_clocks : MethodName := ⟨R_M, "clocks", "(I)I"⟩
abbrev b_M_clocks : ByteArray := prog_4_method_23_code
def w_M_clocks : List Cond := .code y_M_clocks b_M_clocks 3 (some .int) :: TB
theorem d_M_clocks_0 : decode b_M_clocks 0 = .ok (.aload_n 0, 1) := by decide +kernel
theorem d_M_clocks_1 : decode b_M_clocks 1 = .ok (.iload_n 1, 1) := by decide +kernel
theorem d_M_clocks_2 : decode b_M_clocks 2 = .ok (.ifCond .lt 14, 3) := by decide +kernel
theorem d_M_clocks_5 : decode b_M_clocks 5 = .ok (.iload_n 1, 1) := by decide +kernel
theorem d_M_clocks_6 : decode b_M_clocks 6 = .ok (.sipush 2000, 3) := by decide +kernel
theorem d_M_clocks_9 : decode b_M_clocks 9 = .ok (.if_icmp .gt 7, 3) := by decide +kernel
theorem d_M_clocks_12 : decode b_M_clocks 12 = .ok (.iconst 1, 1) := by decide +kernel
theorem d_M_clocks_13 : decode b_M_clocks 13 = .ok (.goto 4, 3) := by decide +kernel
theorem d_M_clocks_16 : decode b_M_clocks 16 = .ok (.iconst 0, 1) := by decide +kernel
theorem d_M_clocks_17 : decode b_M_clocks 17 = .ok (.iconst 1, 1) := by decide +kernel
theorem d_M_clocks_18 : decode b_M_clocks 18 = .ok (.invokevirtual 60, 3) := by decide +kernel
theorem d_M_clocks_21 : decode b_M_clocks 21 = .ok (.ifCond .ne 5, 3) := by decide +kernel
theorem d_M_clocks_24 : decode b_M_clocks 24 = .ok (.iconst 0, 1) := by decide +kernel
theorem d_M_clocks_25 : decode b_M_clocks 25 = .ok (.ireturn, 1) := by decide +kernel
theorem d_M_clocks_26 : decode b_M_clocks 26 = .ok (.iconst 0, 1) := by decide +kernel
theorem d_M_clocks_27 : decode b_M_clocks 27 = .ok (.istore_n 2, 1) := by decide +kernel
theorem d_M_clocks_28 : decode b_M_clocks 28 = .ok (.iload_n 2, 1) := by decide +kernel
theorem d_M_clocks_29 : decode b_M_clocks 29 = .ok (.iload_n 1, 1) := by decide +kernel
theorem d_M_clocks_30 : decode b_M_clocks 30 = .ok (.if_icmp .ge 13, 3) := by decide +kernel
theorem d_M_clocks_33 : decode b_M_clocks 33 = .ok (.aload_n 0, 1) := by decide +kernel
theorem d_M_clocks_34 : decode b_M_clocks 34 = .ok (.invokevirtual 125, 3) := by decide +kernel
theorem d_M_clocks_37 : decode b_M_clocks 37 = .ok (.iinc 2 1, 3) := by decide +kernel
theorem d_M_clocks_40 : decode b_M_clocks 40 = .ok (.goto (-12), 3) := by decide +kernel
theorem d_M_clocks_43 : decode b_M_clocks 43 = .ok (.aload_n 0, 1) := by decide +kernel
theorem d_M_clocks_44 : decode b_M_clocks 44 = .ok (.getfield 50, 3) := by decide +kernel
theorem d_M_clocks_47 : decode b_M_clocks 47 = .ok (.ireturn, 1) := by decide +kernel
def y_M_sync : MethodName := ⟨R_M, "sync", "()I"⟩
abbrev b_M_sync : ByteArray := prog_4_method_24_code
def w_M_sync : List Cond := .code y_M_sync b_M_sync 3 (some .int) :: TB
theorem d_M_sync_0 : decode b_M_sync 0 = .ok (.aload_n 0, 1) := by decide +kernel
theorem d_M_sync_1 : decode b_M_sync 1 = .ok (.iconst 0, 1) := by decide +kernel
theorem d_M_sync_2 : decode b_M_sync 2 = .ok (.putfield 36, 3) := by decide +kernel
theorem d_M_sync_5 : decode b_M_sync 5 = .ok (.sipush 228, 3) := by decide +kernel
theorem d_M_sync_8 : decode b_M_sync 8 = .ok (.aload_n 0, 1) := by decide +kernel
theorem d_M_sync_9 : decode b_M_sync 9 = .ok (.getfield 50, 3) := by decide +kernel
theorem d_M_sync_12 : decode b_M_sync 12 = .ok (.isub, 1) := by decide +kernel
theorem d_M_sync_13 : decode b_M_sync 13 = .ok (.istore_n 1, 1) := by decide +kernel
theorem d_M_sync_14 : decode b_M_sync 14 = .ok (.iconst 0, 1) := by decide +kernel
theorem d_M_sync_15 : decode b_M_sync 15 = .ok (.istore_n 2, 1) := by decide +kernel
theorem d_M_sync_16 : decode b_M_sync 16 = .ok (.iload_n 2, 1) := by decide +kernel
theorem d_M_sync_17 : decode b_M_sync 17 = .ok (.iload_n 1, 1) := by decide +kernel
theorem d_M_sync_18 : decode b_M_sync 18 = .ok (.if_icmp .ge 13, 3) := by decide +kernel
theorem d_M_sync_21 : decode b_M_sync 21 = .ok (.aload_n 0, 1) := by decide +kernel
theorem d_M_sync_22 : decode b_M_sync 22 = .ok (.invokevirtual 125, 3) := by decide +kernel
theorem d_M_sync_25 : decode b_M_sync 25 = .ok (.iinc 2 1, 3) := by decide +kernel
theorem d_M_sync_28 : decode b_M_sync 28 = .ok (.goto (-12), 3) := by decide +kernel
theorem d_M_sync_31 : decode b_M_sync 31 = .ok (.iload_n 1, 1) := by decide +kernel
theorem d_M_sync_32 : decode b_M_sync 32 = .ok (.ireturn, 1) := by decide +kernel
def y_M_isPixel : MethodName := ⟨R_M, "isPixel", "(I)Z"⟩
abbrev b_M_isPixel : ByteArray := prog_4_method_25_code
def w_M_isPixel : List Cond := .code y_M_isPixel b_M_isPixel 1 (some .boolean) :: TB
theorem d_M_isPixel_0 : decode b_M_isPixel 0 = .ok (.iload_n 0, 1) := by decide +kernel
theorem d_M_isPixel_1 : decode b_M_isPixel 1 = .ok (.ifCond .lt 14, 3) := by decide +kernel
theorem d_M_isPixel_4 : decode b_M_isPixel 4 = .ok (.iload_n 0, 1) := by decide +kernel
theorem d_M_isPixel_5 : decode b_M_isPixel 5 = .ok (.sipush 160, 3) := by decide +kernel
theorem d_M_isPixel_8 : decode b_M_isPixel 8 = .ok (.if_icmp .ge 7, 3) := by decide +kernel
theorem d_M_isPixel_11 : decode b_M_isPixel 11 = .ok (.iconst 1, 1) := by decide +kernel
theorem d_M_isPixel_12 : decode b_M_isPixel 12 = .ok (.goto 4, 3) := by decide +kernel
theorem d_M_isPixel_15 : decode b_M_isPixel 15 = .ok (.iconst 0, 1) := by decide +kernel
theorem d_M_isPixel_16 : decode b_M_isPixel 16 = .ok (.ireturn, 1) := by decide +kernel
def y_M_pixel : MethodName := ⟨R_M, "pixel", "(I)I"⟩
abbrev b_M_pixel : ByteArray := prog_4_method_26_code
def w_M_pixel : List Cond := .code y_M_pixel b_M_pixel 2 (some .int) :: TB
theorem d_M_pixel_0 : decode b_M_pixel 0 = .ok (.aload_n 0, 1) := by decide +kernel
theorem d_M_pixel_1 : decode b_M_pixel 1 = .ok (.iload_n 1, 1) := by decide +kernel
theorem d_M_pixel_2 : decode b_M_pixel 2 = .ok (.invokestatic 128, 3) := by decide +kernel
theorem d_M_pixel_5 : decode b_M_pixel 5 = .ok (.iconst 1, 1) := by decide +kernel
theorem d_M_pixel_6 : decode b_M_pixel 6 = .ok (.invokevirtual 60, 3) := by decide +kernel
theorem d_M_pixel_9 : decode b_M_pixel 9 = .ok (.ifCond .eq 12, 3) := by decide +kernel
theorem d_M_pixel_12 : decode b_M_pixel 12 = .ok (.aload_n 0, 1) := by decide +kernel
theorem d_M_pixel_13 : decode b_M_pixel 13 = .ok (.getfield 26, 3) := by decide +kernel
theorem d_M_pixel_16 : decode b_M_pixel 16 = .ok (.iload_n 1, 1) := by decide +kernel
theorem d_M_pixel_17 : decode b_M_pixel 17 = .ok (.iaload, 1) := by decide +kernel
theorem d_M_pixel_18 : decode b_M_pixel 18 = .ok (.goto 4, 3) := by decide +kernel
theorem d_M_pixel_21 : decode b_M_pixel 21 = .ok (.iconst 0, 1) := by decide +kernel
theorem d_M_pixel_22 : decode b_M_pixel 22 = .ok (.ireturn, 1) := by decide +kernel
def y_M_met : MethodName := ⟨R_M, "met", "(II)Z"⟩
abbrev b_M_met : ByteArray := prog_4_method_27_code
def w_M_met : List Cond := .code y_M_met b_M_met 3 (some .boolean) :: TB
theorem d_M_met_0 : decode b_M_met 0 = .ok (.aload_n 0, 1) := by decide +kernel
theorem d_M_met_1 : decode b_M_met 1 = .ok (.iload_n 1, 1) := by decide +kernel
theorem d_M_met_2 : decode b_M_met 2 = .ok (.ifCond .lt 28, 3) := by decide +kernel
theorem d_M_met_5 : decode b_M_met 5 = .ok (.iload_n 1, 1) := by decide +kernel
theorem d_M_met_6 : decode b_M_met 6 = .ok (.bipush 6, 2) := by decide +kernel
theorem d_M_met_8 : decode b_M_met 8 = .ok (.if_icmp .ge 22, 3) := by decide +kernel
theorem d_M_met_11 : decode b_M_met 11 = .ok (.iload_n 2, 1) := by decide +kernel
theorem d_M_met_12 : decode b_M_met 12 = .ok (.ifCond .lt 18, 3) := by decide +kernel
theorem d_M_met_15 : decode b_M_met 15 = .ok (.iload_n 2, 1) := by decide +kernel
theorem d_M_met_16 : decode b_M_met 16 = .ok (.bipush 6, 2) := by decide +kernel
theorem d_M_met_18 : decode b_M_met 18 = .ok (.if_icmp .ge 12, 3) := by decide +kernel
theorem d_M_met_21 : decode b_M_met 21 = .ok (.iload_n 1, 1) := by decide +kernel
theorem d_M_met_22 : decode b_M_met 22 = .ok (.iload_n 2, 1) := by decide +kernel
theorem d_M_met_23 : decode b_M_met 23 = .ok (.if_icmp .eq 7, 3) := by decide +kernel
theorem d_M_met_26 : decode b_M_met 26 = .ok (.iconst 1, 1) := by decide +kernel
theorem d_M_met_27 : decode b_M_met 27 = .ok (.goto 4, 3) := by decide +kernel
theorem d_M_met_30 : decode b_M_met 30 = .ok (.iconst 0, 1) := by decide +kernel
theorem d_M_met_31 : decode b_M_met 31 = .ok (.iconst 1, 1) := by decide +kernel
theorem d_M_met_32 : decode b_M_met 32 = .ok (.invokevirtual 60, 3) := by decide +kernel
theorem d_M_met_35 : decode b_M_met 35 = .ok (.ifCond .eq 21, 3) := by decide +kernel
theorem d_M_met_38 : decode b_M_met 38 = .ok (.aload_n 0, 1) := by decide +kernel
theorem d_M_met_39 : decode b_M_met 39 = .ok (.getfield 22, 3) := by decide +kernel
theorem d_M_met_42 : decode b_M_met 42 = .ok (.bipush 6, 2) := by decide +kernel
theorem d_M_met_44 : decode b_M_met 44 = .ok (.iload_n 1, 1) := by decide +kernel
theorem d_M_met_45 : decode b_M_met 45 = .ok (.imul, 1) := by decide +kernel
theorem d_M_met_46 : decode b_M_met 46 = .ok (.iload_n 2, 1) := by decide +kernel
theorem d_M_met_47 : decode b_M_met 47 = .ok (.iadd, 1) := by decide +kernel
theorem d_M_met_48 : decode b_M_met 48 = .ok (.baload, 1) := by decide +kernel
theorem d_M_met_49 : decode b_M_met 49 = .ok (.ifCond .eq 7, 3) := by decide +kernel
theorem d_M_met_52 : decode b_M_met 52 = .ok (.iconst 1, 1) := by decide +kernel
theorem d_M_met_53 : decode b_M_met 53 = .ok (.goto 4, 3) := by decide +kernel
theorem d_M_met_56 : decode b_M_met 56 = .ok (.iconst 0, 1) := by decide +kernel
theorem d_M_met_57 : decode b_M_met 57 = .ok (.ireturn, 1) := by decide +kernel
def y_M_place : MethodName := ⟨R_M, "place", "(I)I"⟩
abbrev b_M_place : ByteArray := prog_4_method_28_code
def w_M_place : List Cond := .code y_M_place b_M_place 2 (some .int) :: TB
theorem d_M_place_0 : decode b_M_place 0 = .ok (.aload_n 0, 1) := by decide +kernel
theorem d_M_place_1 : decode b_M_place 1 = .ok (.iload_n 1, 1) := by decide +kernel
theorem d_M_place_2 : decode b_M_place 2 = .ok (.ifCond .lt 12, 3) := by decide +kernel
theorem d_M_place_5 : decode b_M_place 5 = .ok (.iload_n 1, 1) := by decide +kernel
theorem d_M_place_6 : decode b_M_place 6 = .ok (.iconst 5, 1) := by decide +kernel
theorem d_M_place_7 : decode b_M_place 7 = .ok (.if_icmp .ge 7, 3) := by decide +kernel
theorem d_M_place_10 : decode b_M_place 10 = .ok (.iconst 1, 1) := by decide +kernel
theorem d_M_place_11 : decode b_M_place 11 = .ok (.goto 4, 3) := by decide +kernel
theorem d_M_place_14 : decode b_M_place 14 = .ok (.iconst 0, 1) := by decide +kernel
theorem d_M_place_15 : decode b_M_place 15 = .ok (.iconst 1, 1) := by decide +kernel
theorem d_M_place_16 : decode b_M_place 16 = .ok (.invokevirtual 60, 3) := by decide +kernel
theorem d_M_place_19 : decode b_M_place 19 = .ok (.ifCond .eq 12, 3) := by decide +kernel
theorem d_M_place_22 : decode b_M_place 22 = .ok (.aload_n 0, 1) := by decide +kernel
theorem d_M_place_23 : decode b_M_place 23 = .ok (.getfield 13, 3) := by decide +kernel
theorem d_M_place_26 : decode b_M_place 26 = .ok (.iload_n 1, 1) := by decide +kernel
theorem d_M_place_27 : decode b_M_place 27 = .ok (.iaload, 1) := by decide +kernel
theorem d_M_place_28 : decode b_M_place 28 = .ok (.goto 4, 3) := by decide +kernel
theorem d_M_place_31 : decode b_M_place 31 = .ok (.iconst 0, 1) := by decide +kernel
theorem d_M_place_32 : decode b_M_place 32 = .ok (.ireturn, 1) := by decide +kernel
def y_M_there : MethodName := ⟨R_M, "there", "(II)Z"⟩
abbrev b_M_there : ByteArray := prog_4_method_29_code
def w_M_there : List Cond := .code y_M_there b_M_there 3 (some .boolean) :: TB
theorem d_M_there_0 : decode b_M_there 0 = .ok (.aload_n 0, 1) := by decide +kernel
theorem d_M_there_1 : decode b_M_there 1 = .ok (.iload_n 1, 1) := by decide +kernel
theorem d_M_there_2 : decode b_M_there 2 = .ok (.ifCond .lt 20, 3) := by decide +kernel
theorem d_M_there_5 : decode b_M_there 5 = .ok (.iload_n 1, 1) := by decide +kernel
theorem d_M_there_6 : decode b_M_there 6 = .ok (.bipush 6, 2) := by decide +kernel
theorem d_M_there_8 : decode b_M_there 8 = .ok (.if_icmp .ge 14, 3) := by decide +kernel
theorem d_M_there_11 : decode b_M_there 11 = .ok (.iload_n 2, 1) := by decide +kernel
theorem d_M_there_12 : decode b_M_there 12 = .ok (.invokestatic 128, 3) := by decide +kernel
theorem d_M_there_15 : decode b_M_there 15 = .ok (.ifCond .eq 7, 3) := by decide +kernel
theorem d_M_there_18 : decode b_M_there 18 = .ok (.iconst 1, 1) := by decide +kernel
theorem d_M_there_19 : decode b_M_there 19 = .ok (.goto 4, 3) := by decide +kernel
theorem d_M_there_22 : decode b_M_there 22 = .ok (.iconst 0, 1) := by decide +kernel
theorem d_M_there_23 : decode b_M_there 23 = .ok (.iconst 1, 1) := by decide +kernel
theorem d_M_there_24 : decode b_M_there 24 = .ok (.invokevirtual 60, 3) := by decide +kernel
theorem d_M_there_27 : decode b_M_there 27 = .ok (.ifCond .eq 16, 3) := by decide +kernel
theorem d_M_there_30 : decode b_M_there 30 = .ok (.aload_n 0, 1) := by decide +kernel
theorem d_M_there_31 : decode b_M_there 31 = .ok (.iload_n 1, 1) := by decide +kernel
theorem d_M_there_32 : decode b_M_there 32 = .ok (.iload_n 2, 1) := by decide +kernel
theorem d_M_there_33 : decode b_M_there 33 = .ok (.invokevirtual 98, 3) := by decide +kernel
theorem d_M_there_36 : decode b_M_there 36 = .ok (.ifCond .eq 7, 3) := by decide +kernel
theorem d_M_there_39 : decode b_M_there 39 = .ok (.iconst 1, 1) := by decide +kernel
theorem d_M_there_40 : decode b_M_there 40 = .ok (.goto 4, 3) := by decide +kernel
theorem d_M_there_43 : decode b_M_there 43 = .ok (.iconst 0, 1) := by decide +kernel
theorem d_M_there_44 : decode b_M_there 44 = .ok (.ireturn, 1) := by decide +kernel
def y_M_set : MethodName := ⟨R_M, "set", "(II)I"⟩
abbrev b_M_set : ByteArray := prog_4_method_30_code
def w_M_set : List Cond := .code y_M_set b_M_set 4 (some .int) :: TB
theorem d_M_set_0 : decode b_M_set 0 = .ok (.aload_n 0, 1) := by decide +kernel
theorem d_M_set_1 : decode b_M_set 1 = .ok (.iload_n 1, 1) := by decide +kernel
theorem d_M_set_2 : decode b_M_set 2 = .ok (.ifCond .lt 12, 3) := by decide +kernel
theorem d_M_set_5 : decode b_M_set 5 = .ok (.iload_n 1, 1) := by decide +kernel
theorem d_M_set_6 : decode b_M_set 6 = .ok (.iconst 3, 1) := by decide +kernel
theorem d_M_set_7 : decode b_M_set 7 = .ok (.if_icmp .gt 7, 3) := by decide +kernel
theorem d_M_set_10 : decode b_M_set 10 = .ok (.iconst 1, 1) := by decide +kernel
theorem d_M_set_11 : decode b_M_set 11 = .ok (.goto 4, 3) := by decide +kernel
theorem d_M_set_14 : decode b_M_set 14 = .ok (.iconst 0, 1) := by decide +kernel
theorem d_M_set_15 : decode b_M_set 15 = .ok (.iload_n 2, 1) := by decide +kernel
theorem d_M_set_16 : decode b_M_set 16 = .ok (.ifCond .lt 14, 3) := by decide +kernel
theorem d_M_set_19 : decode b_M_set 19 = .ok (.iload_n 2, 1) := by decide +kernel
theorem d_M_set_20 : decode b_M_set 20 = .ok (.sipush 255, 3) := by decide +kernel
theorem d_M_set_23 : decode b_M_set 23 = .ok (.if_icmp .gt 7, 3) := by decide +kernel
theorem d_M_set_26 : decode b_M_set 26 = .ok (.iconst 1, 1) := by decide +kernel
theorem d_M_set_27 : decode b_M_set 27 = .ok (.goto 4, 3) := by decide +kernel
theorem d_M_set_30 : decode b_M_set 30 = .ok (.iconst 0, 1) := by decide +kernel
theorem d_M_set_31 : decode b_M_set 31 = .ok (.invokevirtual 60, 3) := by decide +kernel
theorem d_M_set_34 : decode b_M_set 34 = .ok (.ifCond .ne 5, 3) := by decide +kernel
theorem d_M_set_37 : decode b_M_set 37 = .ok (.iconst 0, 1) := by decide +kernel
theorem d_M_set_38 : decode b_M_set 38 = .ok (.ireturn, 1) := by decide +kernel
theorem d_M_set_39 : decode b_M_set 39 = .ok (.aload_n 0, 1) := by decide +kernel
theorem d_M_set_40 : decode b_M_set 40 = .ok (.getfield 110, 3) := by decide +kernel
theorem d_M_set_43 : decode b_M_set 43 = .ok (.istore_n 3, 1) := by decide +kernel
theorem d_M_set_44 : decode b_M_set 44 = .ok (.aload_n 0, 1) := by decide +kernel
theorem d_M_set_45 : decode b_M_set 45 = .ok (.iload_n 2, 1) := by decide +kernel
theorem d_M_set_46 : decode b_M_set 46 = .ok (.putfield 110, 3) := by decide +kernel
theorem d_M_set_49 : decode b_M_set 49 = .ok (.aload_n 0, 1) := by decide +kernel
theorem d_M_set_50 : decode b_M_set 50 = .ok (.iload_n 1, 1) := by decide +kernel
theorem d_M_set_51 : decode b_M_set 51 = .ok (.iconst 3, 1) := by decide +kernel
theorem d_M_set_52 : decode b_M_set 52 = .ok (.if_icmp .ne 9, 3) := by decide +kernel
theorem d_M_set_55 : decode b_M_set 55 = .ok (.sipush 1024, 3) := by decide +kernel
theorem d_M_set_58 : decode b_M_set 58 = .ok (.goto 24, 3) := by decide +kernel
theorem d_M_set_61 : decode b_M_set 61 = .ok (.iload_n 1, 1) := by decide +kernel
theorem d_M_set_62 : decode b_M_set 62 = .ok (.iconst 2, 1) := by decide +kernel
theorem d_M_set_63 : decode b_M_set 63 = .ok (.if_icmp .ne 8, 3) := by decide +kernel
theorem d_M_set_66 : decode b_M_set 66 = .ok (.bipush 64, 2) := by decide +kernel
theorem d_M_set_68 : decode b_M_set 68 = .ok (.goto 14, 3) := by decide +kernel
theorem d_M_set_71 : decode b_M_set 71 = .ok (.iload_n 1, 1) := by decide +kernel
theorem d_M_set_72 : decode b_M_set 72 = .ok (.iconst 1, 1) := by decide +kernel
theorem d_M_set_73 : decode b_M_set 73 = .ok (.if_icmp .ne 8, 3) := by decide +kernel
theorem d_M_set_76 : decode b_M_set 76 = .ok (.bipush 8, 2) := by decide +kernel
theorem d_M_set_78 : decode b_M_set 78 = .ok (.goto 4, 3) := by decide +kernel
theorem d_M_set_81 : decode b_M_set 81 = .ok (.iconst 1, 1) := by decide +kernel
theorem d_M_set_82 : decode b_M_set 82 = .ok (.putfield 32, 3) := by decide +kernel
theorem d_M_set_85 : decode b_M_set 85 = .ok (.aload_n 0, 1) := by decide +kernel
theorem d_M_set_86 : decode b_M_set 86 = .ok (.iconst 0, 1) := by decide +kernel
theorem d_M_set_87 : decode b_M_set 87 = .ok (.putfield 107, 3) := by decide +kernel
theorem d_M_set_90 : decode b_M_set 90 = .ok (.aload_n 0, 1) := by decide +kernel
theorem d_M_set_91 : decode b_M_set 91 = .ok (.iconst 0, 1) := by decide +kernel
theorem d_M_set_92 : decode b_M_set 92 = .ok (.putfield 113, 3) := by decide +kernel
theorem d_M_set_95 : decode b_M_set 95 = .ok (.iload_n 3, 1) := by decide +kernel
theorem d_M_set_96 : decode b_M_set 96 = .ok (.ireturn, 1) := by decide +kernel
def y_M_count : MethodName := ⟨R_M, "count", "(I)I"⟩
abbrev b_M_count : ByteArray := prog_4_method_31_code
def w_M_count : List Cond := .code y_M_count b_M_count 4 (some .int) :: TB
theorem d_M_count_0 : decode b_M_count 0 = .ok (.aload_n 0, 1) := by decide +kernel
theorem d_M_count_1 : decode b_M_count 1 = .ok (.iload_n 1, 1) := by decide +kernel
theorem d_M_count_2 : decode b_M_count 2 = .ok (.ifCond .lt 12, 3) := by decide +kernel
theorem d_M_count_5 : decode b_M_count 5 = .ok (.iload_n 1, 1) := by decide +kernel
theorem d_M_count_6 : decode b_M_count 6 = .ok (.iconst 5, 1) := by decide +kernel
theorem d_M_count_7 : decode b_M_count 7 = .ok (.if_icmp .gt 7, 3) := by decide +kernel
theorem d_M_count_10 : decode b_M_count 10 = .ok (.iconst 1, 1) := by decide +kernel
theorem d_M_count_11 : decode b_M_count 11 = .ok (.goto 4, 3) := by decide +kernel
theorem d_M_count_14 : decode b_M_count 14 = .ok (.iconst 0, 1) := by decide +kernel
theorem d_M_count_15 : decode b_M_count 15 = .ok (.iconst 1, 1) := by decide +kernel
theorem d_M_count_16 : decode b_M_count 16 = .ok (.invokevirtual 60, 3) := by decide +kernel
theorem d_M_count_19 : decode b_M_count 19 = .ok (.ifCond .ne 5, 3) := by decide +kernel
theorem d_M_count_22 : decode b_M_count 22 = .ok (.iconst 0, 1) := by decide +kernel
theorem d_M_count_23 : decode b_M_count 23 = .ok (.ireturn, 1) := by decide +kernel
theorem d_M_count_24 : decode b_M_count 24 = .ok (.iconst 0, 1) := by decide +kernel
theorem d_M_count_25 : decode b_M_count 25 = .ok (.istore_n 2, 1) := by decide +kernel
theorem d_M_count_26 : decode b_M_count 26 = .ok (.iconst 0, 1) := by decide +kernel
theorem d_M_count_27 : decode b_M_count 27 = .ok (.istore_n 3, 1) := by decide +kernel
theorem d_M_count_28 : decode b_M_count 28 = .ok (.iload_n 3, 1) := by decide +kernel
theorem d_M_count_29 : decode b_M_count 29 = .ok (.bipush 36, 2) := by decide +kernel
theorem d_M_count_31 : decode b_M_count 31 = .ok (.if_icmp .ge 26, 3) := by decide +kernel
theorem d_M_count_34 : decode b_M_count 34 = .ok (.aload_n 0, 1) := by decide +kernel
theorem d_M_count_35 : decode b_M_count 35 = .ok (.getfield 22, 3) := by decide +kernel
theorem d_M_count_38 : decode b_M_count 38 = .ok (.iload_n 3, 1) := by decide +kernel
theorem d_M_count_39 : decode b_M_count 39 = .ok (.baload, 1) := by decide +kernel
theorem d_M_count_40 : decode b_M_count 40 = .ok (.ifCond .eq 9, 3) := by decide +kernel
theorem d_M_count_43 : decode b_M_count 43 = .ok (.iload_n 2, 1) := by decide +kernel
theorem d_M_count_44 : decode b_M_count 44 = .ok (.iconst 1, 1) := by decide +kernel
theorem d_M_count_45 : decode b_M_count 45 = .ok (.iadd, 1) := by decide +kernel
theorem d_M_count_46 : decode b_M_count 46 = .ok (.goto 4, 3) := by decide +kernel
theorem d_M_count_49 : decode b_M_count 49 = .ok (.iload_n 2, 1) := by decide +kernel
theorem d_M_count_50 : decode b_M_count 50 = .ok (.istore_n 2, 1) := by decide +kernel
theorem d_M_count_51 : decode b_M_count 51 = .ok (.iinc 3 1, 3) := by decide +kernel
theorem d_M_count_54 : decode b_M_count 54 = .ok (.goto (-26), 3) := by decide +kernel
theorem d_M_count_57 : decode b_M_count 57 = .ok (.iload_n 1, 1) := by decide +kernel
theorem d_M_count_58 : decode b_M_count 58 = .ok (.tableswitch 66 0 4 #[34, 39, 44, 49, 62], 34) := by decide +kernel
theorem d_M_count_92 : decode b_M_count 92 = .ok (.aload_n 0, 1) := by decide +kernel
theorem d_M_count_93 : decode b_M_count 93 = .ok (.getfield 50, 3) := by decide +kernel
theorem d_M_count_96 : decode b_M_count 96 = .ok (.ireturn, 1) := by decide +kernel
theorem d_M_count_97 : decode b_M_count 97 = .ok (.aload_n 0, 1) := by decide +kernel
theorem d_M_count_98 : decode b_M_count 98 = .ok (.getfield 122, 3) := by decide +kernel
theorem d_M_count_101 : decode b_M_count 101 = .ok (.ireturn, 1) := by decide +kernel
theorem d_M_count_102 : decode b_M_count 102 = .ok (.aload_n 0, 1) := by decide +kernel
theorem d_M_count_103 : decode b_M_count 103 = .ok (.getfield 110, 3) := by decide +kernel
theorem d_M_count_106 : decode b_M_count 106 = .ok (.ireturn, 1) := by decide +kernel
theorem d_M_count_107 : decode b_M_count 107 = .ok (.aload_n 0, 1) := by decide +kernel
theorem d_M_count_108 : decode b_M_count 108 = .ok (.getfield 113, 3) := by decide +kernel
theorem d_M_count_111 : decode b_M_count 111 = .ok (.ifCond .eq 7, 3) := by decide +kernel
theorem d_M_count_114 : decode b_M_count 114 = .ok (.iconst 1, 1) := by decide +kernel
theorem d_M_count_115 : decode b_M_count 115 = .ok (.goto 4, 3) := by decide +kernel
theorem d_M_count_118 : decode b_M_count 118 = .ok (.iconst 0, 1) := by decide +kernel
theorem d_M_count_119 : decode b_M_count 119 = .ok (.ireturn, 1) := by decide +kernel
theorem d_M_count_120 : decode b_M_count 120 = .ok (.iload_n 2, 1) := by decide +kernel
theorem d_M_count_121 : decode b_M_count 121 = .ok (.iconst 2, 1) := by decide +kernel
theorem d_M_count_122 : decode b_M_count 122 = .ok (.idiv, 1) := by decide +kernel
theorem d_M_count_123 : decode b_M_count 123 = .ok (.ireturn, 1) := by decide +kernel
theorem d_M_count_124 : decode b_M_count 124 = .ok (.aload_n 0, 1) := by decide +kernel
theorem d_M_count_125 : decode b_M_count 125 = .ok (.getfield 104, 3) := by decide +kernel
theorem d_M_count_128 : decode b_M_count 128 = .ok (.ireturn, 1) := by decide +kernel
