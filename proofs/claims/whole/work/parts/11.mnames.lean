abbrev cX2_get : ByteArray := prog_4_method_5_code
def yX2_get : MethodName := ⟨RX2, "get", "(I)J"⟩
theorem dX2_get_0 : decode cX2_get 0 = .ok (.iload_n 1, 1) := by decide +kernel
theorem dX2_get_1 : decode cX2_get 1 = .ok (.invokestatic 33, 3) := by decide +kernel
theorem dX2_get_4 : decode cX2_get 4 = .ok (.ifCond .eq 12, 3) := by decide +kernel
theorem dX2_get_7 : decode cX2_get 7 = .ok (.aload_n 0, 1) := by decide +kernel
theorem dX2_get_8 : decode cX2_get 8 = .ok (.getfield 7, 3) := by decide +kernel
theorem dX2_get_11 : decode cX2_get 11 = .ok (.iload_n 1, 1) := by decide +kernel
theorem dX2_get_12 : decode cX2_get 12 = .ok (.laload, 1) := by decide +kernel
theorem dX2_get_13 : decode cX2_get 13 = .ok (.goto 4, 3) := by decide +kernel
theorem dX2_get_16 : decode cX2_get 16 = .ok (.lconst 0, 1) := by decide +kernel
theorem dX2_get_17 : decode cX2_get 17 = .ok (.lreturn, 1) := by decide +kernel
abbrev cX2_add : ByteArray := prog_4_method_18_code
def yX2_add : MethodName := ⟨RX2, "add", "(IJ)I"⟩
theorem dX2_add_0 : decode cX2_add 0 = .ok (.aload_n 0, 1) := by decide +kernel
theorem dX2_add_1 : decode cX2_add 1 = .ok (.iload_n 1, 1) := by decide +kernel
theorem dX2_add_2 : decode cX2_add 2 = .ok (.lload_n 2, 1) := by decide +kernel
theorem dX2_add_3 : decode cX2_add 3 = .ok (.iconst 0, 1) := by decide +kernel
theorem dX2_add_4 : decode cX2_add 4 = .ok (.invokevirtual 75, 3) := by decide +kernel
theorem dX2_add_7 : decode cX2_add 7 = .ok (.ireturn, 1) := by decide +kernel
abbrev cX2_sum : ByteArray := prog_4_method_17_code
def yX2_sum : MethodName := ⟨RX2, "sum", "(IJZ)I"⟩
theorem dX2_sum_0 : decode cX2_sum 0 = .ok (.iload_n 1, 1) := by decide +kernel
theorem dX2_sum_1 : decode cX2_sum 1 = .ok (.invokestatic 33, 3) := by decide +kernel
theorem dX2_sum_4 : decode cX2_sum 4 = .ok (.ifCond .ne 5, 3) := by decide +kernel
theorem dX2_sum_7 : decode cX2_sum 7 = .ok (.iconst (-1), 1) := by decide +kernel
theorem dX2_sum_8 : decode cX2_sum 8 = .ok (.ireturn, 1) := by decide +kernel
theorem dX2_sum_9 : decode cX2_sum 9 = .ok (.aload_n 0, 1) := by decide +kernel
theorem dX2_sum_10 : decode cX2_sum 10 = .ok (.getfield 7, 3) := by decide +kernel
theorem dX2_sum_13 : decode cX2_sum 13 = .ok (.iload_n 1, 1) := by decide +kernel
theorem dX2_sum_14 : decode cX2_sum 14 = .ok (.laload, 1) := by decide +kernel
theorem dX2_sum_15 : decode cX2_sum 15 = .ok (.aload_n 0, 1) := by decide +kernel
theorem dX2_sum_16 : decode cX2_sum 16 = .ok (.getfield 21, 3) := by decide +kernel
theorem dX2_sum_19 : decode cX2_sum 19 = .ok (.invokestatic 63, 3) := by decide +kernel
theorem dX2_sum_22 : decode cX2_sum 22 = .ok (.aload_n 0, 1) := by decide +kernel
theorem dX2_sum_23 : decode cX2_sum 23 = .ok (.aload_n 0, 1) := by decide +kernel
theorem dX2_sum_24 : decode cX2_sum 24 = .ok (.getfield 7, 3) := by decide +kernel
theorem dX2_sum_27 : decode cX2_sum 27 = .ok (.iload_n 1, 1) := by decide +kernel
theorem dX2_sum_28 : decode cX2_sum 28 = .ok (.laload, 1) := by decide +kernel
theorem dX2_sum_29 : decode cX2_sum 29 = .ok (.lconst 0, 1) := by decide +kernel
theorem dX2_sum_30 : decode cX2_sum 30 = .ok (.lcmp, 1) := by decide +kernel
theorem dX2_sum_31 : decode cX2_sum 31 = .ok (.ifCond .ge 7, 3) := by decide +kernel
theorem dX2_sum_34 : decode cX2_sum 34 = .ok (.iconst 1, 1) := by decide +kernel
theorem dX2_sum_35 : decode cX2_sum 35 = .ok (.goto 4, 3) := by decide +kernel
theorem dX2_sum_38 : decode cX2_sum 38 = .ok (.iconst 0, 1) := by decide +kernel
theorem dX2_sum_39 : decode cX2_sum 39 = .ok (.putfield 54, 3) := by decide +kernel
theorem dX2_sum_42 : decode cX2_sum 42 = .ok (.lload_n 2, 1) := by decide +kernel
theorem dX2_sum_43 : decode cX2_sum 43 = .ok (.aload_n 0, 1) := by decide +kernel
theorem dX2_sum_44 : decode cX2_sum 44 = .ok (.getfield 27, 3) := by decide +kernel
theorem dX2_sum_47 : decode cX2_sum 47 = .ok (.invokestatic 63, 3) := by decide +kernel
theorem dX2_sum_50 : decode cX2_sum 50 = .ok (.aload_n 0, 1) := by decide +kernel
theorem dX2_sum_51 : decode cX2_sum 51 = .ok (.lload_n 2, 1) := by decide +kernel
theorem dX2_sum_52 : decode cX2_sum 52 = .ok (.lconst 0, 1) := by decide +kernel
theorem dX2_sum_53 : decode cX2_sum 53 = .ok (.lcmp, 1) := by decide +kernel
theorem dX2_sum_54 : decode cX2_sum 54 = .ok (.ifCond .ge 7, 3) := by decide +kernel
theorem dX2_sum_57 : decode cX2_sum 57 = .ok (.iconst 1, 1) := by decide +kernel
theorem dX2_sum_58 : decode cX2_sum 58 = .ok (.goto 4, 3) := by decide +kernel
theorem dX2_sum_61 : decode cX2_sum 61 = .ok (.iconst 0, 1) := by decide +kernel
theorem dX2_sum_62 : decode cX2_sum 62 = .ok (.iload 4, 2) := by decide +kernel
theorem dX2_sum_64 : decode cX2_sum 64 = .ok (.if_icmp .eq 7, 3) := by decide +kernel
theorem dX2_sum_67 : decode cX2_sum 67 = .ok (.iconst 1, 1) := by decide +kernel
theorem dX2_sum_68 : decode cX2_sum 68 = .ok (.goto 4, 3) := by decide +kernel
theorem dX2_sum_71 : decode cX2_sum 71 = .ok (.iconst 0, 1) := by decide +kernel
theorem dX2_sum_72 : decode cX2_sum 72 = .ok (.invokevirtual 67, 3) := by decide +kernel
theorem dX2_sum_75 : decode cX2_sum 75 = .ok (.aload_n 0, 1) := by decide +kernel
theorem dX2_sum_76 : decode cX2_sum 76 = .ok (.iload_n 1, 1) := by decide +kernel
theorem dX2_sum_77 : decode cX2_sum 77 = .ok (.invokevirtual 71, 3) := by decide +kernel
theorem dX2_sum_80 : decode cX2_sum 80 = .ok (.ireturn, 1) := by decide +kernel
abbrev cX2_write : ByteArray := prog_4_method_6_code
def yX2_write : MethodName := ⟨RX2, "write", "(J[I)V"⟩
theorem dX2_write_0 : decode cX2_write 0 = .ok (.lload_n 0, 1) := by decide +kernel
theorem dX2_write_1 : decode cX2_write 1 = .ok (.lstore_n 3, 1) := by decide +kernel
theorem dX2_write_2 : decode cX2_write 2 = .ok (.iconst 0, 1) := by decide +kernel
theorem dX2_write_3 : decode cX2_write 3 = .ok (.istore 5, 2) := by decide +kernel
theorem dX2_write_5 : decode cX2_write 5 = .ok (.iload 5, 2) := by decide +kernel
theorem dX2_write_7 : decode cX2_write 7 = .ok (.bipush 80, 2) := by decide +kernel
theorem dX2_write_9 : decode cX2_write 9 = .ok (.if_icmp .ge 40, 3) := by decide +kernel
theorem dX2_write_12 : decode cX2_write 12 = .ok (.lload_n 3, 1) := by decide +kernel
theorem dX2_write_13 : decode cX2_write 13 = .ok (.ldc2_w 37, 3) := by decide +kernel
theorem dX2_write_16 : decode cX2_write 16 = .ok (.lrem, 1) := by decide +kernel
theorem dX2_write_17 : decode cX2_write 17 = .ok (.l2i, 1) := by decide +kernel
theorem dX2_write_18 : decode cX2_write 18 = .ok (.istore 6, 2) := by decide +kernel
theorem dX2_write_20 : decode cX2_write 20 = .ok (.aload_n 2, 1) := by decide +kernel
theorem dX2_write_21 : decode cX2_write 21 = .ok (.iload 5, 2) := by decide +kernel
theorem dX2_write_23 : decode cX2_write 23 = .ok (.iload 6, 2) := by decide +kernel
theorem dX2_write_25 : decode cX2_write 25 = .ok (.ifCond .ge 9, 3) := by decide +kernel
theorem dX2_write_28 : decode cX2_write 28 = .ok (.iload 6, 2) := by decide +kernel
theorem dX2_write_30 : decode cX2_write 30 = .ok (.ineg, 1) := by decide +kernel
theorem dX2_write_31 : decode cX2_write 31 = .ok (.goto 5, 3) := by decide +kernel
theorem dX2_write_34 : decode cX2_write 34 = .ok (.iload 6, 2) := by decide +kernel
theorem dX2_write_36 : decode cX2_write 36 = .ok (.iastore, 1) := by decide +kernel
theorem dX2_write_37 : decode cX2_write 37 = .ok (.lload_n 3, 1) := by decide +kernel
theorem dX2_write_38 : decode cX2_write 38 = .ok (.ldc2_w 37, 3) := by decide +kernel
theorem dX2_write_41 : decode cX2_write 41 = .ok (.ldiv, 1) := by decide +kernel
theorem dX2_write_42 : decode cX2_write 42 = .ok (.lstore_n 3, 1) := by decide +kernel
theorem dX2_write_43 : decode cX2_write 43 = .ok (.iinc 5 1, 3) := by decide +kernel
theorem dX2_write_46 : decode cX2_write 46 = .ok (.goto (-41), 3) := by decide +kernel
theorem dX2_write_49 : decode cX2_write 49 = .ok (.return_, 1) := by decide +kernel
abbrev cX2_join : ByteArray := prog_4_method_15_code
def yX2_join : MethodName := ⟨RX2, "join", "(Z)V"⟩
theorem dX2_join_0 : decode cX2_join 0 = .ok (.iload_n 1, 1) := by decide +kernel
theorem dX2_join_1 : decode cX2_join 1 = .ok (.aload_n 0, 1) := by decide +kernel
theorem dX2_join_2 : decode cX2_join 2 = .ok (.getfield 54, 3) := by decide +kernel
theorem dX2_join_5 : decode cX2_join 5 = .ok (.if_icmp .ne 17, 3) := by decide +kernel
theorem dX2_join_8 : decode cX2_join 8 = .ok (.aload_n 0, 1) := by decide +kernel
theorem dX2_join_9 : decode cX2_join 9 = .ok (.getfield 21, 3) := by decide +kernel
theorem dX2_join_12 : decode cX2_join 12 = .ok (.aload_n 0, 1) := by decide +kernel
theorem dX2_join_13 : decode cX2_join 13 = .ok (.getfield 27, 3) := by decide +kernel
theorem dX2_join_16 : decode cX2_join 16 = .ok (.invokestatic 58, 3) := by decide +kernel
theorem dX2_join_19 : decode cX2_join 19 = .ok (.goto 69, 3) := by decide +kernel
theorem dX2_join_22 : decode cX2_join 22 = .ok (.aload_n 0, 1) := by decide +kernel
theorem dX2_join_23 : decode cX2_join 23 = .ok (.getfield 21, 3) := by decide +kernel
theorem dX2_join_26 : decode cX2_join 26 = .ok (.aload_n 0, 1) := by decide +kernel
theorem dX2_join_27 : decode cX2_join 27 = .ok (.getfield 27, 3) := by decide +kernel
theorem dX2_join_30 : decode cX2_join 30 = .ok (.invokestatic 47, 3) := by decide +kernel
theorem dX2_join_33 : decode cX2_join 33 = .ok (.ifCond .lt 17, 3) := by decide +kernel
theorem dX2_join_36 : decode cX2_join 36 = .ok (.aload_n 0, 1) := by decide +kernel
theorem dX2_join_37 : decode cX2_join 37 = .ok (.getfield 21, 3) := by decide +kernel
theorem dX2_join_40 : decode cX2_join 40 = .ok (.aload_n 0, 1) := by decide +kernel
theorem dX2_join_41 : decode cX2_join 41 = .ok (.getfield 27, 3) := by decide +kernel
theorem dX2_join_44 : decode cX2_join 44 = .ok (.invokestatic 51, 3) := by decide +kernel
theorem dX2_join_47 : decode cX2_join 47 = .ok (.goto 41, 3) := by decide +kernel
theorem dX2_join_50 : decode cX2_join 50 = .ok (.aload_n 0, 1) := by decide +kernel
theorem dX2_join_51 : decode cX2_join 51 = .ok (.getfield 21, 3) := by decide +kernel
theorem dX2_join_54 : decode cX2_join 54 = .ok (.aload_n 0, 1) := by decide +kernel
theorem dX2_join_55 : decode cX2_join 55 = .ok (.getfield 30, 3) := by decide +kernel
theorem dX2_join_58 : decode cX2_join 58 = .ok (.invokestatic 43, 3) := by decide +kernel
theorem dX2_join_61 : decode cX2_join 61 = .ok (.aload_n 0, 1) := by decide +kernel
theorem dX2_join_62 : decode cX2_join 62 = .ok (.getfield 27, 3) := by decide +kernel
theorem dX2_join_65 : decode cX2_join 65 = .ok (.aload_n 0, 1) := by decide +kernel
theorem dX2_join_66 : decode cX2_join 66 = .ok (.getfield 21, 3) := by decide +kernel
theorem dX2_join_69 : decode cX2_join 69 = .ok (.invokestatic 43, 3) := by decide +kernel
theorem dX2_join_72 : decode cX2_join 72 = .ok (.aload_n 0, 1) := by decide +kernel
theorem dX2_join_73 : decode cX2_join 73 = .ok (.getfield 21, 3) := by decide +kernel
theorem dX2_join_76 : decode cX2_join 76 = .ok (.aload_n 0, 1) := by decide +kernel
theorem dX2_join_77 : decode cX2_join 77 = .ok (.getfield 30, 3) := by decide +kernel
theorem dX2_join_80 : decode cX2_join 80 = .ok (.invokestatic 51, 3) := by decide +kernel
theorem dX2_join_83 : decode cX2_join 83 = .ok (.aload_n 0, 1) := by decide +kernel
theorem dX2_join_84 : decode cX2_join 84 = .ok (.iload_n 1, 1) := by decide +kernel
theorem dX2_join_85 : decode cX2_join 85 = .ok (.putfield 54, 3) := by decide +kernel
theorem dX2_join_88 : decode cX2_join 88 = .ok (.return_, 1) := by decide +kernel
abbrev cX2_plus : ByteArray := prog_4_method_10_code
def yX2_plus : MethodName := ⟨RX2, "plus", "([I[I)V"⟩
theorem dX2_plus_0 : decode cX2_plus 0 = .ok (.iconst 0, 1) := by decide +kernel
theorem dX2_plus_1 : decode cX2_plus 1 = .ok (.istore_n 2, 1) := by decide +kernel
theorem dX2_plus_2 : decode cX2_plus 2 = .ok (.iconst 0, 1) := by decide +kernel
theorem dX2_plus_3 : decode cX2_plus 3 = .ok (.istore_n 3, 1) := by decide +kernel
theorem dX2_plus_4 : decode cX2_plus 4 = .ok (.iload_n 3, 1) := by decide +kernel
theorem dX2_plus_5 : decode cX2_plus 5 = .ok (.bipush 80, 2) := by decide +kernel
theorem dX2_plus_7 : decode cX2_plus 7 = .ok (.if_icmp .ge 34, 3) := by decide +kernel
theorem dX2_plus_10 : decode cX2_plus 10 = .ok (.aload_n 0, 1) := by decide +kernel
theorem dX2_plus_11 : decode cX2_plus 11 = .ok (.iload_n 3, 1) := by decide +kernel
theorem dX2_plus_12 : decode cX2_plus 12 = .ok (.iaload, 1) := by decide +kernel
theorem dX2_plus_13 : decode cX2_plus 13 = .ok (.aload_n 1, 1) := by decide +kernel
theorem dX2_plus_14 : decode cX2_plus 14 = .ok (.iload_n 3, 1) := by decide +kernel
theorem dX2_plus_15 : decode cX2_plus 15 = .ok (.iaload, 1) := by decide +kernel
theorem dX2_plus_16 : decode cX2_plus 16 = .ok (.iadd, 1) := by decide +kernel
theorem dX2_plus_17 : decode cX2_plus 17 = .ok (.iload_n 2, 1) := by decide +kernel
theorem dX2_plus_18 : decode cX2_plus 18 = .ok (.iadd, 1) := by decide +kernel
theorem dX2_plus_19 : decode cX2_plus 19 = .ok (.istore 4, 2) := by decide +kernel
theorem dX2_plus_21 : decode cX2_plus 21 = .ok (.aload_n 0, 1) := by decide +kernel
theorem dX2_plus_22 : decode cX2_plus 22 = .ok (.iload_n 3, 1) := by decide +kernel
theorem dX2_plus_23 : decode cX2_plus 23 = .ok (.iload 4, 2) := by decide +kernel
theorem dX2_plus_25 : decode cX2_plus 25 = .ok (.bipush 10, 2) := by decide +kernel
theorem dX2_plus_27 : decode cX2_plus 27 = .ok (.irem, 1) := by decide +kernel
theorem dX2_plus_28 : decode cX2_plus 28 = .ok (.iastore, 1) := by decide +kernel
theorem dX2_plus_29 : decode cX2_plus 29 = .ok (.iload 4, 2) := by decide +kernel
theorem dX2_plus_31 : decode cX2_plus 31 = .ok (.bipush 10, 2) := by decide +kernel
theorem dX2_plus_33 : decode cX2_plus 33 = .ok (.idiv, 1) := by decide +kernel
theorem dX2_plus_34 : decode cX2_plus 34 = .ok (.istore_n 2, 1) := by decide +kernel
theorem dX2_plus_35 : decode cX2_plus 35 = .ok (.iinc 3 1, 3) := by decide +kernel
theorem dX2_plus_38 : decode cX2_plus 38 = .ok (.goto (-34), 3) := by decide +kernel
theorem dX2_plus_41 : decode cX2_plus 41 = .ok (.return_, 1) := by decide +kernel
abbrev cX2_compareSizes : ByteArray := prog_4_method_9_code
def yX2_compareSizes : MethodName := ⟨RX2, "compareSizes", "([I[I)I"⟩
theorem dX2_compareSizes_0 : decode cX2_compareSizes 0 = .ok (.iconst 0, 1) := by decide +kernel
theorem dX2_compareSizes_1 : decode cX2_compareSizes 1 = .ok (.istore_n 2, 1) := by decide +kernel
theorem dX2_compareSizes_2 : decode cX2_compareSizes 2 = .ok (.iconst 0, 1) := by decide +kernel
theorem dX2_compareSizes_3 : decode cX2_compareSizes 3 = .ok (.istore_n 3, 1) := by decide +kernel
theorem dX2_compareSizes_4 : decode cX2_compareSizes 4 = .ok (.iload_n 3, 1) := by decide +kernel
theorem dX2_compareSizes_5 : decode cX2_compareSizes 5 = .ok (.bipush 80, 2) := by decide +kernel
theorem dX2_compareSizes_7 : decode cX2_compareSizes 7 = .ok (.if_icmp .ge 37, 3) := by decide +kernel
theorem dX2_compareSizes_10 : decode cX2_compareSizes 10 = .ok (.aload_n 0, 1) := by decide +kernel
theorem dX2_compareSizes_11 : decode cX2_compareSizes 11 = .ok (.iload_n 3, 1) := by decide +kernel
theorem dX2_compareSizes_12 : decode cX2_compareSizes 12 = .ok (.iaload, 1) := by decide +kernel
theorem dX2_compareSizes_13 : decode cX2_compareSizes 13 = .ok (.aload_n 1, 1) := by decide +kernel
theorem dX2_compareSizes_14 : decode cX2_compareSizes 14 = .ok (.iload_n 3, 1) := by decide +kernel
theorem dX2_compareSizes_15 : decode cX2_compareSizes 15 = .ok (.iaload, 1) := by decide +kernel
theorem dX2_compareSizes_16 : decode cX2_compareSizes 16 = .ok (.if_icmp .ge 7, 3) := by decide +kernel
theorem dX2_compareSizes_19 : decode cX2_compareSizes 19 = .ok (.iconst (-1), 1) := by decide +kernel
theorem dX2_compareSizes_20 : decode cX2_compareSizes 20 = .ok (.goto 17, 3) := by decide +kernel
theorem dX2_compareSizes_23 : decode cX2_compareSizes 23 = .ok (.aload_n 0, 1) := by decide +kernel
theorem dX2_compareSizes_24 : decode cX2_compareSizes 24 = .ok (.iload_n 3, 1) := by decide +kernel
theorem dX2_compareSizes_25 : decode cX2_compareSizes 25 = .ok (.iaload, 1) := by decide +kernel
theorem dX2_compareSizes_26 : decode cX2_compareSizes 26 = .ok (.aload_n 1, 1) := by decide +kernel
theorem dX2_compareSizes_27 : decode cX2_compareSizes 27 = .ok (.iload_n 3, 1) := by decide +kernel
theorem dX2_compareSizes_28 : decode cX2_compareSizes 28 = .ok (.iaload, 1) := by decide +kernel
theorem dX2_compareSizes_29 : decode cX2_compareSizes 29 = .ok (.if_icmp .le 7, 3) := by decide +kernel
theorem dX2_compareSizes_32 : decode cX2_compareSizes 32 = .ok (.iconst 1, 1) := by decide +kernel
theorem dX2_compareSizes_33 : decode cX2_compareSizes 33 = .ok (.goto 4, 3) := by decide +kernel
theorem dX2_compareSizes_36 : decode cX2_compareSizes 36 = .ok (.iload_n 2, 1) := by decide +kernel
theorem dX2_compareSizes_37 : decode cX2_compareSizes 37 = .ok (.istore_n 2, 1) := by decide +kernel
theorem dX2_compareSizes_38 : decode cX2_compareSizes 38 = .ok (.iinc 3 1, 3) := by decide +kernel
theorem dX2_compareSizes_41 : decode cX2_compareSizes 41 = .ok (.goto (-37), 3) := by decide +kernel
theorem dX2_compareSizes_44 : decode cX2_compareSizes 44 = .ok (.iload_n 2, 1) := by decide +kernel
theorem dX2_compareSizes_45 : decode cX2_compareSizes 45 = .ok (.ireturn, 1) := by decide +kernel
abbrev cX2_minus : ByteArray := prog_4_method_11_code
def yX2_minus : MethodName := ⟨RX2, "minus", "([I[I)V"⟩
theorem dX2_minus_0 : decode cX2_minus 0 = .ok (.iconst 0, 1) := by decide +kernel
theorem dX2_minus_1 : decode cX2_minus 1 = .ok (.istore_n 2, 1) := by decide +kernel
theorem dX2_minus_2 : decode cX2_minus 2 = .ok (.iconst 0, 1) := by decide +kernel
theorem dX2_minus_3 : decode cX2_minus 3 = .ok (.istore_n 3, 1) := by decide +kernel
theorem dX2_minus_4 : decode cX2_minus 4 = .ok (.iload_n 3, 1) := by decide +kernel
theorem dX2_minus_5 : decode cX2_minus 5 = .ok (.bipush 80, 2) := by decide +kernel
theorem dX2_minus_7 : decode cX2_minus 7 = .ok (.if_icmp .ge 49, 3) := by decide +kernel
theorem dX2_minus_10 : decode cX2_minus 10 = .ok (.aload_n 0, 1) := by decide +kernel
theorem dX2_minus_11 : decode cX2_minus 11 = .ok (.iload_n 3, 1) := by decide +kernel
theorem dX2_minus_12 : decode cX2_minus 12 = .ok (.iaload, 1) := by decide +kernel
theorem dX2_minus_13 : decode cX2_minus 13 = .ok (.aload_n 1, 1) := by decide +kernel
theorem dX2_minus_14 : decode cX2_minus 14 = .ok (.iload_n 3, 1) := by decide +kernel
theorem dX2_minus_15 : decode cX2_minus 15 = .ok (.iaload, 1) := by decide +kernel
theorem dX2_minus_16 : decode cX2_minus 16 = .ok (.isub, 1) := by decide +kernel
theorem dX2_minus_17 : decode cX2_minus 17 = .ok (.iload_n 2, 1) := by decide +kernel
theorem dX2_minus_18 : decode cX2_minus 18 = .ok (.isub, 1) := by decide +kernel
theorem dX2_minus_19 : decode cX2_minus 19 = .ok (.istore 4, 2) := by decide +kernel
theorem dX2_minus_21 : decode cX2_minus 21 = .ok (.aload_n 0, 1) := by decide +kernel
theorem dX2_minus_22 : decode cX2_minus 22 = .ok (.iload_n 3, 1) := by decide +kernel
theorem dX2_minus_23 : decode cX2_minus 23 = .ok (.iload 4, 2) := by decide +kernel
theorem dX2_minus_25 : decode cX2_minus 25 = .ok (.ifCond .ge 11, 3) := by decide +kernel
theorem dX2_minus_28 : decode cX2_minus 28 = .ok (.iload 4, 2) := by decide +kernel
theorem dX2_minus_30 : decode cX2_minus 30 = .ok (.bipush 10, 2) := by decide +kernel
theorem dX2_minus_32 : decode cX2_minus 32 = .ok (.iadd, 1) := by decide +kernel
theorem dX2_minus_33 : decode cX2_minus 33 = .ok (.goto 5, 3) := by decide +kernel
theorem dX2_minus_36 : decode cX2_minus 36 = .ok (.iload 4, 2) := by decide +kernel
theorem dX2_minus_38 : decode cX2_minus 38 = .ok (.iastore, 1) := by decide +kernel
theorem dX2_minus_39 : decode cX2_minus 39 = .ok (.iload 4, 2) := by decide +kernel
theorem dX2_minus_41 : decode cX2_minus 41 = .ok (.ifCond .ge 7, 3) := by decide +kernel
theorem dX2_minus_44 : decode cX2_minus 44 = .ok (.iconst 1, 1) := by decide +kernel
theorem dX2_minus_45 : decode cX2_minus 45 = .ok (.goto 4, 3) := by decide +kernel
theorem dX2_minus_48 : decode cX2_minus 48 = .ok (.iconst 0, 1) := by decide +kernel
theorem dX2_minus_49 : decode cX2_minus 49 = .ok (.istore_n 2, 1) := by decide +kernel
theorem dX2_minus_50 : decode cX2_minus 50 = .ok (.iinc 3 1, 3) := by decide +kernel
theorem dX2_minus_53 : decode cX2_minus 53 = .ok (.goto (-49), 3) := by decide +kernel
theorem dX2_minus_56 : decode cX2_minus 56 = .ok (.return_, 1) := by decide +kernel
abbrev cX2_copy : ByteArray := prog_4_method_7_code
def yX2_copy : MethodName := ⟨RX2, "copy", "([I[I)V"⟩
theorem dX2_copy_0 : decode cX2_copy 0 = .ok (.iconst 0, 1) := by decide +kernel
theorem dX2_copy_1 : decode cX2_copy 1 = .ok (.istore_n 2, 1) := by decide +kernel
theorem dX2_copy_2 : decode cX2_copy 2 = .ok (.iload_n 2, 1) := by decide +kernel
theorem dX2_copy_3 : decode cX2_copy 3 = .ok (.bipush 80, 2) := by decide +kernel
theorem dX2_copy_5 : decode cX2_copy 5 = .ok (.if_icmp .ge 15, 3) := by decide +kernel
theorem dX2_copy_8 : decode cX2_copy 8 = .ok (.aload_n 1, 1) := by decide +kernel
theorem dX2_copy_9 : decode cX2_copy 9 = .ok (.iload_n 2, 1) := by decide +kernel
theorem dX2_copy_10 : decode cX2_copy 10 = .ok (.aload_n 0, 1) := by decide +kernel
theorem dX2_copy_11 : decode cX2_copy 11 = .ok (.iload_n 2, 1) := by decide +kernel
theorem dX2_copy_12 : decode cX2_copy 12 = .ok (.iaload, 1) := by decide +kernel
theorem dX2_copy_13 : decode cX2_copy 13 = .ok (.iastore, 1) := by decide +kernel
theorem dX2_copy_14 : decode cX2_copy 14 = .ok (.iinc 2 1, 3) := by decide +kernel
theorem dX2_copy_17 : decode cX2_copy 17 = .ok (.goto (-15), 3) := by decide +kernel
theorem dX2_copy_20 : decode cX2_copy 20 = .ok (.return_, 1) := by decide +kernel
abbrev cX2_store : ByteArray := prog_4_method_16_code
def yX2_store : MethodName := ⟨RX2, "store", "(I)I"⟩
theorem dX2_store_0 : decode cX2_store 0 = .ok (.ldc2_w 61, 3) := by decide +kernel
theorem dX2_store_3 : decode cX2_store 3 = .ok (.aload_n 0, 1) := by decide +kernel
theorem dX2_store_4 : decode cX2_store 4 = .ok (.getfield 27, 3) := by decide +kernel
theorem dX2_store_7 : decode cX2_store 7 = .ok (.invokestatic 63, 3) := by decide +kernel
theorem dX2_store_10 : decode cX2_store 10 = .ok (.aload_n 0, 1) := by decide +kernel
theorem dX2_store_11 : decode cX2_store 11 = .ok (.getfield 54, 3) := by decide +kernel
theorem dX2_store_14 : decode cX2_store 14 = .ok (.ifCond .eq 11, 3) := by decide +kernel
theorem dX2_store_17 : decode cX2_store 17 = .ok (.aload_n 0, 1) := by decide +kernel
theorem dX2_store_18 : decode cX2_store 18 = .ok (.getfield 27, 3) := by decide +kernel
theorem dX2_store_21 : decode cX2_store 21 = .ok (.iconst 0, 1) := by decide +kernel
theorem dX2_store_22 : decode cX2_store 22 = .ok (.bipush 8, 2) := by decide +kernel
theorem dX2_store_24 : decode cX2_store 24 = .ok (.iastore, 1) := by decide +kernel
theorem dX2_store_25 : decode cX2_store 25 = .ok (.aload_n 0, 1) := by decide +kernel
theorem dX2_store_26 : decode cX2_store 26 = .ok (.getfield 21, 3) := by decide +kernel
theorem dX2_store_29 : decode cX2_store 29 = .ok (.aload_n 0, 1) := by decide +kernel
theorem dX2_store_30 : decode cX2_store 30 = .ok (.getfield 27, 3) := by decide +kernel
theorem dX2_store_33 : decode cX2_store 33 = .ok (.invokestatic 47, 3) := by decide +kernel
theorem dX2_store_36 : decode cX2_store 36 = .ok (.ifCond .le 16, 3) := by decide +kernel
theorem dX2_store_39 : decode cX2_store 39 = .ok (.aload_n 0, 1) := by decide +kernel
theorem dX2_store_40 : decode cX2_store 40 = .ok (.getfield 54, 3) := by decide +kernel
theorem dX2_store_43 : decode cX2_store 43 = .ok (.ifCond .eq 7, 3) := by decide +kernel
theorem dX2_store_46 : decode cX2_store 46 = .ok (.iconst 2, 1) := by decide +kernel
theorem dX2_store_47 : decode cX2_store 47 = .ok (.goto 4, 3) := by decide +kernel
theorem dX2_store_50 : decode cX2_store 50 = .ok (.iconst 1, 1) := by decide +kernel
theorem dX2_store_51 : decode cX2_store 51 = .ok (.ireturn, 1) := by decide +kernel
theorem dX2_store_52 : decode cX2_store 52 = .ok (.lconst 0, 1) := by decide +kernel
theorem dX2_store_53 : decode cX2_store 53 = .ok (.lstore_n 2, 1) := by decide +kernel
theorem dX2_store_54 : decode cX2_store 54 = .ok (.bipush 19, 2) := by decide +kernel
theorem dX2_store_56 : decode cX2_store 56 = .ok (.istore 4, 2) := by decide +kernel
theorem dX2_store_58 : decode cX2_store 58 = .ok (.iload 4, 2) := by decide +kernel
theorem dX2_store_60 : decode cX2_store 60 = .ok (.ifCond .lt 24, 3) := by decide +kernel
theorem dX2_store_63 : decode cX2_store 63 = .ok (.ldc2_w 37, 3) := by decide +kernel
theorem dX2_store_66 : decode cX2_store 66 = .ok (.lload_n 2, 1) := by decide +kernel
theorem dX2_store_67 : decode cX2_store 67 = .ok (.lmul, 1) := by decide +kernel
theorem dX2_store_68 : decode cX2_store 68 = .ok (.aload_n 0, 1) := by decide +kernel
theorem dX2_store_69 : decode cX2_store 69 = .ok (.getfield 21, 3) := by decide +kernel
theorem dX2_store_72 : decode cX2_store 72 = .ok (.iload 4, 2) := by decide +kernel
theorem dX2_store_74 : decode cX2_store 74 = .ok (.iaload, 1) := by decide +kernel
theorem dX2_store_75 : decode cX2_store 75 = .ok (.i2l, 1) := by decide +kernel
theorem dX2_store_76 : decode cX2_store 76 = .ok (.lsub, 1) := by decide +kernel
theorem dX2_store_77 : decode cX2_store 77 = .ok (.lstore_n 2, 1) := by decide +kernel
theorem dX2_store_78 : decode cX2_store 78 = .ok (.iinc 4 (-1), 3) := by decide +kernel
theorem dX2_store_81 : decode cX2_store 81 = .ok (.goto (-23), 3) := by decide +kernel
theorem dX2_store_84 : decode cX2_store 84 = .ok (.aload_n 0, 1) := by decide +kernel
theorem dX2_store_85 : decode cX2_store 85 = .ok (.getfield 7, 3) := by decide +kernel
theorem dX2_store_88 : decode cX2_store 88 = .ok (.iload_n 1, 1) := by decide +kernel
theorem dX2_store_89 : decode cX2_store 89 = .ok (.aload_n 0, 1) := by decide +kernel
theorem dX2_store_90 : decode cX2_store 90 = .ok (.getfield 54, 3) := by decide +kernel
theorem dX2_store_93 : decode cX2_store 93 = .ok (.ifCond .eq 7, 3) := by decide +kernel
theorem dX2_store_96 : decode cX2_store 96 = .ok (.lload_n 2, 1) := by decide +kernel
theorem dX2_store_97 : decode cX2_store 97 = .ok (.goto 5, 3) := by decide +kernel
theorem dX2_store_100 : decode cX2_store 100 = .ok (.lload_n 2, 1) := by decide +kernel
theorem dX2_store_101 : decode cX2_store 101 = .ok (.lneg, 1) := by decide +kernel
theorem dX2_store_102 : decode cX2_store 102 = .ok (.lastore, 1) := by decide +kernel
theorem dX2_store_103 : decode cX2_store 103 = .ok (.iconst 0, 1) := by decide +kernel
theorem dX2_store_104 : decode cX2_store 104 = .ok (.ireturn, 1) := by decide +kernel
abbrev cX2_subtract : ByteArray := prog_4_method_19_code
def yX2_subtract : MethodName := ⟨RX2, "subtract", "(IJ)I"⟩
theorem dX2_subtract_0 : decode cX2_subtract 0 = .ok (.aload_n 0, 1) := by decide +kernel
theorem dX2_subtract_1 : decode cX2_subtract 1 = .ok (.iload_n 1, 1) := by decide +kernel
theorem dX2_subtract_2 : decode cX2_subtract 2 = .ok (.lload_n 2, 1) := by decide +kernel
theorem dX2_subtract_3 : decode cX2_subtract 3 = .ok (.iconst 1, 1) := by decide +kernel
theorem dX2_subtract_4 : decode cX2_subtract 4 = .ok (.invokevirtual 75, 3) := by decide +kernel
theorem dX2_subtract_7 : decode cX2_subtract 7 = .ok (.ireturn, 1) := by decide +kernel
abbrev cX2_times : ByteArray := prog_4_method_20_code
def yX2_times : MethodName := ⟨RX2, "times", "(IJ)I"⟩
theorem dX2_times_0 : decode cX2_times 0 = .ok (.iload_n 1, 1) := by decide +kernel
theorem dX2_times_1 : decode cX2_times 1 = .ok (.invokestatic 33, 3) := by decide +kernel
theorem dX2_times_4 : decode cX2_times 4 = .ok (.ifCond .ne 5, 3) := by decide +kernel
theorem dX2_times_7 : decode cX2_times 7 = .ok (.iconst (-1), 1) := by decide +kernel
theorem dX2_times_8 : decode cX2_times 8 = .ok (.ireturn, 1) := by decide +kernel
theorem dX2_times_9 : decode cX2_times 9 = .ok (.aload_n 0, 1) := by decide +kernel
theorem dX2_times_10 : decode cX2_times 10 = .ok (.getfield 7, 3) := by decide +kernel
theorem dX2_times_13 : decode cX2_times 13 = .ok (.iload_n 1, 1) := by decide +kernel
theorem dX2_times_14 : decode cX2_times 14 = .ok (.laload, 1) := by decide +kernel
theorem dX2_times_15 : decode cX2_times 15 = .ok (.aload_n 0, 1) := by decide +kernel
theorem dX2_times_16 : decode cX2_times 16 = .ok (.getfield 21, 3) := by decide +kernel
theorem dX2_times_19 : decode cX2_times 19 = .ok (.invokestatic 63, 3) := by decide +kernel
theorem dX2_times_22 : decode cX2_times 22 = .ok (.lload_n 2, 1) := by decide +kernel
theorem dX2_times_23 : decode cX2_times 23 = .ok (.aload_n 0, 1) := by decide +kernel
theorem dX2_times_24 : decode cX2_times 24 = .ok (.getfield 24, 3) := by decide +kernel
theorem dX2_times_27 : decode cX2_times 27 = .ok (.invokestatic 63, 3) := by decide +kernel
theorem dX2_times_30 : decode cX2_times 30 = .ok (.aload_n 0, 1) := by decide +kernel
theorem dX2_times_31 : decode cX2_times 31 = .ok (.invokevirtual 79, 3) := by decide +kernel
theorem dX2_times_34 : decode cX2_times 34 = .ok (.aload_n 0, 1) := by decide +kernel
theorem dX2_times_35 : decode cX2_times 35 = .ok (.aload_n 0, 1) := by decide +kernel
theorem dX2_times_36 : decode cX2_times 36 = .ok (.getfield 7, 3) := by decide +kernel
theorem dX2_times_39 : decode cX2_times 39 = .ok (.iload_n 1, 1) := by decide +kernel
theorem dX2_times_40 : decode cX2_times 40 = .ok (.laload, 1) := by decide +kernel
theorem dX2_times_41 : decode cX2_times 41 = .ok (.lconst 0, 1) := by decide +kernel
theorem dX2_times_42 : decode cX2_times 42 = .ok (.lcmp, 1) := by decide +kernel
theorem dX2_times_43 : decode cX2_times 43 = .ok (.ifCond .ge 7, 3) := by decide +kernel
theorem dX2_times_46 : decode cX2_times 46 = .ok (.iconst 1, 1) := by decide +kernel
theorem dX2_times_47 : decode cX2_times 47 = .ok (.goto 4, 3) := by decide +kernel
theorem dX2_times_50 : decode cX2_times 50 = .ok (.iconst 0, 1) := by decide +kernel
theorem dX2_times_51 : decode cX2_times 51 = .ok (.lload_n 2, 1) := by decide +kernel
theorem dX2_times_52 : decode cX2_times 52 = .ok (.lconst 0, 1) := by decide +kernel
theorem dX2_times_53 : decode cX2_times 53 = .ok (.lcmp, 1) := by decide +kernel
theorem dX2_times_54 : decode cX2_times 54 = .ok (.ifCond .ge 7, 3) := by decide +kernel
theorem dX2_times_57 : decode cX2_times 57 = .ok (.iconst 1, 1) := by decide +kernel
theorem dX2_times_58 : decode cX2_times 58 = .ok (.goto 4, 3) := by decide +kernel
theorem dX2_times_61 : decode cX2_times 61 = .ok (.iconst 0, 1) := by decide +kernel
theorem dX2_times_62 : decode cX2_times 62 = .ok (.if_icmp .eq 7, 3) := by decide +kernel
theorem dX2_times_65 : decode cX2_times 65 = .ok (.iconst 1, 1) := by decide +kernel
theorem dX2_times_66 : decode cX2_times 66 = .ok (.goto 4, 3) := by decide +kernel
theorem dX2_times_69 : decode cX2_times 69 = .ok (.iconst 0, 1) := by decide +kernel
theorem dX2_times_70 : decode cX2_times 70 = .ok (.putfield 54, 3) := by decide +kernel
theorem dX2_times_73 : decode cX2_times 73 = .ok (.aload_n 0, 1) := by decide +kernel
theorem dX2_times_74 : decode cX2_times 74 = .ok (.iload_n 1, 1) := by decide +kernel
theorem dX2_times_75 : decode cX2_times 75 = .ok (.invokevirtual 71, 3) := by decide +kernel
theorem dX2_times_78 : decode cX2_times 78 = .ok (.ireturn, 1) := by decide +kernel
abbrev cX2_multiply : ByteArray := prog_4_method_12_code
def yX2_multiply : MethodName := ⟨RX2, "multiply", "()V"⟩
theorem dX2_multiply_0 : decode cX2_multiply 0 = .ok (.aload_n 0, 1) := by decide +kernel
theorem dX2_multiply_1 : decode cX2_multiply 1 = .ok (.getfield 27, 3) := by decide +kernel
theorem dX2_multiply_4 : decode cX2_multiply 4 = .ok (.invokestatic 39, 3) := by decide +kernel
theorem dX2_multiply_7 : decode cX2_multiply 7 = .ok (.iconst 0, 1) := by decide +kernel
theorem dX2_multiply_8 : decode cX2_multiply 8 = .ok (.istore_n 1, 1) := by decide +kernel
theorem dX2_multiply_9 : decode cX2_multiply 9 = .ok (.iload_n 1, 1) := by decide +kernel
theorem dX2_multiply_10 : decode cX2_multiply 10 = .ok (.bipush 80, 2) := by decide +kernel
theorem dX2_multiply_12 : decode cX2_multiply 12 = .ok (.if_icmp .ge 81, 3) := by decide +kernel
theorem dX2_multiply_15 : decode cX2_multiply 15 = .ok (.iconst 0, 1) := by decide +kernel
theorem dX2_multiply_16 : decode cX2_multiply 16 = .ok (.istore_n 2, 1) := by decide +kernel
theorem dX2_multiply_17 : decode cX2_multiply 17 = .ok (.iconst 0, 1) := by decide +kernel
theorem dX2_multiply_18 : decode cX2_multiply 18 = .ok (.istore_n 3, 1) := by decide +kernel
theorem dX2_multiply_19 : decode cX2_multiply 19 = .ok (.iload_n 1, 1) := by decide +kernel
theorem dX2_multiply_20 : decode cX2_multiply 20 = .ok (.iload_n 3, 1) := by decide +kernel
theorem dX2_multiply_21 : decode cX2_multiply 21 = .ok (.iadd, 1) := by decide +kernel
theorem dX2_multiply_22 : decode cX2_multiply 22 = .ok (.bipush 80, 2) := by decide +kernel
theorem dX2_multiply_24 : decode cX2_multiply 24 = .ok (.if_icmp .ge 63, 3) := by decide +kernel
theorem dX2_multiply_27 : decode cX2_multiply 27 = .ok (.aload_n 0, 1) := by decide +kernel
theorem dX2_multiply_28 : decode cX2_multiply 28 = .ok (.getfield 21, 3) := by decide +kernel
theorem dX2_multiply_31 : decode cX2_multiply 31 = .ok (.iload_n 1, 1) := by decide +kernel
theorem dX2_multiply_32 : decode cX2_multiply 32 = .ok (.iaload, 1) := by decide +kernel
theorem dX2_multiply_33 : decode cX2_multiply 33 = .ok (.ifCond .le 54, 3) := by decide +kernel
theorem dX2_multiply_36 : decode cX2_multiply 36 = .ok (.aload_n 0, 1) := by decide +kernel
theorem dX2_multiply_37 : decode cX2_multiply 37 = .ok (.getfield 27, 3) := by decide +kernel
theorem dX2_multiply_40 : decode cX2_multiply 40 = .ok (.iload_n 1, 1) := by decide +kernel
theorem dX2_multiply_41 : decode cX2_multiply 41 = .ok (.iload_n 3, 1) := by decide +kernel
theorem dX2_multiply_42 : decode cX2_multiply 42 = .ok (.iadd, 1) := by decide +kernel
theorem dX2_multiply_43 : decode cX2_multiply 43 = .ok (.iaload, 1) := by decide +kernel
theorem dX2_multiply_44 : decode cX2_multiply 44 = .ok (.aload_n 0, 1) := by decide +kernel
theorem dX2_multiply_45 : decode cX2_multiply 45 = .ok (.getfield 21, 3) := by decide +kernel
theorem dX2_multiply_48 : decode cX2_multiply 48 = .ok (.iload_n 1, 1) := by decide +kernel
theorem dX2_multiply_49 : decode cX2_multiply 49 = .ok (.iaload, 1) := by decide +kernel
theorem dX2_multiply_50 : decode cX2_multiply 50 = .ok (.aload_n 0, 1) := by decide +kernel
theorem dX2_multiply_51 : decode cX2_multiply 51 = .ok (.getfield 24, 3) := by decide +kernel
theorem dX2_multiply_54 : decode cX2_multiply 54 = .ok (.iload_n 3, 1) := by decide +kernel
theorem dX2_multiply_55 : decode cX2_multiply 55 = .ok (.iaload, 1) := by decide +kernel
theorem dX2_multiply_56 : decode cX2_multiply 56 = .ok (.imul, 1) := by decide +kernel
theorem dX2_multiply_57 : decode cX2_multiply 57 = .ok (.iadd, 1) := by decide +kernel
theorem dX2_multiply_58 : decode cX2_multiply 58 = .ok (.iload_n 2, 1) := by decide +kernel
theorem dX2_multiply_59 : decode cX2_multiply 59 = .ok (.iadd, 1) := by decide +kernel
theorem dX2_multiply_60 : decode cX2_multiply 60 = .ok (.istore 4, 2) := by decide +kernel
theorem dX2_multiply_62 : decode cX2_multiply 62 = .ok (.aload_n 0, 1) := by decide +kernel
theorem dX2_multiply_63 : decode cX2_multiply 63 = .ok (.getfield 27, 3) := by decide +kernel
theorem dX2_multiply_66 : decode cX2_multiply 66 = .ok (.iload_n 1, 1) := by decide +kernel
theorem dX2_multiply_67 : decode cX2_multiply 67 = .ok (.iload_n 3, 1) := by decide +kernel
theorem dX2_multiply_68 : decode cX2_multiply 68 = .ok (.iadd, 1) := by decide +kernel
theorem dX2_multiply_69 : decode cX2_multiply 69 = .ok (.iload 4, 2) := by decide +kernel
theorem dX2_multiply_71 : decode cX2_multiply 71 = .ok (.bipush 10, 2) := by decide +kernel
theorem dX2_multiply_73 : decode cX2_multiply 73 = .ok (.irem, 1) := by decide +kernel
theorem dX2_multiply_74 : decode cX2_multiply 74 = .ok (.iastore, 1) := by decide +kernel
theorem dX2_multiply_75 : decode cX2_multiply 75 = .ok (.iload 4, 2) := by decide +kernel
theorem dX2_multiply_77 : decode cX2_multiply 77 = .ok (.bipush 10, 2) := by decide +kernel
theorem dX2_multiply_79 : decode cX2_multiply 79 = .ok (.idiv, 1) := by decide +kernel
theorem dX2_multiply_80 : decode cX2_multiply 80 = .ok (.istore_n 2, 1) := by decide +kernel
theorem dX2_multiply_81 : decode cX2_multiply 81 = .ok (.iinc 3 1, 3) := by decide +kernel
theorem dX2_multiply_84 : decode cX2_multiply 84 = .ok (.goto (-65), 3) := by decide +kernel
theorem dX2_multiply_87 : decode cX2_multiply 87 = .ok (.iinc 1 1, 3) := by decide +kernel
theorem dX2_multiply_90 : decode cX2_multiply 90 = .ok (.goto (-81), 3) := by decide +kernel
theorem dX2_multiply_93 : decode cX2_multiply 93 = .ok (.aload_n 0, 1) := by decide +kernel
theorem dX2_multiply_94 : decode cX2_multiply 94 = .ok (.getfield 27, 3) := by decide +kernel
theorem dX2_multiply_97 : decode cX2_multiply 97 = .ok (.aload_n 0, 1) := by decide +kernel
theorem dX2_multiply_98 : decode cX2_multiply 98 = .ok (.getfield 21, 3) := by decide +kernel
theorem dX2_multiply_101 : decode cX2_multiply 101 = .ok (.invokestatic 43, 3) := by decide +kernel
theorem dX2_multiply_104 : decode cX2_multiply 104 = .ok (.return_, 1) := by decide +kernel
abbrev cX2_nothing : ByteArray := prog_4_method_8_code
def yX2_nothing : MethodName := ⟨RX2, "nothing", "([I)V"⟩
theorem dX2_nothing_0 : decode cX2_nothing 0 = .ok (.iconst 0, 1) := by decide +kernel
theorem dX2_nothing_1 : decode cX2_nothing 1 = .ok (.istore_n 1, 1) := by decide +kernel
theorem dX2_nothing_2 : decode cX2_nothing 2 = .ok (.iload_n 1, 1) := by decide +kernel
theorem dX2_nothing_3 : decode cX2_nothing 3 = .ok (.bipush 80, 2) := by decide +kernel
theorem dX2_nothing_5 : decode cX2_nothing 5 = .ok (.if_icmp .ge 13, 3) := by decide +kernel
theorem dX2_nothing_8 : decode cX2_nothing 8 = .ok (.aload_n 0, 1) := by decide +kernel
theorem dX2_nothing_9 : decode cX2_nothing 9 = .ok (.iload_n 1, 1) := by decide +kernel
theorem dX2_nothing_10 : decode cX2_nothing 10 = .ok (.iconst 0, 1) := by decide +kernel
theorem dX2_nothing_11 : decode cX2_nothing 11 = .ok (.iastore, 1) := by decide +kernel
theorem dX2_nothing_12 : decode cX2_nothing 12 = .ok (.iinc 1 1, 3) := by decide +kernel
theorem dX2_nothing_15 : decode cX2_nothing 15 = .ok (.goto (-13), 3) := by decide +kernel
theorem dX2_nothing_18 : decode cX2_nothing 18 = .ok (.return_, 1) := by decide +kernel
abbrev cX2_share : ByteArray := prog_4_method_21_code
def yX2_share : MethodName := ⟨RX2, "share", "(IJJI)I"⟩
theorem dX2_share_0 : decode cX2_share 0 = .ok (.iload_n 1, 1) := by decide +kernel
theorem dX2_share_1 : decode cX2_share 1 = .ok (.invokestatic 33, 3) := by decide +kernel
theorem dX2_share_4 : decode cX2_share 4 = .ok (.ifCond .eq 14, 3) := by decide +kernel
theorem dX2_share_7 : decode cX2_share 7 = .ok (.iload 6, 2) := by decide +kernel
theorem dX2_share_9 : decode cX2_share 9 = .ok (.ifCond .lt 9, 3) := by decide +kernel
theorem dX2_share_12 : decode cX2_share 12 = .ok (.iload 6, 2) := by decide +kernel
theorem dX2_share_14 : decode cX2_share 14 = .ok (.iconst 3, 1) := by decide +kernel
theorem dX2_share_15 : decode cX2_share 15 = .ok (.if_icmp .le 5, 3) := by decide +kernel
theorem dX2_share_18 : decode cX2_share 18 = .ok (.iconst (-1), 1) := by decide +kernel
theorem dX2_share_19 : decode cX2_share 19 = .ok (.ireturn, 1) := by decide +kernel
theorem dX2_share_20 : decode cX2_share 20 = .ok (.lload 4, 2) := by decide +kernel
theorem dX2_share_22 : decode cX2_share 22 = .ok (.lconst 0, 1) := by decide +kernel
theorem dX2_share_23 : decode cX2_share 23 = .ok (.lcmp, 1) := by decide +kernel
theorem dX2_share_24 : decode cX2_share 24 = .ok (.ifCond .ne 5, 3) := by decide +kernel
theorem dX2_share_27 : decode cX2_share 27 = .ok (.iconst 3, 1) := by decide +kernel
theorem dX2_share_28 : decode cX2_share 28 = .ok (.ireturn, 1) := by decide +kernel
theorem dX2_share_29 : decode cX2_share 29 = .ok (.aload_n 0, 1) := by decide +kernel
theorem dX2_share_30 : decode cX2_share 30 = .ok (.getfield 7, 3) := by decide +kernel
theorem dX2_share_33 : decode cX2_share 33 = .ok (.iload_n 1, 1) := by decide +kernel
theorem dX2_share_34 : decode cX2_share 34 = .ok (.laload, 1) := by decide +kernel
theorem dX2_share_35 : decode cX2_share 35 = .ok (.aload_n 0, 1) := by decide +kernel
theorem dX2_share_36 : decode cX2_share 36 = .ok (.getfield 21, 3) := by decide +kernel
theorem dX2_share_39 : decode cX2_share 39 = .ok (.invokestatic 63, 3) := by decide +kernel
theorem dX2_share_42 : decode cX2_share 42 = .ok (.lload_n 2, 1) := by decide +kernel
theorem dX2_share_43 : decode cX2_share 43 = .ok (.aload_n 0, 1) := by decide +kernel
theorem dX2_share_44 : decode cX2_share 44 = .ok (.getfield 24, 3) := by decide +kernel
theorem dX2_share_47 : decode cX2_share 47 = .ok (.invokestatic 63, 3) := by decide +kernel
theorem dX2_share_50 : decode cX2_share 50 = .ok (.aload_n 0, 1) := by decide +kernel
theorem dX2_share_51 : decode cX2_share 51 = .ok (.invokevirtual 79, 3) := by decide +kernel
theorem dX2_share_54 : decode cX2_share 54 = .ok (.lload 4, 2) := by decide +kernel
theorem dX2_share_56 : decode cX2_share 56 = .ok (.aload_n 0, 1) := by decide +kernel
theorem dX2_share_57 : decode cX2_share 57 = .ok (.getfield 24, 3) := by decide +kernel
theorem dX2_share_60 : decode cX2_share 60 = .ok (.invokestatic 63, 3) := by decide +kernel
theorem dX2_share_63 : decode cX2_share 63 = .ok (.aload_n 0, 1) := by decide +kernel
theorem dX2_share_64 : decode cX2_share 64 = .ok (.aload_n 0, 1) := by decide +kernel
theorem dX2_share_65 : decode cX2_share 65 = .ok (.getfield 7, 3) := by decide +kernel
theorem dX2_share_68 : decode cX2_share 68 = .ok (.iload_n 1, 1) := by decide +kernel
theorem dX2_share_69 : decode cX2_share 69 = .ok (.laload, 1) := by decide +kernel
theorem dX2_share_70 : decode cX2_share 70 = .ok (.lconst 0, 1) := by decide +kernel
theorem dX2_share_71 : decode cX2_share 71 = .ok (.lcmp, 1) := by decide +kernel
theorem dX2_share_72 : decode cX2_share 72 = .ok (.ifCond .ge 7, 3) := by decide +kernel
theorem dX2_share_75 : decode cX2_share 75 = .ok (.iconst 1, 1) := by decide +kernel
theorem dX2_share_76 : decode cX2_share 76 = .ok (.goto 4, 3) := by decide +kernel
theorem dX2_share_79 : decode cX2_share 79 = .ok (.iconst 0, 1) := by decide +kernel
theorem dX2_share_80 : decode cX2_share 80 = .ok (.lload_n 2, 1) := by decide +kernel
theorem dX2_share_81 : decode cX2_share 81 = .ok (.lconst 0, 1) := by decide +kernel
theorem dX2_share_82 : decode cX2_share 82 = .ok (.lcmp, 1) := by decide +kernel
theorem dX2_share_83 : decode cX2_share 83 = .ok (.ifCond .ge 7, 3) := by decide +kernel
theorem dX2_share_86 : decode cX2_share 86 = .ok (.iconst 1, 1) := by decide +kernel
theorem dX2_share_87 : decode cX2_share 87 = .ok (.goto 4, 3) := by decide +kernel
theorem dX2_share_90 : decode cX2_share 90 = .ok (.iconst 0, 1) := by decide +kernel
theorem dX2_share_91 : decode cX2_share 91 = .ok (.if_icmp .eq 7, 3) := by decide +kernel
theorem dX2_share_94 : decode cX2_share 94 = .ok (.iconst 1, 1) := by decide +kernel
theorem dX2_share_95 : decode cX2_share 95 = .ok (.goto 4, 3) := by decide +kernel
theorem dX2_share_98 : decode cX2_share 98 = .ok (.iconst 0, 1) := by decide +kernel
theorem dX2_share_99 : decode cX2_share 99 = .ok (.lload 4, 2) := by decide +kernel
theorem dX2_share_101 : decode cX2_share 101 = .ok (.lconst 0, 1) := by decide +kernel
theorem dX2_share_102 : decode cX2_share 102 = .ok (.lcmp, 1) := by decide +kernel
theorem dX2_share_103 : decode cX2_share 103 = .ok (.ifCond .ge 7, 3) := by decide +kernel
theorem dX2_share_106 : decode cX2_share 106 = .ok (.iconst 1, 1) := by decide +kernel
theorem dX2_share_107 : decode cX2_share 107 = .ok (.goto 4, 3) := by decide +kernel
theorem dX2_share_110 : decode cX2_share 110 = .ok (.iconst 0, 1) := by decide +kernel
theorem dX2_share_111 : decode cX2_share 111 = .ok (.if_icmp .eq 7, 3) := by decide +kernel
theorem dX2_share_114 : decode cX2_share 114 = .ok (.iconst 1, 1) := by decide +kernel
theorem dX2_share_115 : decode cX2_share 115 = .ok (.goto 4, 3) := by decide +kernel
theorem dX2_share_118 : decode cX2_share 118 = .ok (.iconst 0, 1) := by decide +kernel
theorem dX2_share_119 : decode cX2_share 119 = .ok (.putfield 54, 3) := by decide +kernel
theorem dX2_share_122 : decode cX2_share 122 = .ok (.aload_n 0, 1) := by decide +kernel
theorem dX2_share_123 : decode cX2_share 123 = .ok (.invokevirtual 82, 3) := by decide +kernel
theorem dX2_share_126 : decode cX2_share 126 = .ok (.aload_n 0, 1) := by decide +kernel
theorem dX2_share_127 : decode cX2_share 127 = .ok (.getfield 30, 3) := by decide +kernel
theorem dX2_share_130 : decode cX2_share 130 = .ok (.invokestatic 85, 3) := by decide +kernel
theorem dX2_share_133 : decode cX2_share 133 = .ok (.istore 7, 2) := by decide +kernel
theorem dX2_share_135 : decode cX2_share 135 = .ok (.aload_n 0, 1) := by decide +kernel
theorem dX2_share_136 : decode cX2_share 136 = .ok (.getfield 30, 3) := by decide +kernel
theorem dX2_share_139 : decode cX2_share 139 = .ok (.aload_n 0, 1) := by decide +kernel
theorem dX2_share_140 : decode cX2_share 140 = .ok (.getfield 27, 3) := by decide +kernel
theorem dX2_share_143 : decode cX2_share 143 = .ok (.invokestatic 43, 3) := by decide +kernel
theorem dX2_share_146 : decode cX2_share 146 = .ok (.aload_n 0, 1) := by decide +kernel
theorem dX2_share_147 : decode cX2_share 147 = .ok (.getfield 27, 3) := by decide +kernel
theorem dX2_share_150 : decode cX2_share 150 = .ok (.aload_n 0, 1) := by decide +kernel
theorem dX2_share_151 : decode cX2_share 151 = .ok (.getfield 30, 3) := by decide +kernel
theorem dX2_share_154 : decode cX2_share 154 = .ok (.invokestatic 58, 3) := by decide +kernel
theorem dX2_share_157 : decode cX2_share 157 = .ok (.iload 6, 2) := by decide +kernel
theorem dX2_share_159 : decode cX2_share 159 = .ok (.ifCond .ne 23, 3) := by decide +kernel
theorem dX2_share_162 : decode cX2_share 162 = .ok (.aload_n 0, 1) := by decide +kernel
theorem dX2_share_163 : decode cX2_share 163 = .ok (.getfield 54, 3) := by decide +kernel
theorem dX2_share_166 : decode cX2_share 166 = .ok (.ifCond .eq 12, 3) := by decide +kernel
theorem dX2_share_169 : decode cX2_share 169 = .ok (.iload 7, 2) := by decide +kernel
theorem dX2_share_171 : decode cX2_share 171 = .ok (.ifCond .ne 7, 3) := by decide +kernel
theorem dX2_share_174 : decode cX2_share 174 = .ok (.iconst 1, 1) := by decide +kernel
theorem dX2_share_175 : decode cX2_share 175 = .ok (.goto 58, 3) := by decide +kernel
theorem dX2_share_178 : decode cX2_share 178 = .ok (.iconst 0, 1) := by decide +kernel
theorem dX2_share_179 : decode cX2_share 179 = .ok (.goto 54, 3) := by decide +kernel
theorem dX2_share_182 : decode cX2_share 182 = .ok (.iload 6, 2) := by decide +kernel
theorem dX2_share_184 : decode cX2_share 184 = .ok (.iconst 1, 1) := by decide +kernel
theorem dX2_share_185 : decode cX2_share 185 = .ok (.if_icmp .ne 23, 3) := by decide +kernel
theorem dX2_share_188 : decode cX2_share 188 = .ok (.aload_n 0, 1) := by decide +kernel
theorem dX2_share_189 : decode cX2_share 189 = .ok (.getfield 54, 3) := by decide +kernel
theorem dX2_share_192 : decode cX2_share 192 = .ok (.ifCond .ne 12, 3) := by decide +kernel
theorem dX2_share_195 : decode cX2_share 195 = .ok (.iload 7, 2) := by decide +kernel
theorem dX2_share_197 : decode cX2_share 197 = .ok (.ifCond .ne 7, 3) := by decide +kernel
theorem dX2_share_200 : decode cX2_share 200 = .ok (.iconst 1, 1) := by decide +kernel
theorem dX2_share_201 : decode cX2_share 201 = .ok (.goto 32, 3) := by decide +kernel
theorem dX2_share_204 : decode cX2_share 204 = .ok (.iconst 0, 1) := by decide +kernel
theorem dX2_share_205 : decode cX2_share 205 = .ok (.goto 28, 3) := by decide +kernel
theorem dX2_share_208 : decode cX2_share 208 = .ok (.iload 6, 2) := by decide +kernel
theorem dX2_share_210 : decode cX2_share 210 = .ok (.iconst 3, 1) := by decide +kernel
theorem dX2_share_211 : decode cX2_share 211 = .ok (.if_icmp .ne 21, 3) := by decide +kernel
theorem dX2_share_214 : decode cX2_share 214 = .ok (.aload_n 0, 1) := by decide +kernel
theorem dX2_share_215 : decode cX2_share 215 = .ok (.getfield 27, 3) := by decide +kernel
theorem dX2_share_218 : decode cX2_share 218 = .ok (.aload_n 0, 1) := by decide +kernel
theorem dX2_share_219 : decode cX2_share 219 = .ok (.getfield 24, 3) := by decide +kernel
theorem dX2_share_222 : decode cX2_share 222 = .ok (.invokestatic 47, 3) := by decide +kernel
theorem dX2_share_225 : decode cX2_share 225 = .ok (.ifCond .lt 7, 3) := by decide +kernel
theorem dX2_share_228 : decode cX2_share 228 = .ok (.iconst 1, 1) := by decide +kernel
theorem dX2_share_229 : decode cX2_share 229 = .ok (.goto 4, 3) := by decide +kernel
theorem dX2_share_232 : decode cX2_share 232 = .ok (.iconst 0, 1) := by decide +kernel
theorem dX2_share_233 : decode cX2_share 233 = .ok (.istore 8, 2) := by decide +kernel
theorem dX2_share_235 : decode cX2_share 235 = .ok (.iload 8, 2) := by decide +kernel
theorem dX2_share_237 : decode cX2_share 237 = .ok (.ifCond .eq 28, 3) := by decide +kernel
theorem dX2_share_240 : decode cX2_share 240 = .ok (.aload_n 0, 1) := by decide +kernel
theorem dX2_share_241 : decode cX2_share 241 = .ok (.getfield 27, 3) := by decide +kernel
theorem dX2_share_244 : decode cX2_share 244 = .ok (.invokestatic 39, 3) := by decide +kernel
theorem dX2_share_247 : decode cX2_share 247 = .ok (.aload_n 0, 1) := by decide +kernel
theorem dX2_share_248 : decode cX2_share 248 = .ok (.getfield 27, 3) := by decide +kernel
theorem dX2_share_251 : decode cX2_share 251 = .ok (.iconst 0, 1) := by decide +kernel
theorem dX2_share_252 : decode cX2_share 252 = .ok (.iconst 1, 1) := by decide +kernel
theorem dX2_share_253 : decode cX2_share 253 = .ok (.iastore, 1) := by decide +kernel
theorem dX2_share_254 : decode cX2_share 254 = .ok (.aload_n 0, 1) := by decide +kernel
theorem dX2_share_255 : decode cX2_share 255 = .ok (.getfield 21, 3) := by decide +kernel
theorem dX2_share_258 : decode cX2_share 258 = .ok (.aload_n 0, 1) := by decide +kernel
theorem dX2_share_259 : decode cX2_share 259 = .ok (.getfield 27, 3) := by decide +kernel
theorem dX2_share_262 : decode cX2_share 262 = .ok (.invokestatic 58, 3) := by decide +kernel
theorem dX2_share_265 : decode cX2_share 265 = .ok (.aload_n 0, 1) := by decide +kernel
theorem dX2_share_266 : decode cX2_share 266 = .ok (.iload_n 1, 1) := by decide +kernel
theorem dX2_share_267 : decode cX2_share 267 = .ok (.invokevirtual 71, 3) := by decide +kernel
theorem dX2_share_270 : decode cX2_share 270 = .ok (.ireturn, 1) := by decide +kernel
abbrev cX2_divide : ByteArray := prog_4_method_13_code
def yX2_divide : MethodName := ⟨RX2, "divide", "()V"⟩
theorem dX2_divide_0 : decode cX2_divide 0 = .ok (.aload_n 0, 1) := by decide +kernel
theorem dX2_divide_1 : decode cX2_divide 1 = .ok (.getfield 30, 3) := by decide +kernel
theorem dX2_divide_4 : decode cX2_divide 4 = .ok (.invokestatic 39, 3) := by decide +kernel
theorem dX2_divide_7 : decode cX2_divide 7 = .ok (.bipush 79, 2) := by decide +kernel
theorem dX2_divide_9 : decode cX2_divide 9 = .ok (.istore_n 1, 1) := by decide +kernel
theorem dX2_divide_10 : decode cX2_divide 10 = .ok (.iload_n 1, 1) := by decide +kernel
theorem dX2_divide_11 : decode cX2_divide 11 = .ok (.ifCond .lt 99, 3) := by decide +kernel
theorem dX2_divide_14 : decode cX2_divide 14 = .ok (.bipush 79, 2) := by decide +kernel
theorem dX2_divide_16 : decode cX2_divide 16 = .ok (.istore_n 2, 1) := by decide +kernel
theorem dX2_divide_17 : decode cX2_divide 17 = .ok (.iload_n 2, 1) := by decide +kernel
theorem dX2_divide_18 : decode cX2_divide 18 = .ok (.ifCond .le 23, 3) := by decide +kernel
theorem dX2_divide_21 : decode cX2_divide 21 = .ok (.aload_n 0, 1) := by decide +kernel
theorem dX2_divide_22 : decode cX2_divide 22 = .ok (.getfield 30, 3) := by decide +kernel
theorem dX2_divide_25 : decode cX2_divide 25 = .ok (.iload_n 2, 1) := by decide +kernel
theorem dX2_divide_26 : decode cX2_divide 26 = .ok (.aload_n 0, 1) := by decide +kernel
theorem dX2_divide_27 : decode cX2_divide 27 = .ok (.getfield 30, 3) := by decide +kernel
theorem dX2_divide_30 : decode cX2_divide 30 = .ok (.iload_n 2, 1) := by decide +kernel
theorem dX2_divide_31 : decode cX2_divide 31 = .ok (.iconst 1, 1) := by decide +kernel
theorem dX2_divide_32 : decode cX2_divide 32 = .ok (.isub, 1) := by decide +kernel
theorem dX2_divide_33 : decode cX2_divide 33 = .ok (.iaload, 1) := by decide +kernel
theorem dX2_divide_34 : decode cX2_divide 34 = .ok (.iastore, 1) := by decide +kernel
theorem dX2_divide_35 : decode cX2_divide 35 = .ok (.iinc 2 (-1), 3) := by decide +kernel
theorem dX2_divide_38 : decode cX2_divide 38 = .ok (.goto (-21), 3) := by decide +kernel
theorem dX2_divide_41 : decode cX2_divide 41 = .ok (.aload_n 0, 1) := by decide +kernel
theorem dX2_divide_42 : decode cX2_divide 42 = .ok (.getfield 30, 3) := by decide +kernel
theorem dX2_divide_45 : decode cX2_divide 45 = .ok (.iconst 0, 1) := by decide +kernel
theorem dX2_divide_46 : decode cX2_divide 46 = .ok (.aload_n 0, 1) := by decide +kernel
theorem dX2_divide_47 : decode cX2_divide 47 = .ok (.getfield 21, 3) := by decide +kernel
theorem dX2_divide_50 : decode cX2_divide 50 = .ok (.iload_n 1, 1) := by decide +kernel
theorem dX2_divide_51 : decode cX2_divide 51 = .ok (.iaload, 1) := by decide +kernel
theorem dX2_divide_52 : decode cX2_divide 52 = .ok (.iastore, 1) := by decide +kernel
theorem dX2_divide_53 : decode cX2_divide 53 = .ok (.iconst 0, 1) := by decide +kernel
theorem dX2_divide_54 : decode cX2_divide 54 = .ok (.istore_n 2, 1) := by decide +kernel
theorem dX2_divide_55 : decode cX2_divide 55 = .ok (.iconst 0, 1) := by decide +kernel
theorem dX2_divide_56 : decode cX2_divide 56 = .ok (.istore_n 3, 1) := by decide +kernel
theorem dX2_divide_57 : decode cX2_divide 57 = .ok (.iload_n 3, 1) := by decide +kernel
theorem dX2_divide_58 : decode cX2_divide 58 = .ok (.bipush 9, 2) := by decide +kernel
theorem dX2_divide_60 : decode cX2_divide 60 = .ok (.if_icmp .ge 37, 3) := by decide +kernel
theorem dX2_divide_63 : decode cX2_divide 63 = .ok (.aload_n 0, 1) := by decide +kernel
theorem dX2_divide_64 : decode cX2_divide 64 = .ok (.getfield 30, 3) := by decide +kernel
theorem dX2_divide_67 : decode cX2_divide 67 = .ok (.aload_n 0, 1) := by decide +kernel
theorem dX2_divide_68 : decode cX2_divide 68 = .ok (.getfield 24, 3) := by decide +kernel
theorem dX2_divide_71 : decode cX2_divide 71 = .ok (.invokestatic 47, 3) := by decide +kernel
theorem dX2_divide_74 : decode cX2_divide 74 = .ok (.ifCond .lt 23, 3) := by decide +kernel
theorem dX2_divide_77 : decode cX2_divide 77 = .ok (.aload_n 0, 1) := by decide +kernel
theorem dX2_divide_78 : decode cX2_divide 78 = .ok (.getfield 30, 3) := by decide +kernel
theorem dX2_divide_81 : decode cX2_divide 81 = .ok (.aload_n 0, 1) := by decide +kernel
theorem dX2_divide_82 : decode cX2_divide 82 = .ok (.getfield 24, 3) := by decide +kernel
theorem dX2_divide_85 : decode cX2_divide 85 = .ok (.invokestatic 51, 3) := by decide +kernel
theorem dX2_divide_88 : decode cX2_divide 88 = .ok (.iinc 2 1, 3) := by decide +kernel
theorem dX2_divide_91 : decode cX2_divide 91 = .ok (.iinc 3 1, 3) := by decide +kernel
theorem dX2_divide_94 : decode cX2_divide 94 = .ok (.goto (-37), 3) := by decide +kernel
theorem dX2_divide_97 : decode cX2_divide 97 = .ok (.aload_n 0, 1) := by decide +kernel
theorem dX2_divide_98 : decode cX2_divide 98 = .ok (.getfield 21, 3) := by decide +kernel
theorem dX2_divide_101 : decode cX2_divide 101 = .ok (.iload_n 1, 1) := by decide +kernel
theorem dX2_divide_102 : decode cX2_divide 102 = .ok (.iload_n 2, 1) := by decide +kernel
theorem dX2_divide_103 : decode cX2_divide 103 = .ok (.iastore, 1) := by decide +kernel
theorem dX2_divide_104 : decode cX2_divide 104 = .ok (.iinc 1 (-1), 3) := by decide +kernel
theorem dX2_divide_107 : decode cX2_divide 107 = .ok (.goto (-97), 3) := by decide +kernel
theorem dX2_divide_110 : decode cX2_divide 110 = .ok (.return_, 1) := by decide +kernel
abbrev cX2_isNothing : ByteArray := prog_4_method_14_code
def yX2_isNothing : MethodName := ⟨RX2, "isNothing", "([I)Z"⟩
theorem dX2_isNothing_0 : decode cX2_isNothing 0 = .ok (.iconst 1, 1) := by decide +kernel
theorem dX2_isNothing_1 : decode cX2_isNothing 1 = .ok (.istore_n 1, 1) := by decide +kernel
theorem dX2_isNothing_2 : decode cX2_isNothing 2 = .ok (.iconst 0, 1) := by decide +kernel
theorem dX2_isNothing_3 : decode cX2_isNothing 3 = .ok (.istore_n 2, 1) := by decide +kernel
theorem dX2_isNothing_4 : decode cX2_isNothing 4 = .ok (.iload_n 2, 1) := by decide +kernel
theorem dX2_isNothing_5 : decode cX2_isNothing 5 = .ok (.bipush 80, 2) := by decide +kernel
theorem dX2_isNothing_7 : decode cX2_isNothing 7 = .ok (.if_icmp .ge 25, 3) := by decide +kernel
theorem dX2_isNothing_10 : decode cX2_isNothing 10 = .ok (.iload_n 1, 1) := by decide +kernel
theorem dX2_isNothing_11 : decode cX2_isNothing 11 = .ok (.ifCond .eq 13, 3) := by decide +kernel
theorem dX2_isNothing_14 : decode cX2_isNothing 14 = .ok (.aload_n 0, 1) := by decide +kernel
theorem dX2_isNothing_15 : decode cX2_isNothing 15 = .ok (.iload_n 2, 1) := by decide +kernel
theorem dX2_isNothing_16 : decode cX2_isNothing 16 = .ok (.iaload, 1) := by decide +kernel
theorem dX2_isNothing_17 : decode cX2_isNothing 17 = .ok (.ifCond .ne 7, 3) := by decide +kernel
theorem dX2_isNothing_20 : decode cX2_isNothing 20 = .ok (.iconst 1, 1) := by decide +kernel
theorem dX2_isNothing_21 : decode cX2_isNothing 21 = .ok (.goto 4, 3) := by decide +kernel
theorem dX2_isNothing_24 : decode cX2_isNothing 24 = .ok (.iconst 0, 1) := by decide +kernel
theorem dX2_isNothing_25 : decode cX2_isNothing 25 = .ok (.istore_n 1, 1) := by decide +kernel
theorem dX2_isNothing_26 : decode cX2_isNothing 26 = .ok (.iinc 2 1, 3) := by decide +kernel
theorem dX2_isNothing_29 : decode cX2_isNothing 29 = .ok (.goto (-25), 3) := by decide +kernel
theorem dX2_isNothing_32 : decode cX2_isNothing 32 = .ok (.iload_n 1, 1) := by decide +kernel
theorem dX2_isNothing_33 : decode cX2_isNothing 33 = .ok (.ireturn, 1) := by decide +kernel
abbrev cX2_enter : ByteArray := prog_4_method_24_code
def yX2_enter : MethodName := ⟨RX2, "enter", "(IIJ)I"⟩
theorem dX2_enter_0 : decode cX2_enter 0 = .ok (.iload_n 1, 1) := by decide +kernel
theorem dX2_enter_1 : decode cX2_enter 1 = .ok (.invokestatic 89, 3) := by decide +kernel
theorem dX2_enter_4 : decode cX2_enter 4 = .ok (.ifCond .eq 10, 3) := by decide +kernel
theorem dX2_enter_7 : decode cX2_enter 7 = .ok (.iload_n 2, 1) := by decide +kernel
theorem dX2_enter_8 : decode cX2_enter 8 = .ok (.invokestatic 33, 3) := by decide +kernel
theorem dX2_enter_11 : decode cX2_enter 11 = .ok (.ifCond .ne 5, 3) := by decide +kernel
theorem dX2_enter_14 : decode cX2_enter 14 = .ok (.iconst (-1), 1) := by decide +kernel
theorem dX2_enter_15 : decode cX2_enter 15 = .ok (.ireturn, 1) := by decide +kernel
theorem dX2_enter_16 : decode cX2_enter 16 = .ok (.aload_n 0, 1) := by decide +kernel
theorem dX2_enter_17 : decode cX2_enter 17 = .ok (.getfield 7, 3) := by decide +kernel
theorem dX2_enter_20 : decode cX2_enter 20 = .ok (.iload_n 2, 1) := by decide +kernel
theorem dX2_enter_21 : decode cX2_enter 21 = .ok (.laload, 1) := by decide +kernel
theorem dX2_enter_22 : decode cX2_enter 22 = .ok (.aload_n 0, 1) := by decide +kernel
theorem dX2_enter_23 : decode cX2_enter 23 = .ok (.getfield 21, 3) := by decide +kernel
theorem dX2_enter_26 : decode cX2_enter 26 = .ok (.invokestatic 63, 3) := by decide +kernel
theorem dX2_enter_29 : decode cX2_enter 29 = .ok (.lload_n 3, 1) := by decide +kernel
theorem dX2_enter_30 : decode cX2_enter 30 = .ok (.aload_n 0, 1) := by decide +kernel
theorem dX2_enter_31 : decode cX2_enter 31 = .ok (.getfield 24, 3) := by decide +kernel
theorem dX2_enter_34 : decode cX2_enter 34 = .ok (.invokestatic 63, 3) := by decide +kernel
theorem dX2_enter_37 : decode cX2_enter 37 = .ok (.aload_n 0, 1) := by decide +kernel
theorem dX2_enter_38 : decode cX2_enter 38 = .ok (.invokevirtual 79, 3) := by decide +kernel
theorem dX2_enter_41 : decode cX2_enter 41 = .ok (.aload_n 0, 1) := by decide +kernel
theorem dX2_enter_42 : decode cX2_enter 42 = .ok (.getfield 21, 3) := by decide +kernel
theorem dX2_enter_45 : decode cX2_enter 45 = .ok (.aload_n 0, 1) := by decide +kernel
theorem dX2_enter_46 : decode cX2_enter 46 = .ok (.getfield 27, 3) := by decide +kernel
theorem dX2_enter_49 : decode cX2_enter 49 = .ok (.invokestatic 43, 3) := by decide +kernel
theorem dX2_enter_52 : decode cX2_enter 52 = .ok (.aload_n 0, 1) := by decide +kernel
theorem dX2_enter_53 : decode cX2_enter 53 = .ok (.iload_n 1, 1) := by decide +kernel
theorem dX2_enter_54 : decode cX2_enter 54 = .ok (.invokevirtual 92, 3) := by decide +kernel
theorem dX2_enter_57 : decode cX2_enter 57 = .ok (.aload_n 0, 1) := by decide +kernel
theorem dX2_enter_58 : decode cX2_enter 58 = .ok (.aload_n 0, 1) := by decide +kernel
theorem dX2_enter_59 : decode cX2_enter 59 = .ok (.getfield 7, 3) := by decide +kernel
theorem dX2_enter_62 : decode cX2_enter 62 = .ok (.iload_n 2, 1) := by decide +kernel
theorem dX2_enter_63 : decode cX2_enter 63 = .ok (.laload, 1) := by decide +kernel
theorem dX2_enter_64 : decode cX2_enter 64 = .ok (.lconst 0, 1) := by decide +kernel
theorem dX2_enter_65 : decode cX2_enter 65 = .ok (.lcmp, 1) := by decide +kernel
theorem dX2_enter_66 : decode cX2_enter 66 = .ok (.ifCond .ge 7, 3) := by decide +kernel
theorem dX2_enter_69 : decode cX2_enter 69 = .ok (.iconst 1, 1) := by decide +kernel
theorem dX2_enter_70 : decode cX2_enter 70 = .ok (.goto 4, 3) := by decide +kernel
theorem dX2_enter_73 : decode cX2_enter 73 = .ok (.iconst 0, 1) := by decide +kernel
theorem dX2_enter_74 : decode cX2_enter 74 = .ok (.lload_n 3, 1) := by decide +kernel
theorem dX2_enter_75 : decode cX2_enter 75 = .ok (.lconst 0, 1) := by decide +kernel
theorem dX2_enter_76 : decode cX2_enter 76 = .ok (.lcmp, 1) := by decide +kernel
theorem dX2_enter_77 : decode cX2_enter 77 = .ok (.ifCond .ge 7, 3) := by decide +kernel
theorem dX2_enter_80 : decode cX2_enter 80 = .ok (.iconst 1, 1) := by decide +kernel
theorem dX2_enter_81 : decode cX2_enter 81 = .ok (.goto 4, 3) := by decide +kernel
theorem dX2_enter_84 : decode cX2_enter 84 = .ok (.iconst 0, 1) := by decide +kernel
theorem dX2_enter_85 : decode cX2_enter 85 = .ok (.if_icmp .eq 7, 3) := by decide +kernel
theorem dX2_enter_88 : decode cX2_enter 88 = .ok (.iconst 1, 1) := by decide +kernel
theorem dX2_enter_89 : decode cX2_enter 89 = .ok (.goto 4, 3) := by decide +kernel
theorem dX2_enter_92 : decode cX2_enter 92 = .ok (.iconst 0, 1) := by decide +kernel
theorem dX2_enter_93 : decode cX2_enter 93 = .ok (.invokevirtual 67, 3) := by decide +kernel
theorem dX2_enter_96 : decode cX2_enter 96 = .ok (.aload_n 0, 1) := by decide +kernel
theorem dX2_enter_97 : decode cX2_enter 97 = .ok (.iload_n 1, 1) := by decide +kernel
theorem dX2_enter_98 : decode cX2_enter 98 = .ok (.invokevirtual 96, 3) := by decide +kernel
theorem dX2_enter_101 : decode cX2_enter 101 = .ok (.ireturn, 1) := by decide +kernel
abbrev cX2_isTally : ByteArray := prog_4_method_3_code
def yX2_isTally : MethodName := ⟨RX2, "isTally", "(I)Z"⟩
theorem dX2_isTally_0 : decode cX2_isTally 0 = .ok (.iload_n 0, 1) := by decide +kernel
theorem dX2_isTally_1 : decode cX2_isTally 1 = .ok (.ifCond .lt 12, 3) := by decide +kernel
theorem dX2_isTally_4 : decode cX2_isTally 4 = .ok (.iload_n 0, 1) := by decide +kernel
theorem dX2_isTally_5 : decode cX2_isTally 5 = .ok (.iconst 4, 1) := by decide +kernel
theorem dX2_isTally_6 : decode cX2_isTally 6 = .ok (.if_icmp .ge 7, 3) := by decide +kernel
theorem dX2_isTally_9 : decode cX2_isTally 9 = .ok (.iconst 1, 1) := by decide +kernel
theorem dX2_isTally_10 : decode cX2_isTally 10 = .ok (.goto 4, 3) := by decide +kernel
theorem dX2_isTally_13 : decode cX2_isTally 13 = .ok (.iconst 0, 1) := by decide +kernel
theorem dX2_isTally_14 : decode cX2_isTally 14 = .ok (.ireturn, 1) := by decide +kernel
abbrev cX2_read : ByteArray := prog_4_method_22_code
def yX2_read : MethodName := ⟨RX2, "read", "(I)V"⟩
theorem dX2_read_0 : decode cX2_read 0 = .ok (.iconst 0, 1) := by decide +kernel
theorem dX2_read_1 : decode cX2_read 1 = .ok (.istore_n 2, 1) := by decide +kernel
theorem dX2_read_2 : decode cX2_read 2 = .ok (.iload_n 2, 1) := by decide +kernel
theorem dX2_read_3 : decode cX2_read 3 = .ok (.bipush 80, 2) := by decide +kernel
theorem dX2_read_5 : decode cX2_read 5 = .ok (.if_icmp .ge 36, 3) := by decide +kernel
theorem dX2_read_8 : decode cX2_read 8 = .ok (.aload_n 0, 1) := by decide +kernel
theorem dX2_read_9 : decode cX2_read 9 = .ok (.getfield 21, 3) := by decide +kernel
theorem dX2_read_12 : decode cX2_read 12 = .ok (.iload_n 2, 1) := by decide +kernel
theorem dX2_read_13 : decode cX2_read 13 = .ok (.iload_n 2, 1) := by decide +kernel
theorem dX2_read_14 : decode cX2_read 14 = .ok (.bipush 36, 2) := by decide +kernel
theorem dX2_read_16 : decode cX2_read 16 = .ok (.if_icmp .ge 17, 3) := by decide +kernel
theorem dX2_read_19 : decode cX2_read 19 = .ok (.aload_n 0, 1) := by decide +kernel
theorem dX2_read_20 : decode cX2_read 20 = .ok (.getfield 13, 3) := by decide +kernel
theorem dX2_read_23 : decode cX2_read 23 = .ok (.bipush 40, 2) := by decide +kernel
theorem dX2_read_25 : decode cX2_read 25 = .ok (.iload_n 1, 1) := by decide +kernel
theorem dX2_read_26 : decode cX2_read 26 = .ok (.imul, 1) := by decide +kernel
theorem dX2_read_27 : decode cX2_read 27 = .ok (.iload_n 2, 1) := by decide +kernel
theorem dX2_read_28 : decode cX2_read 28 = .ok (.iadd, 1) := by decide +kernel
theorem dX2_read_29 : decode cX2_read 29 = .ok (.iaload, 1) := by decide +kernel
theorem dX2_read_30 : decode cX2_read 30 = .ok (.goto 4, 3) := by decide +kernel
theorem dX2_read_33 : decode cX2_read 33 = .ok (.iconst 0, 1) := by decide +kernel
theorem dX2_read_34 : decode cX2_read 34 = .ok (.iastore, 1) := by decide +kernel
theorem dX2_read_35 : decode cX2_read 35 = .ok (.iinc 2 1, 3) := by decide +kernel
theorem dX2_read_38 : decode cX2_read 38 = .ok (.goto (-36), 3) := by decide +kernel
theorem dX2_read_41 : decode cX2_read 41 = .ok (.aload_n 0, 1) := by decide +kernel
theorem dX2_read_42 : decode cX2_read 42 = .ok (.aload_n 0, 1) := by decide +kernel
theorem dX2_read_43 : decode cX2_read 43 = .ok (.getfield 17, 3) := by decide +kernel
theorem dX2_read_46 : decode cX2_read 46 = .ok (.iload_n 1, 1) := by decide +kernel
theorem dX2_read_47 : decode cX2_read 47 = .ok (.baload, 1) := by decide +kernel
theorem dX2_read_48 : decode cX2_read 48 = .ok (.putfield 54, 3) := by decide +kernel
theorem dX2_read_51 : decode cX2_read 51 = .ok (.return_, 1) := by decide +kernel
abbrev cX2_keep : ByteArray := prog_4_method_23_code
def yX2_keep : MethodName := ⟨RX2, "keep", "(I)I"⟩
theorem dX2_keep_0 : decode cX2_keep 0 = .ok (.iconst 0, 1) := by decide +kernel
theorem dX2_keep_1 : decode cX2_keep 1 = .ok (.istore_n 2, 1) := by decide +kernel
theorem dX2_keep_2 : decode cX2_keep 2 = .ok (.bipush 36, 2) := by decide +kernel
theorem dX2_keep_4 : decode cX2_keep 4 = .ok (.istore_n 3, 1) := by decide +kernel
theorem dX2_keep_5 : decode cX2_keep 5 = .ok (.iload_n 3, 1) := by decide +kernel
theorem dX2_keep_6 : decode cX2_keep 6 = .ok (.bipush 80, 2) := by decide +kernel
theorem dX2_keep_8 : decode cX2_keep 8 = .ok (.if_icmp .ge 28, 3) := by decide +kernel
theorem dX2_keep_11 : decode cX2_keep 11 = .ok (.iload_n 2, 1) := by decide +kernel
theorem dX2_keep_12 : decode cX2_keep 12 = .ok (.ifCond .ne 12, 3) := by decide +kernel
theorem dX2_keep_15 : decode cX2_keep 15 = .ok (.aload_n 0, 1) := by decide +kernel
theorem dX2_keep_16 : decode cX2_keep 16 = .ok (.getfield 21, 3) := by decide +kernel
theorem dX2_keep_19 : decode cX2_keep 19 = .ok (.iload_n 3, 1) := by decide +kernel
theorem dX2_keep_20 : decode cX2_keep 20 = .ok (.iaload, 1) := by decide +kernel
theorem dX2_keep_21 : decode cX2_keep 21 = .ok (.ifCond .le 7, 3) := by decide +kernel
theorem dX2_keep_24 : decode cX2_keep 24 = .ok (.iconst 1, 1) := by decide +kernel
theorem dX2_keep_25 : decode cX2_keep 25 = .ok (.goto 4, 3) := by decide +kernel
theorem dX2_keep_28 : decode cX2_keep 28 = .ok (.iconst 0, 1) := by decide +kernel
theorem dX2_keep_29 : decode cX2_keep 29 = .ok (.istore_n 2, 1) := by decide +kernel
theorem dX2_keep_30 : decode cX2_keep 30 = .ok (.iinc 3 1, 3) := by decide +kernel
theorem dX2_keep_33 : decode cX2_keep 33 = .ok (.goto (-28), 3) := by decide +kernel
theorem dX2_keep_36 : decode cX2_keep 36 = .ok (.iload_n 2, 1) := by decide +kernel
theorem dX2_keep_37 : decode cX2_keep 37 = .ok (.ifCond .eq 16, 3) := by decide +kernel
theorem dX2_keep_40 : decode cX2_keep 40 = .ok (.aload_n 0, 1) := by decide +kernel
theorem dX2_keep_41 : decode cX2_keep 41 = .ok (.getfield 54, 3) := by decide +kernel
theorem dX2_keep_44 : decode cX2_keep 44 = .ok (.ifCond .eq 7, 3) := by decide +kernel
theorem dX2_keep_47 : decode cX2_keep 47 = .ok (.iconst 2, 1) := by decide +kernel
theorem dX2_keep_48 : decode cX2_keep 48 = .ok (.goto 4, 3) := by decide +kernel
theorem dX2_keep_51 : decode cX2_keep 51 = .ok (.iconst 1, 1) := by decide +kernel
theorem dX2_keep_52 : decode cX2_keep 52 = .ok (.ireturn, 1) := by decide +kernel
theorem dX2_keep_53 : decode cX2_keep 53 = .ok (.iconst 0, 1) := by decide +kernel
theorem dX2_keep_54 : decode cX2_keep 54 = .ok (.istore_n 3, 1) := by decide +kernel
theorem dX2_keep_55 : decode cX2_keep 55 = .ok (.iload_n 3, 1) := by decide +kernel
theorem dX2_keep_56 : decode cX2_keep 56 = .ok (.bipush 36, 2) := by decide +kernel
theorem dX2_keep_58 : decode cX2_keep 58 = .ok (.if_icmp .ge 26, 3) := by decide +kernel
theorem dX2_keep_61 : decode cX2_keep 61 = .ok (.aload_n 0, 1) := by decide +kernel
theorem dX2_keep_62 : decode cX2_keep 62 = .ok (.getfield 13, 3) := by decide +kernel
theorem dX2_keep_65 : decode cX2_keep 65 = .ok (.bipush 40, 2) := by decide +kernel
theorem dX2_keep_67 : decode cX2_keep 67 = .ok (.iload_n 1, 1) := by decide +kernel
theorem dX2_keep_68 : decode cX2_keep 68 = .ok (.imul, 1) := by decide +kernel
theorem dX2_keep_69 : decode cX2_keep 69 = .ok (.iload_n 3, 1) := by decide +kernel
theorem dX2_keep_70 : decode cX2_keep 70 = .ok (.iadd, 1) := by decide +kernel
theorem dX2_keep_71 : decode cX2_keep 71 = .ok (.aload_n 0, 1) := by decide +kernel
theorem dX2_keep_72 : decode cX2_keep 72 = .ok (.getfield 21, 3) := by decide +kernel
theorem dX2_keep_75 : decode cX2_keep 75 = .ok (.iload_n 3, 1) := by decide +kernel
theorem dX2_keep_76 : decode cX2_keep 76 = .ok (.iaload, 1) := by decide +kernel
theorem dX2_keep_77 : decode cX2_keep 77 = .ok (.iastore, 1) := by decide +kernel
theorem dX2_keep_78 : decode cX2_keep 78 = .ok (.iinc 3 1, 3) := by decide +kernel
theorem dX2_keep_81 : decode cX2_keep 81 = .ok (.goto (-26), 3) := by decide +kernel
theorem dX2_keep_84 : decode cX2_keep 84 = .ok (.aload_n 0, 1) := by decide +kernel
theorem dX2_keep_85 : decode cX2_keep 85 = .ok (.getfield 17, 3) := by decide +kernel
theorem dX2_keep_88 : decode cX2_keep 88 = .ok (.iload_n 1, 1) := by decide +kernel
theorem dX2_keep_89 : decode cX2_keep 89 = .ok (.aload_n 0, 1) := by decide +kernel
theorem dX2_keep_90 : decode cX2_keep 90 = .ok (.getfield 54, 3) := by decide +kernel
theorem dX2_keep_93 : decode cX2_keep 93 = .ok (.ifCond .eq 17, 3) := by decide +kernel
theorem dX2_keep_96 : decode cX2_keep 96 = .ok (.aload_n 0, 1) := by decide +kernel
theorem dX2_keep_97 : decode cX2_keep 97 = .ok (.getfield 21, 3) := by decide +kernel
theorem dX2_keep_100 : decode cX2_keep 100 = .ok (.invokestatic 85, 3) := by decide +kernel
theorem dX2_keep_103 : decode cX2_keep 103 = .ok (.ifCond .ne 7, 3) := by decide +kernel
theorem dX2_keep_106 : decode cX2_keep 106 = .ok (.iconst 1, 1) := by decide +kernel
theorem dX2_keep_107 : decode cX2_keep 107 = .ok (.goto 4, 3) := by decide +kernel
theorem dX2_keep_110 : decode cX2_keep 110 = .ok (.iconst 0, 1) := by decide +kernel
theorem dX2_keep_111 : decode cX2_keep 111 = .ok (.bastore, 1) := by decide +kernel
theorem dX2_keep_112 : decode cX2_keep 112 = .ok (.iconst 0, 1) := by decide +kernel
theorem dX2_keep_113 : decode cX2_keep 113 = .ok (.ireturn, 1) := by decide +kernel
abbrev cX2_merge : ByteArray := prog_4_method_25_code
def yX2_merge : MethodName := ⟨RX2, "merge", "(II)I"⟩
theorem dX2_merge_0 : decode cX2_merge 0 = .ok (.iload_n 1, 1) := by decide +kernel
theorem dX2_merge_1 : decode cX2_merge 1 = .ok (.invokestatic 89, 3) := by decide +kernel
theorem dX2_merge_4 : decode cX2_merge 4 = .ok (.ifCond .eq 10, 3) := by decide +kernel
theorem dX2_merge_7 : decode cX2_merge 7 = .ok (.iload_n 2, 1) := by decide +kernel
theorem dX2_merge_8 : decode cX2_merge 8 = .ok (.invokestatic 89, 3) := by decide +kernel
theorem dX2_merge_11 : decode cX2_merge 11 = .ok (.ifCond .ne 5, 3) := by decide +kernel
theorem dX2_merge_14 : decode cX2_merge 14 = .ok (.iconst (-1), 1) := by decide +kernel
theorem dX2_merge_15 : decode cX2_merge 15 = .ok (.ireturn, 1) := by decide +kernel
theorem dX2_merge_16 : decode cX2_merge 16 = .ok (.aload_n 0, 1) := by decide +kernel
theorem dX2_merge_17 : decode cX2_merge 17 = .ok (.iload_n 2, 1) := by decide +kernel
theorem dX2_merge_18 : decode cX2_merge 18 = .ok (.invokevirtual 92, 3) := by decide +kernel
theorem dX2_merge_21 : decode cX2_merge 21 = .ok (.aload_n 0, 1) := by decide +kernel
theorem dX2_merge_22 : decode cX2_merge 22 = .ok (.getfield 21, 3) := by decide +kernel
theorem dX2_merge_25 : decode cX2_merge 25 = .ok (.aload_n 0, 1) := by decide +kernel
theorem dX2_merge_26 : decode cX2_merge 26 = .ok (.getfield 27, 3) := by decide +kernel
theorem dX2_merge_29 : decode cX2_merge 29 = .ok (.invokestatic 43, 3) := by decide +kernel
theorem dX2_merge_32 : decode cX2_merge 32 = .ok (.aload_n 0, 1) := by decide +kernel
theorem dX2_merge_33 : decode cX2_merge 33 = .ok (.iload_n 1, 1) := by decide +kernel
theorem dX2_merge_34 : decode cX2_merge 34 = .ok (.invokevirtual 92, 3) := by decide +kernel
theorem dX2_merge_37 : decode cX2_merge 37 = .ok (.aload_n 0, 1) := by decide +kernel
theorem dX2_merge_38 : decode cX2_merge 38 = .ok (.aload_n 0, 1) := by decide +kernel
theorem dX2_merge_39 : decode cX2_merge 39 = .ok (.getfield 17, 3) := by decide +kernel
theorem dX2_merge_42 : decode cX2_merge 42 = .ok (.iload_n 2, 1) := by decide +kernel
theorem dX2_merge_43 : decode cX2_merge 43 = .ok (.baload, 1) := by decide +kernel
theorem dX2_merge_44 : decode cX2_merge 44 = .ok (.invokevirtual 67, 3) := by decide +kernel
theorem dX2_merge_47 : decode cX2_merge 47 = .ok (.aload_n 0, 1) := by decide +kernel
theorem dX2_merge_48 : decode cX2_merge 48 = .ok (.iload_n 1, 1) := by decide +kernel
theorem dX2_merge_49 : decode cX2_merge 49 = .ok (.invokevirtual 96, 3) := by decide +kernel
theorem dX2_merge_52 : decode cX2_merge 52 = .ok (.ireturn, 1) := by decide +kernel
abbrev cX2_split : ByteArray := prog_4_method_26_code
def yX2_split : MethodName := ⟨RX2, "split", "(IJI)I"⟩
theorem dX2_split_0 : decode cX2_split 0 = .ok (.iload_n 1, 1) := by decide +kernel
theorem dX2_split_1 : decode cX2_split 1 = .ok (.invokestatic 89, 3) := by decide +kernel
theorem dX2_split_4 : decode cX2_split 4 = .ok (.ifCond .eq 25, 3) := by decide +kernel
theorem dX2_split_7 : decode cX2_split 7 = .ok (.iload 4, 2) := by decide +kernel
theorem dX2_split_9 : decode cX2_split 9 = .ok (.invokestatic 33, 3) := by decide +kernel
theorem dX2_split_12 : decode cX2_split 12 = .ok (.ifCond .eq 17, 3) := by decide +kernel
theorem dX2_split_15 : decode cX2_split 15 = .ok (.lload_n 2, 1) := by decide +kernel
theorem dX2_split_16 : decode cX2_split 16 = .ok (.lconst 0, 1) := by decide +kernel
theorem dX2_split_17 : decode cX2_split 17 = .ok (.lcmp, 1) := by decide +kernel
theorem dX2_split_18 : decode cX2_split 18 = .ok (.ifCond .lt 11, 3) := by decide +kernel
theorem dX2_split_21 : decode cX2_split 21 = .ok (.lload_n 2, 1) := by decide +kernel
theorem dX2_split_22 : decode cX2_split 22 = .ok (.ldc2_w 99, 3) := by decide +kernel
theorem dX2_split_25 : decode cX2_split 25 = .ok (.lcmp, 1) := by decide +kernel
theorem dX2_split_26 : decode cX2_split 26 = .ok (.ifCond .le 5, 3) := by decide +kernel
theorem dX2_split_29 : decode cX2_split 29 = .ok (.iconst (-1), 1) := by decide +kernel
theorem dX2_split_30 : decode cX2_split 30 = .ok (.ireturn, 1) := by decide +kernel
theorem dX2_split_31 : decode cX2_split 31 = .ok (.lload_n 2, 1) := by decide +kernel
theorem dX2_split_32 : decode cX2_split 32 = .ok (.lconst 0, 1) := by decide +kernel
theorem dX2_split_33 : decode cX2_split 33 = .ok (.lcmp, 1) := by decide +kernel
theorem dX2_split_34 : decode cX2_split 34 = .ok (.ifCond .ne 5, 3) := by decide +kernel
theorem dX2_split_37 : decode cX2_split 37 = .ok (.iconst 3, 1) := by decide +kernel
theorem dX2_split_38 : decode cX2_split 38 = .ok (.ireturn, 1) := by decide +kernel
theorem dX2_split_39 : decode cX2_split 39 = .ok (.aload_n 0, 1) := by decide +kernel
theorem dX2_split_40 : decode cX2_split 40 = .ok (.iload_n 1, 1) := by decide +kernel
theorem dX2_split_41 : decode cX2_split 41 = .ok (.invokevirtual 92, 3) := by decide +kernel
theorem dX2_split_44 : decode cX2_split 44 = .ok (.lload_n 2, 1) := by decide +kernel
theorem dX2_split_45 : decode cX2_split 45 = .ok (.aload_n 0, 1) := by decide +kernel
theorem dX2_split_46 : decode cX2_split 46 = .ok (.getfield 24, 3) := by decide +kernel
theorem dX2_split_49 : decode cX2_split 49 = .ok (.invokestatic 63, 3) := by decide +kernel
theorem dX2_split_52 : decode cX2_split 52 = .ok (.aload_n 0, 1) := by decide +kernel
theorem dX2_split_53 : decode cX2_split 53 = .ok (.invokevirtual 82, 3) := by decide +kernel
theorem dX2_split_56 : decode cX2_split 56 = .ok (.lconst 0, 1) := by decide +kernel
theorem dX2_split_57 : decode cX2_split 57 = .ok (.lstore 5, 2) := by decide +kernel
theorem dX2_split_59 : decode cX2_split 59 = .ok (.bipush 19, 2) := by decide +kernel
theorem dX2_split_61 : decode cX2_split 61 = .ok (.istore 7, 2) := by decide +kernel
theorem dX2_split_63 : decode cX2_split 63 = .ok (.iload 7, 2) := by decide +kernel
theorem dX2_split_65 : decode cX2_split 65 = .ok (.ifCond .lt 26, 3) := by decide +kernel
theorem dX2_split_68 : decode cX2_split 68 = .ok (.ldc2_w 37, 3) := by decide +kernel
theorem dX2_split_71 : decode cX2_split 71 = .ok (.lload 5, 2) := by decide +kernel
theorem dX2_split_73 : decode cX2_split 73 = .ok (.lmul, 1) := by decide +kernel
theorem dX2_split_74 : decode cX2_split 74 = .ok (.aload_n 0, 1) := by decide +kernel
theorem dX2_split_75 : decode cX2_split 75 = .ok (.getfield 30, 3) := by decide +kernel
theorem dX2_split_78 : decode cX2_split 78 = .ok (.iload 7, 2) := by decide +kernel
theorem dX2_split_80 : decode cX2_split 80 = .ok (.iaload, 1) := by decide +kernel
theorem dX2_split_81 : decode cX2_split 81 = .ok (.i2l, 1) := by decide +kernel
theorem dX2_split_82 : decode cX2_split 82 = .ok (.ladd, 1) := by decide +kernel
theorem dX2_split_83 : decode cX2_split 83 = .ok (.lstore 5, 2) := by decide +kernel
theorem dX2_split_85 : decode cX2_split 85 = .ok (.iinc 7 (-1), 3) := by decide +kernel
theorem dX2_split_88 : decode cX2_split 88 = .ok (.goto (-25), 3) := by decide +kernel
theorem dX2_split_91 : decode cX2_split 91 = .ok (.aload_n 0, 1) := by decide +kernel
theorem dX2_split_92 : decode cX2_split 92 = .ok (.getfield 7, 3) := by decide +kernel
theorem dX2_split_95 : decode cX2_split 95 = .ok (.iload 4, 2) := by decide +kernel
theorem dX2_split_97 : decode cX2_split 97 = .ok (.aload_n 0, 1) := by decide +kernel
theorem dX2_split_98 : decode cX2_split 98 = .ok (.getfield 54, 3) := by decide +kernel
theorem dX2_split_101 : decode cX2_split 101 = .ok (.ifCond .eq 9, 3) := by decide +kernel
theorem dX2_split_104 : decode cX2_split 104 = .ok (.lload 5, 2) := by decide +kernel
theorem dX2_split_106 : decode cX2_split 106 = .ok (.lneg, 1) := by decide +kernel
theorem dX2_split_107 : decode cX2_split 107 = .ok (.goto 5, 3) := by decide +kernel
theorem dX2_split_110 : decode cX2_split 110 = .ok (.lload 5, 2) := by decide +kernel
theorem dX2_split_112 : decode cX2_split 112 = .ok (.lastore, 1) := by decide +kernel
theorem dX2_split_113 : decode cX2_split 113 = .ok (.aload_n 0, 1) := by decide +kernel
theorem dX2_split_114 : decode cX2_split 114 = .ok (.iload_n 1, 1) := by decide +kernel
theorem dX2_split_115 : decode cX2_split 115 = .ok (.invokevirtual 96, 3) := by decide +kernel
theorem dX2_split_118 : decode cX2_split 118 = .ok (.ireturn, 1) := by decide +kernel
abbrev cX2_take : ByteArray := prog_4_method_27_code
def yX2_take : MethodName := ⟨RX2, "take", "(II)I"⟩
theorem dX2_take_0 : decode cX2_take 0 = .ok (.iload_n 1, 1) := by decide +kernel
theorem dX2_take_1 : decode cX2_take 1 = .ok (.invokestatic 89, 3) := by decide +kernel
theorem dX2_take_4 : decode cX2_take 4 = .ok (.ifCond .eq 10, 3) := by decide +kernel
theorem dX2_take_7 : decode cX2_take 7 = .ok (.iload_n 2, 1) := by decide +kernel
theorem dX2_take_8 : decode cX2_take 8 = .ok (.invokestatic 33, 3) := by decide +kernel
theorem dX2_take_11 : decode cX2_take 11 = .ok (.ifCond .ne 5, 3) := by decide +kernel
theorem dX2_take_14 : decode cX2_take 14 = .ok (.iconst (-1), 1) := by decide +kernel
theorem dX2_take_15 : decode cX2_take 15 = .ok (.ireturn, 1) := by decide +kernel
theorem dX2_take_16 : decode cX2_take 16 = .ok (.aload_n 0, 1) := by decide +kernel
theorem dX2_take_17 : decode cX2_take 17 = .ok (.iload_n 1, 1) := by decide +kernel
theorem dX2_take_18 : decode cX2_take 18 = .ok (.invokevirtual 92, 3) := by decide +kernel
theorem dX2_take_21 : decode cX2_take 21 = .ok (.aload_n 0, 1) := by decide +kernel
theorem dX2_take_22 : decode cX2_take 22 = .ok (.iload_n 2, 1) := by decide +kernel
theorem dX2_take_23 : decode cX2_take 23 = .ok (.invokevirtual 71, 3) := by decide +kernel
theorem dX2_take_26 : decode cX2_take 26 = .ok (.ireturn, 1) := by decide +kernel
abbrev cX2_clear : ByteArray := prog_4_method_28_code
def yX2_clear : MethodName := ⟨RX2, "clear", "(I)Z"⟩
theorem dX2_clear_0 : decode cX2_clear 0 = .ok (.iconst 0, 1) := by decide +kernel
theorem dX2_clear_1 : decode cX2_clear 1 = .ok (.istore_n 2, 1) := by decide +kernel
theorem dX2_clear_2 : decode cX2_clear 2 = .ok (.iload_n 2, 1) := by decide +kernel
theorem dX2_clear_3 : decode cX2_clear 3 = .ok (.bipush 40, 2) := by decide +kernel
theorem dX2_clear_5 : decode cX2_clear 5 = .ok (.if_icmp .ge 28, 3) := by decide +kernel
theorem dX2_clear_8 : decode cX2_clear 8 = .ok (.iload_n 1, 1) := by decide +kernel
theorem dX2_clear_9 : decode cX2_clear 9 = .ok (.invokestatic 89, 3) := by decide +kernel
theorem dX2_clear_12 : decode cX2_clear 12 = .ok (.ifCond .eq 21, 3) := by decide +kernel
theorem dX2_clear_15 : decode cX2_clear 15 = .ok (.aload_n 0, 1) := by decide +kernel
theorem dX2_clear_16 : decode cX2_clear 16 = .ok (.getfield 13, 3) := by decide +kernel
theorem dX2_clear_19 : decode cX2_clear 19 = .ok (.bipush 40, 2) := by decide +kernel
theorem dX2_clear_21 : decode cX2_clear 21 = .ok (.iload_n 1, 1) := by decide +kernel
theorem dX2_clear_22 : decode cX2_clear 22 = .ok (.imul, 1) := by decide +kernel
theorem dX2_clear_23 : decode cX2_clear 23 = .ok (.iload_n 2, 1) := by decide +kernel
theorem dX2_clear_24 : decode cX2_clear 24 = .ok (.iadd, 1) := by decide +kernel
theorem dX2_clear_25 : decode cX2_clear 25 = .ok (.iconst 0, 1) := by decide +kernel
theorem dX2_clear_26 : decode cX2_clear 26 = .ok (.iastore, 1) := by decide +kernel
theorem dX2_clear_27 : decode cX2_clear 27 = .ok (.iinc 2 1, 3) := by decide +kernel
theorem dX2_clear_30 : decode cX2_clear 30 = .ok (.goto (-28), 3) := by decide +kernel
theorem dX2_clear_33 : decode cX2_clear 33 = .ok (.iload_n 1, 1) := by decide +kernel
theorem dX2_clear_34 : decode cX2_clear 34 = .ok (.invokestatic 89, 3) := by decide +kernel
theorem dX2_clear_37 : decode cX2_clear 37 = .ok (.ifCond .eq 10, 3) := by decide +kernel
theorem dX2_clear_40 : decode cX2_clear 40 = .ok (.aload_n 0, 1) := by decide +kernel
theorem dX2_clear_41 : decode cX2_clear 41 = .ok (.getfield 17, 3) := by decide +kernel
theorem dX2_clear_44 : decode cX2_clear 44 = .ok (.iload_n 1, 1) := by decide +kernel
theorem dX2_clear_45 : decode cX2_clear 45 = .ok (.iconst 0, 1) := by decide +kernel
theorem dX2_clear_46 : decode cX2_clear 46 = .ok (.bastore, 1) := by decide +kernel
theorem dX2_clear_47 : decode cX2_clear 47 = .ok (.iload_n 1, 1) := by decide +kernel
theorem dX2_clear_48 : decode cX2_clear 48 = .ok (.invokestatic 89, 3) := by decide +kernel
theorem dX2_clear_51 : decode cX2_clear 51 = .ok (.ireturn, 1) := by decide +kernel
abbrev cX2_compare : ByteArray := prog_4_method_29_code
def yX2_compare : MethodName := ⟨RX2, "compare", "(II)I"⟩
theorem dX2_compare_0 : decode cX2_compare 0 = .ok (.iload_n 1, 1) := by decide +kernel
theorem dX2_compare_1 : decode cX2_compare 1 = .ok (.invokestatic 89, 3) := by decide +kernel
theorem dX2_compare_4 : decode cX2_compare 4 = .ok (.ifCond .eq 10, 3) := by decide +kernel
theorem dX2_compare_7 : decode cX2_compare 7 = .ok (.iload_n 2, 1) := by decide +kernel
theorem dX2_compare_8 : decode cX2_compare 8 = .ok (.invokestatic 89, 3) := by decide +kernel
theorem dX2_compare_11 : decode cX2_compare 11 = .ok (.ifCond .ne 6, 3) := by decide +kernel
theorem dX2_compare_14 : decode cX2_compare 14 = .ok (.bipush (-2), 2) := by decide +kernel
theorem dX2_compare_16 : decode cX2_compare 16 = .ok (.ireturn, 1) := by decide +kernel
theorem dX2_compare_17 : decode cX2_compare 17 = .ok (.aload_n 0, 1) := by decide +kernel
theorem dX2_compare_18 : decode cX2_compare 18 = .ok (.iload_n 2, 1) := by decide +kernel
theorem dX2_compare_19 : decode cX2_compare 19 = .ok (.invokevirtual 92, 3) := by decide +kernel
theorem dX2_compare_22 : decode cX2_compare 22 = .ok (.aload_n 0, 1) := by decide +kernel
theorem dX2_compare_23 : decode cX2_compare 23 = .ok (.getfield 21, 3) := by decide +kernel
theorem dX2_compare_26 : decode cX2_compare 26 = .ok (.aload_n 0, 1) := by decide +kernel
theorem dX2_compare_27 : decode cX2_compare 27 = .ok (.getfield 27, 3) := by decide +kernel
theorem dX2_compare_30 : decode cX2_compare 30 = .ok (.invokestatic 43, 3) := by decide +kernel
theorem dX2_compare_33 : decode cX2_compare 33 = .ok (.aload_n 0, 1) := by decide +kernel
theorem dX2_compare_34 : decode cX2_compare 34 = .ok (.iload_n 1, 1) := by decide +kernel
theorem dX2_compare_35 : decode cX2_compare 35 = .ok (.invokevirtual 92, 3) := by decide +kernel
theorem dX2_compare_38 : decode cX2_compare 38 = .ok (.aload_n 0, 1) := by decide +kernel
theorem dX2_compare_39 : decode cX2_compare 39 = .ok (.getfield 21, 3) := by decide +kernel
theorem dX2_compare_42 : decode cX2_compare 42 = .ok (.aload_n 0, 1) := by decide +kernel
theorem dX2_compare_43 : decode cX2_compare 43 = .ok (.getfield 27, 3) := by decide +kernel
theorem dX2_compare_46 : decode cX2_compare 46 = .ok (.invokestatic 47, 3) := by decide +kernel
theorem dX2_compare_49 : decode cX2_compare 49 = .ok (.istore_n 3, 1) := by decide +kernel
theorem dX2_compare_50 : decode cX2_compare 50 = .ok (.aload_n 0, 1) := by decide +kernel
theorem dX2_compare_51 : decode cX2_compare 51 = .ok (.getfield 17, 3) := by decide +kernel
theorem dX2_compare_54 : decode cX2_compare 54 = .ok (.iload_n 1, 1) := by decide +kernel
theorem dX2_compare_55 : decode cX2_compare 55 = .ok (.baload, 1) := by decide +kernel
theorem dX2_compare_56 : decode cX2_compare 56 = .ok (.aload_n 0, 1) := by decide +kernel
theorem dX2_compare_57 : decode cX2_compare 57 = .ok (.getfield 17, 3) := by decide +kernel
theorem dX2_compare_60 : decode cX2_compare 60 = .ok (.iload_n 2, 1) := by decide +kernel
theorem dX2_compare_61 : decode cX2_compare 61 = .ok (.baload, 1) := by decide +kernel
theorem dX2_compare_62 : decode cX2_compare 62 = .ok (.if_icmp .eq 20, 3) := by decide +kernel
theorem dX2_compare_65 : decode cX2_compare 65 = .ok (.aload_n 0, 1) := by decide +kernel
theorem dX2_compare_66 : decode cX2_compare 66 = .ok (.getfield 17, 3) := by decide +kernel
theorem dX2_compare_69 : decode cX2_compare 69 = .ok (.iload_n 1, 1) := by decide +kernel
theorem dX2_compare_70 : decode cX2_compare 70 = .ok (.baload, 1) := by decide +kernel
theorem dX2_compare_71 : decode cX2_compare 71 = .ok (.ifCond .eq 7, 3) := by decide +kernel
theorem dX2_compare_74 : decode cX2_compare 74 = .ok (.iconst (-1), 1) := by decide +kernel
theorem dX2_compare_75 : decode cX2_compare 75 = .ok (.goto 22, 3) := by decide +kernel
theorem dX2_compare_78 : decode cX2_compare 78 = .ok (.iconst 1, 1) := by decide +kernel
theorem dX2_compare_79 : decode cX2_compare 79 = .ok (.goto 18, 3) := by decide +kernel
theorem dX2_compare_82 : decode cX2_compare 82 = .ok (.aload_n 0, 1) := by decide +kernel
theorem dX2_compare_83 : decode cX2_compare 83 = .ok (.getfield 17, 3) := by decide +kernel
theorem dX2_compare_86 : decode cX2_compare 86 = .ok (.iload_n 1, 1) := by decide +kernel
theorem dX2_compare_87 : decode cX2_compare 87 = .ok (.baload, 1) := by decide +kernel
theorem dX2_compare_88 : decode cX2_compare 88 = .ok (.ifCond .eq 8, 3) := by decide +kernel
theorem dX2_compare_91 : decode cX2_compare 91 = .ok (.iload_n 3, 1) := by decide +kernel
theorem dX2_compare_92 : decode cX2_compare 92 = .ok (.ineg, 1) := by decide +kernel
theorem dX2_compare_93 : decode cX2_compare 93 = .ok (.goto 4, 3) := by decide +kernel
theorem dX2_compare_96 : decode cX2_compare 96 = .ok (.iload_n 3, 1) := by decide +kernel
theorem dX2_compare_97 : decode cX2_compare 97 = .ok (.ireturn, 1) := by decide +kernel
abbrev cX2_digits : ByteArray := prog_4_method_30_code
def yX2_digits : MethodName := ⟨RX2, "digits", "(I)I"⟩
theorem dX2_digits_0 : decode cX2_digits 0 = .ok (.iconst 1, 1) := by decide +kernel
theorem dX2_digits_1 : decode cX2_digits 1 = .ok (.istore_n 2, 1) := by decide +kernel
theorem dX2_digits_2 : decode cX2_digits 2 = .ok (.iconst 0, 1) := by decide +kernel
theorem dX2_digits_3 : decode cX2_digits 3 = .ok (.istore_n 3, 1) := by decide +kernel
theorem dX2_digits_4 : decode cX2_digits 4 = .ok (.iload_n 3, 1) := by decide +kernel
theorem dX2_digits_5 : decode cX2_digits 5 = .ok (.bipush 36, 2) := by decide +kernel
theorem dX2_digits_7 : decode cX2_digits 7 = .ok (.if_icmp .ge 38, 3) := by decide +kernel
theorem dX2_digits_10 : decode cX2_digits 10 = .ok (.iload_n 1, 1) := by decide +kernel
theorem dX2_digits_11 : decode cX2_digits 11 = .ok (.invokestatic 89, 3) := by decide +kernel
theorem dX2_digits_14 : decode cX2_digits 14 = .ok (.ifCond .eq 31, 3) := by decide +kernel
theorem dX2_digits_17 : decode cX2_digits 17 = .ok (.aload_n 0, 1) := by decide +kernel
theorem dX2_digits_18 : decode cX2_digits 18 = .ok (.getfield 13, 3) := by decide +kernel
theorem dX2_digits_21 : decode cX2_digits 21 = .ok (.bipush 40, 2) := by decide +kernel
theorem dX2_digits_23 : decode cX2_digits 23 = .ok (.iload_n 1, 1) := by decide +kernel
theorem dX2_digits_24 : decode cX2_digits 24 = .ok (.imul, 1) := by decide +kernel
theorem dX2_digits_25 : decode cX2_digits 25 = .ok (.iload_n 3, 1) := by decide +kernel
theorem dX2_digits_26 : decode cX2_digits 26 = .ok (.iadd, 1) := by decide +kernel
theorem dX2_digits_27 : decode cX2_digits 27 = .ok (.iaload, 1) := by decide +kernel
theorem dX2_digits_28 : decode cX2_digits 28 = .ok (.ifCond .le 9, 3) := by decide +kernel
theorem dX2_digits_31 : decode cX2_digits 31 = .ok (.iload_n 3, 1) := by decide +kernel
theorem dX2_digits_32 : decode cX2_digits 32 = .ok (.iconst 1, 1) := by decide +kernel
theorem dX2_digits_33 : decode cX2_digits 33 = .ok (.iadd, 1) := by decide +kernel
theorem dX2_digits_34 : decode cX2_digits 34 = .ok (.goto 4, 3) := by decide +kernel
theorem dX2_digits_37 : decode cX2_digits 37 = .ok (.iload_n 2, 1) := by decide +kernel
theorem dX2_digits_38 : decode cX2_digits 38 = .ok (.istore_n 2, 1) := by decide +kernel
theorem dX2_digits_39 : decode cX2_digits 39 = .ok (.iinc 3 1, 3) := by decide +kernel
theorem dX2_digits_42 : decode cX2_digits 42 = .ok (.goto (-38), 3) := by decide +kernel
theorem dX2_digits_45 : decode cX2_digits 45 = .ok (.iload_n 1, 1) := by decide +kernel
theorem dX2_digits_46 : decode cX2_digits 46 = .ok (.invokestatic 89, 3) := by decide +kernel
theorem dX2_digits_49 : decode cX2_digits 49 = .ok (.ifCond .ne 7, 3) := by decide +kernel
theorem dX2_digits_52 : decode cX2_digits 52 = .ok (.iconst 0, 1) := by decide +kernel
theorem dX2_digits_53 : decode cX2_digits 53 = .ok (.goto 18, 3) := by decide +kernel
theorem dX2_digits_56 : decode cX2_digits 56 = .ok (.aload_n 0, 1) := by decide +kernel
theorem dX2_digits_57 : decode cX2_digits 57 = .ok (.getfield 17, 3) := by decide +kernel
theorem dX2_digits_60 : decode cX2_digits 60 = .ok (.iload_n 1, 1) := by decide +kernel
theorem dX2_digits_61 : decode cX2_digits 61 = .ok (.baload, 1) := by decide +kernel
theorem dX2_digits_62 : decode cX2_digits 62 = .ok (.ifCond .eq 8, 3) := by decide +kernel
theorem dX2_digits_65 : decode cX2_digits 65 = .ok (.iload_n 2, 1) := by decide +kernel
theorem dX2_digits_66 : decode cX2_digits 66 = .ok (.ineg, 1) := by decide +kernel
theorem dX2_digits_67 : decode cX2_digits 67 = .ok (.goto 4, 3) := by decide +kernel
theorem dX2_digits_70 : decode cX2_digits 70 = .ok (.iload_n 2, 1) := by decide +kernel
theorem dX2_digits_71 : decode cX2_digits 71 = .ok (.ireturn, 1) := by decide +kernel
abbrev cX2_digit : ByteArray := prog_4_method_31_code
def yX2_digit : MethodName := ⟨RX2, "digit", "(II)I"⟩
theorem dX2_digit_0 : decode cX2_digit 0 = .ok (.iload_n 1, 1) := by decide +kernel
theorem dX2_digit_1 : decode cX2_digit 1 = .ok (.invokestatic 89, 3) := by decide +kernel
theorem dX2_digit_4 : decode cX2_digit 4 = .ok (.ifCond .eq 27, 3) := by decide +kernel
theorem dX2_digit_7 : decode cX2_digit 7 = .ok (.iload_n 2, 1) := by decide +kernel
theorem dX2_digit_8 : decode cX2_digit 8 = .ok (.ifCond .lt 23, 3) := by decide +kernel
theorem dX2_digit_11 : decode cX2_digit 11 = .ok (.iload_n 2, 1) := by decide +kernel
theorem dX2_digit_12 : decode cX2_digit 12 = .ok (.bipush 36, 2) := by decide +kernel
theorem dX2_digit_14 : decode cX2_digit 14 = .ok (.if_icmp .ge 17, 3) := by decide +kernel
theorem dX2_digit_17 : decode cX2_digit 17 = .ok (.aload_n 0, 1) := by decide +kernel
theorem dX2_digit_18 : decode cX2_digit 18 = .ok (.getfield 13, 3) := by decide +kernel
theorem dX2_digit_21 : decode cX2_digit 21 = .ok (.bipush 40, 2) := by decide +kernel
theorem dX2_digit_23 : decode cX2_digit 23 = .ok (.iload_n 1, 1) := by decide +kernel
theorem dX2_digit_24 : decode cX2_digit 24 = .ok (.imul, 1) := by decide +kernel
theorem dX2_digit_25 : decode cX2_digit 25 = .ok (.iload_n 2, 1) := by decide +kernel
theorem dX2_digit_26 : decode cX2_digit 26 = .ok (.iadd, 1) := by decide +kernel
theorem dX2_digit_27 : decode cX2_digit 27 = .ok (.iaload, 1) := by decide +kernel
theorem dX2_digit_28 : decode cX2_digit 28 = .ok (.goto 4, 3) := by decide +kernel
theorem dX2_digit_31 : decode cX2_digit 31 = .ok (.iconst (-1), 1) := by decide +kernel
theorem dX2_digit_32 : decode cX2_digit 32 = .ok (.ireturn, 1) := by decide +kernel
/-- the words that the methods of the reference need, all of them -/
def mdT_1 : List Cond := [.initialized RX2, .methodLink RX2 33 yX2_isRegister, .static yX2_isRegister, .fieldLink RX2 7 "ExactDeskModel" "registers" "[J", .methodLink RX2 75 yX2_sum, .instanceMethod yX2_sum, .selects RX2 yX2_sum yX2_sum, .fieldLink RX2 21 "ExactDeskModel" "a" "[I", .methodLink RX2 63 yX2_write, .static yX2_write, .fieldLink RX2 54 "ExactDeskModel" "negative" "Z", .fieldLink RX2 27 "ExactDeskModel" "c" "[I", .methodLink RX2 67 yX2_join, .instanceMethod yX2_join, .selects RX2 yX2_join yX2_join, .methodLink RX2 71 yX2_store, .instanceMethod yX2_store, .selects RX2 yX2_store yX2_store, .constantLong RX2 37 (10), .methodLink RX2 58 yX2_plus, .static yX2_plus, .methodLink RX2 47 yX2_compareSizes, .static yX2_compareSizes, .methodLink RX2 51 yX2_minus, .static yX2_minus, .fieldLink RX2 30 "ExactDeskModel" "rest" "[I", .methodLink RX2 43 yX2_copy, .static yX2_copy, .constantLong RX2 61 (9223372036854775807), .fieldLink RX2 24 "ExactDeskModel" "b" "[I", .methodLink RX2 79 yX2_multiply, .instanceMethod yX2_multiply, .selects RX2 yX2_multiply yX2_multiply, .methodLink RX2 39 yX2_nothing, .static yX2_nothing, .methodLink RX2 82 yX2_divide, .instanceMethod yX2_divide, .selects RX2 yX2_divide yX2_divide, .methodLink RX2 85 yX2_isNothing, .static yX2_isNothing, .methodLink RX2 89 yX2_isTally]
def mdT_2 : List Cond := [.static yX2_isTally, .methodLink RX2 92 yX2_read, .instanceMethod yX2_read, .selects RX2 yX2_read yX2_read, .methodLink RX2 96 yX2_keep, .instanceMethod yX2_keep, .selects RX2 yX2_keep yX2_keep, .fieldLink RX2 13 "ExactDeskModel" "tallies" "[I", .fieldLink RX2 17 "ExactDeskModel" "below" "[Z", .constantLong RX2 99 (1000000000000000000), .code yX2_set cX2_set 4 (some .boolean), .code yX2_isRegister cX2_isRegister 1 (some .boolean), .code yX2_get cX2_get 2 (some .long), .code yX2_add cX2_add 4 (some .int), .code yX2_sum cX2_sum 5 (some .int), .code yX2_write cX2_write 7 none, .code yX2_join cX2_join 2 none, .code yX2_plus cX2_plus 5 none, .code yX2_compareSizes cX2_compareSizes 4 (some .int), .code yX2_minus cX2_minus 5 none, .code yX2_copy cX2_copy 3 none, .code yX2_store cX2_store 5 (some .int), .code yX2_subtract cX2_subtract 4 (some .int), .code yX2_times cX2_times 4 (some .int), .code yX2_multiply cX2_multiply 5 none, .code yX2_nothing cX2_nothing 2 none, .code yX2_share cX2_share 9 (some .int), .code yX2_divide cX2_divide 4 none, .code yX2_isNothing cX2_isNothing 3 (some .boolean), .code yX2_enter cX2_enter 5 (some .int), .code yX2_isTally cX2_isTally 1 (some .boolean), .code yX2_read cX2_read 3 none, .code yX2_keep cX2_keep 4 (some .int), .code yX2_merge cX2_merge 3 (some .int), .code yX2_split cX2_split 8 (some .int), .code yX2_take cX2_take 3 (some .int), .code yX2_clear cX2_clear 3 (some .boolean), .code yX2_compare cX2_compare 4 (some .int), .code yX2_digits cX2_digits 4 (some .int), .code yX2_digit cX2_digit 3 (some .int)]
def mdT : List Cond := (mdT_1 ++ mdT_2) ++ wsX20
set_option maxRecDepth 20000 in
theorem mdT_good : mdT.all goodWord = true := by decide +kernel
set_option maxRecDepth 20000 in
theorem mdT_in : ∀ w ∈ mdT, w ∈ lw_tbl := fun w h => (goodIn_p mdT [249, 252, 256, 260, 264, 267, 272, 275, 278, 281, 284, 288, 293, 297, 301, 304, 308, 312, 315, 319, 322, 326, 330, 334, 338, 343, 347, 351, 355, 359] (by decide +kernel) (by decide +kernel) w h).1
theorem gM {a : Cond} {ws : List Cond} (h : ∀ w ∈ ws, w ∈ mdT) : GoodIn (a :: mdT) ws := fun w hw => ⟨List.mem_cons_of_mem _ (h w hw), good_of_word (List.all_eq_true.mp mdT_good w (h w hw))⟩
theorem gM_V {a : Cond} (idx : Nat) (y : MethodName) (cy : Cond) (h : ∀ w ∈ ([.methodLink RX2 idx y, .instanceMethod y, .selects RX2 y y, .initialized RX2] : List Cond), w ∈ mdT) (hc : cy ∈ mdT) : GoodIn (a :: mdT) (wsV RX2 idx RX2 y (cy :: mdT)) := gM (fun w hw => by
  unfold wsV at hw
  rcases List.mem_append.mp hw with q | q
  · exact h w q
  · rcases List.mem_cons.mp q with rfl | q
    · exact hc
    · exact q)
theorem gM_S {a : Cond} (idx : Nat) (y : MethodName) (cy : Cond) (h : ∀ w ∈ ([.methodLink RX2 idx y, .static y, .initialized y.cls] : List Cond), w ∈ mdT) (hc : cy ∈ mdT) : GoodIn (a :: mdT) (va_wsS RX2 idx y (cy :: mdT)) := gM (fun w hw => by
  unfold va_wsS at hw
  rcases List.mem_append.mp hw with q | q
  · exact h w q
  · rcases List.mem_cons.mp q with rfl | q
    · exact hc
    · exact q)
theorem gL_M {idx : Nat} {y : MethodName} {cy : Cond} (h : ∀ w ∈ ([.methodLink RL idx y, .instanceMethod y, .selects RX2 y y, .initialized RX2] : List Cond), w ∈ lw_tbl ∧ goodWord w = true) (hc : cy ∈ mdT) : GoodIn lw_tbl (wsV RL idx RX2 y (cy :: mdT)) := fun w hw => by
  unfold wsV at hw
  rcases List.mem_append.mp hw with q | q
  · exact ⟨(h w q).1, good_of_word (h w q).2⟩
  · rcases List.mem_cons.mp q with rfl | q
    · exact ⟨mdT_in _ hc, good_of_word (List.all_eq_true.mp mdT_good _ hc)⟩
    · exact ⟨mdT_in _ q, good_of_word (List.all_eq_true.mp mdT_good _ q)⟩
theorem inM {a : Cond} : ∀ w ∈ wsX20, w ∈ a :: mdT := fun _ h => List.mem_cons_of_mem _ (List.mem_append_right _ h)
theorem inT {a w : Cond} (h : w ∈ mdT) : w ∈ a :: mdT := List.mem_cons_of_mem _ h
theorem mw_0 : (.initialized RX2 : Cond) ∈ mdT := List.mem_of_getElem? (i := 0) rfl
theorem mw_1 : (.methodLink RX2 33 yX2_isRegister : Cond) ∈ mdT := List.mem_of_getElem? (i := 1) rfl
theorem mw_2 : (.static yX2_isRegister : Cond) ∈ mdT := List.mem_of_getElem? (i := 2) rfl
theorem mw_3 : (.fieldLink RX2 7 "ExactDeskModel" "registers" "[J" : Cond) ∈ mdT := List.mem_of_getElem? (i := 3) rfl
theorem mw_4 : (.methodLink RX2 75 yX2_sum : Cond) ∈ mdT := List.mem_of_getElem? (i := 4) rfl
theorem mw_5 : (.instanceMethod yX2_sum : Cond) ∈ mdT := List.mem_of_getElem? (i := 5) rfl
theorem mw_6 : (.selects RX2 yX2_sum yX2_sum : Cond) ∈ mdT := List.mem_of_getElem? (i := 6) rfl
theorem mw_7 : (.fieldLink RX2 21 "ExactDeskModel" "a" "[I" : Cond) ∈ mdT := List.mem_of_getElem? (i := 7) rfl
theorem mw_8 : (.methodLink RX2 63 yX2_write : Cond) ∈ mdT := List.mem_of_getElem? (i := 8) rfl
theorem mw_9 : (.static yX2_write : Cond) ∈ mdT := List.mem_of_getElem? (i := 9) rfl
theorem mw_10 : (.fieldLink RX2 54 "ExactDeskModel" "negative" "Z" : Cond) ∈ mdT := List.mem_of_getElem? (i := 10) rfl
theorem mw_11 : (.fieldLink RX2 27 "ExactDeskModel" "c" "[I" : Cond) ∈ mdT := List.mem_of_getElem? (i := 11) rfl
theorem mw_12 : (.methodLink RX2 67 yX2_join : Cond) ∈ mdT := List.mem_of_getElem? (i := 12) rfl
theorem mw_13 : (.instanceMethod yX2_join : Cond) ∈ mdT := List.mem_of_getElem? (i := 13) rfl
theorem mw_14 : (.selects RX2 yX2_join yX2_join : Cond) ∈ mdT := List.mem_of_getElem? (i := 14) rfl
theorem mw_15 : (.methodLink RX2 71 yX2_store : Cond) ∈ mdT := List.mem_of_getElem? (i := 15) rfl
theorem mw_16 : (.instanceMethod yX2_store : Cond) ∈ mdT := List.mem_of_getElem? (i := 16) rfl
theorem mw_17 : (.selects RX2 yX2_store yX2_store : Cond) ∈ mdT := List.mem_of_getElem? (i := 17) rfl
theorem mw_18 : (.constantLong RX2 37 (10) : Cond) ∈ mdT := List.mem_of_getElem? (i := 18) rfl
theorem mw_19 : (.methodLink RX2 58 yX2_plus : Cond) ∈ mdT := List.mem_of_getElem? (i := 19) rfl
theorem mw_20 : (.static yX2_plus : Cond) ∈ mdT := List.mem_of_getElem? (i := 20) rfl
theorem mw_21 : (.methodLink RX2 47 yX2_compareSizes : Cond) ∈ mdT := List.mem_of_getElem? (i := 21) rfl
theorem mw_22 : (.static yX2_compareSizes : Cond) ∈ mdT := List.mem_of_getElem? (i := 22) rfl
theorem mw_23 : (.methodLink RX2 51 yX2_minus : Cond) ∈ mdT := List.mem_of_getElem? (i := 23) rfl
theorem mw_24 : (.static yX2_minus : Cond) ∈ mdT := List.mem_of_getElem? (i := 24) rfl
theorem mw_25 : (.fieldLink RX2 30 "ExactDeskModel" "rest" "[I" : Cond) ∈ mdT := List.mem_of_getElem? (i := 25) rfl
theorem mw_26 : (.methodLink RX2 43 yX2_copy : Cond) ∈ mdT := List.mem_of_getElem? (i := 26) rfl
theorem mw_27 : (.static yX2_copy : Cond) ∈ mdT := List.mem_of_getElem? (i := 27) rfl
theorem mw_28 : (.constantLong RX2 61 (9223372036854775807) : Cond) ∈ mdT := List.mem_of_getElem? (i := 28) rfl
theorem mw_29 : (.fieldLink RX2 24 "ExactDeskModel" "b" "[I" : Cond) ∈ mdT := List.mem_of_getElem? (i := 29) rfl
theorem mw_30 : (.methodLink RX2 79 yX2_multiply : Cond) ∈ mdT := List.mem_of_getElem? (i := 30) rfl
theorem mw_31 : (.instanceMethod yX2_multiply : Cond) ∈ mdT := List.mem_of_getElem? (i := 31) rfl
theorem mw_32 : (.selects RX2 yX2_multiply yX2_multiply : Cond) ∈ mdT := List.mem_of_getElem? (i := 32) rfl
theorem mw_33 : (.methodLink RX2 39 yX2_nothing : Cond) ∈ mdT := List.mem_of_getElem? (i := 33) rfl
theorem mw_34 : (.static yX2_nothing : Cond) ∈ mdT := List.mem_of_getElem? (i := 34) rfl
theorem mw_35 : (.methodLink RX2 82 yX2_divide : Cond) ∈ mdT := List.mem_of_getElem? (i := 35) rfl
theorem mw_36 : (.instanceMethod yX2_divide : Cond) ∈ mdT := List.mem_of_getElem? (i := 36) rfl
theorem mw_37 : (.selects RX2 yX2_divide yX2_divide : Cond) ∈ mdT := List.mem_of_getElem? (i := 37) rfl
theorem mw_38 : (.methodLink RX2 85 yX2_isNothing : Cond) ∈ mdT := List.mem_of_getElem? (i := 38) rfl
theorem mw_39 : (.static yX2_isNothing : Cond) ∈ mdT := List.mem_of_getElem? (i := 39) rfl
theorem mw_40 : (.methodLink RX2 89 yX2_isTally : Cond) ∈ mdT := List.mem_of_getElem? (i := 40) rfl
theorem mw_41 : (.static yX2_isTally : Cond) ∈ mdT := List.mem_of_getElem? (i := 41) rfl
theorem mw_42 : (.methodLink RX2 92 yX2_read : Cond) ∈ mdT := List.mem_of_getElem? (i := 42) rfl
theorem mw_43 : (.instanceMethod yX2_read : Cond) ∈ mdT := List.mem_of_getElem? (i := 43) rfl
theorem mw_44 : (.selects RX2 yX2_read yX2_read : Cond) ∈ mdT := List.mem_of_getElem? (i := 44) rfl
theorem mw_45 : (.methodLink RX2 96 yX2_keep : Cond) ∈ mdT := List.mem_of_getElem? (i := 45) rfl
theorem mw_46 : (.instanceMethod yX2_keep : Cond) ∈ mdT := List.mem_of_getElem? (i := 46) rfl
theorem mw_47 : (.selects RX2 yX2_keep yX2_keep : Cond) ∈ mdT := List.mem_of_getElem? (i := 47) rfl
theorem mw_48 : (.fieldLink RX2 13 "ExactDeskModel" "tallies" "[I" : Cond) ∈ mdT := List.mem_of_getElem? (i := 48) rfl
theorem mw_49 : (.fieldLink RX2 17 "ExactDeskModel" "below" "[Z" : Cond) ∈ mdT := List.mem_of_getElem? (i := 49) rfl
theorem mw_50 : (.constantLong RX2 99 (1000000000000000000) : Cond) ∈ mdT := List.mem_of_getElem? (i := 50) rfl
theorem mw_51 : (.code yX2_set cX2_set 4 (some .boolean) : Cond) ∈ mdT := List.mem_of_getElem? (i := 51) rfl
theorem mw_52 : (.code yX2_isRegister cX2_isRegister 1 (some .boolean) : Cond) ∈ mdT := List.mem_of_getElem? (i := 52) rfl
theorem mw_53 : (.code yX2_get cX2_get 2 (some .long) : Cond) ∈ mdT := List.mem_of_getElem? (i := 53) rfl
theorem mw_54 : (.code yX2_add cX2_add 4 (some .int) : Cond) ∈ mdT := List.mem_of_getElem? (i := 54) rfl
theorem mw_55 : (.code yX2_sum cX2_sum 5 (some .int) : Cond) ∈ mdT := List.mem_of_getElem? (i := 55) rfl
theorem mw_56 : (.code yX2_write cX2_write 7 none : Cond) ∈ mdT := List.mem_of_getElem? (i := 56) rfl
theorem mw_57 : (.code yX2_join cX2_join 2 none : Cond) ∈ mdT := List.mem_of_getElem? (i := 57) rfl
theorem mw_58 : (.code yX2_plus cX2_plus 5 none : Cond) ∈ mdT := List.mem_of_getElem? (i := 58) rfl
theorem mw_59 : (.code yX2_compareSizes cX2_compareSizes 4 (some .int) : Cond) ∈ mdT := List.mem_of_getElem? (i := 59) rfl
theorem mw_60 : (.code yX2_minus cX2_minus 5 none : Cond) ∈ mdT := List.mem_of_getElem? (i := 60) rfl
theorem mw_61 : (.code yX2_copy cX2_copy 3 none : Cond) ∈ mdT := List.mem_of_getElem? (i := 61) rfl
theorem mw_62 : (.code yX2_store cX2_store 5 (some .int) : Cond) ∈ mdT := List.mem_of_getElem? (i := 62) rfl
theorem mw_63 : (.code yX2_subtract cX2_subtract 4 (some .int) : Cond) ∈ mdT := List.mem_of_getElem? (i := 63) rfl
theorem mw_64 : (.code yX2_times cX2_times 4 (some .int) : Cond) ∈ mdT := List.mem_of_getElem? (i := 64) rfl
theorem mw_65 : (.code yX2_multiply cX2_multiply 5 none : Cond) ∈ mdT := List.mem_of_getElem? (i := 65) rfl
theorem mw_66 : (.code yX2_nothing cX2_nothing 2 none : Cond) ∈ mdT := List.mem_of_getElem? (i := 66) rfl
theorem mw_67 : (.code yX2_share cX2_share 9 (some .int) : Cond) ∈ mdT := List.mem_of_getElem? (i := 67) rfl
theorem mw_68 : (.code yX2_divide cX2_divide 4 none : Cond) ∈ mdT := List.mem_of_getElem? (i := 68) rfl
theorem mw_69 : (.code yX2_isNothing cX2_isNothing 3 (some .boolean) : Cond) ∈ mdT := List.mem_of_getElem? (i := 69) rfl
theorem mw_70 : (.code yX2_enter cX2_enter 5 (some .int) : Cond) ∈ mdT := List.mem_of_getElem? (i := 70) rfl
theorem mw_71 : (.code yX2_isTally cX2_isTally 1 (some .boolean) : Cond) ∈ mdT := List.mem_of_getElem? (i := 71) rfl
theorem mw_72 : (.code yX2_read cX2_read 3 none : Cond) ∈ mdT := List.mem_of_getElem? (i := 72) rfl
theorem mw_73 : (.code yX2_keep cX2_keep 4 (some .int) : Cond) ∈ mdT := List.mem_of_getElem? (i := 73) rfl
theorem mw_74 : (.code yX2_merge cX2_merge 3 (some .int) : Cond) ∈ mdT := List.mem_of_getElem? (i := 74) rfl
theorem mw_75 : (.code yX2_split cX2_split 8 (some .int) : Cond) ∈ mdT := List.mem_of_getElem? (i := 75) rfl
theorem mw_76 : (.code yX2_take cX2_take 3 (some .int) : Cond) ∈ mdT := List.mem_of_getElem? (i := 76) rfl
theorem mw_77 : (.code yX2_clear cX2_clear 3 (some .boolean) : Cond) ∈ mdT := List.mem_of_getElem? (i := 77) rfl
theorem mw_78 : (.code yX2_compare cX2_compare 4 (some .int) : Cond) ∈ mdT := List.mem_of_getElem? (i := 78) rfl
theorem mw_79 : (.code yX2_digits cX2_digits 4 (some .int) : Cond) ∈ mdT := List.mem_of_getElem? (i := 79) rfl
theorem mw_80 : (.code yX2_digit cX2_digit 3 (some .int) : Cond) ∈ mdT := List.mem_of_getElem? (i := 80) rfl
