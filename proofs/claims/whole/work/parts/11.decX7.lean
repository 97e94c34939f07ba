abbrev MJ7_fill_53178 : ZM := (yJ7_fill_53178, cJ7_fill_53178, 4, (Option.none : Option FieldType), 0, 0)
theorem dJ7_fill_53178_0 : decode cJ7_fill_53178 0 = .ok (.iconst 0, 1) := by decide +kernel
theorem dJ7_fill_53178_1 : decode cJ7_fill_53178 1 = .ok (.istore_n 2, 1) := by decide +kernel
theorem dJ7_fill_53178_2 : decode cJ7_fill_53178 2 = .ok (.aload_n 0, 1) := by decide +kernel
theorem dJ7_fill_53178_3 : decode cJ7_fill_53178 3 = .ok (.arraylength, 1) := by decide +kernel
theorem dJ7_fill_53178_4 : decode cJ7_fill_53178 4 = .ok (.istore_n 3, 1) := by decide +kernel
theorem dJ7_fill_53178_5 : decode cJ7_fill_53178 5 = .ok (.iload_n 2, 1) := by decide +kernel
theorem dJ7_fill_53178_6 : decode cJ7_fill_53178 6 = .ok (.iload_n 3, 1) := by decide +kernel
theorem dJ7_fill_53178_7 : decode cJ7_fill_53178 7 = .ok (.if_icmp .ge 13, 3) := by decide +kernel
theorem dJ7_fill_53178_10 : decode cJ7_fill_53178 10 = .ok (.aload_n 0, 1) := by decide +kernel
theorem dJ7_fill_53178_11 : decode cJ7_fill_53178 11 = .ok (.iload_n 2, 1) := by decide +kernel
theorem dJ7_fill_53178_12 : decode cJ7_fill_53178 12 = .ok (.iload_n 1, 1) := by decide +kernel
theorem dJ7_fill_53178_13 : decode cJ7_fill_53178 13 = .ok (.iastore, 1) := by decide +kernel
theorem dJ7_fill_53178_14 : decode cJ7_fill_53178 14 = .ok (.iinc 2 1, 3) := by decide +kernel
theorem dJ7_fill_53178_17 : decode cJ7_fill_53178 17 = .ok (.goto (-12), 3) := by decide +kernel
theorem dJ7_fill_53178_20 : decode cJ7_fill_53178 20 = .ok (.return_, 1) := by decide +kernel
abbrev MJ7_fill_031fb : ZM := (yJ7_fill_031fb, cJ7_fill_031fb, 4, (Option.none : Option FieldType), 0, 0)
theorem dJ7_fill_031fb_0 : decode cJ7_fill_031fb 0 = .ok (.iconst 0, 1) := by decide +kernel
theorem dJ7_fill_031fb_1 : decode cJ7_fill_031fb 1 = .ok (.istore_n 2, 1) := by decide +kernel
theorem dJ7_fill_031fb_2 : decode cJ7_fill_031fb 2 = .ok (.aload_n 0, 1) := by decide +kernel
theorem dJ7_fill_031fb_3 : decode cJ7_fill_031fb 3 = .ok (.arraylength, 1) := by decide +kernel
theorem dJ7_fill_031fb_4 : decode cJ7_fill_031fb 4 = .ok (.istore_n 3, 1) := by decide +kernel
theorem dJ7_fill_031fb_5 : decode cJ7_fill_031fb 5 = .ok (.iload_n 2, 1) := by decide +kernel
theorem dJ7_fill_031fb_6 : decode cJ7_fill_031fb 6 = .ok (.iload_n 3, 1) := by decide +kernel
theorem dJ7_fill_031fb_7 : decode cJ7_fill_031fb 7 = .ok (.if_icmp .ge 13, 3) := by decide +kernel
theorem dJ7_fill_031fb_10 : decode cJ7_fill_031fb 10 = .ok (.aload_n 0, 1) := by decide +kernel
theorem dJ7_fill_031fb_11 : decode cJ7_fill_031fb 11 = .ok (.iload_n 2, 1) := by decide +kernel
theorem dJ7_fill_031fb_12 : decode cJ7_fill_031fb 12 = .ok (.iload_n 1, 1) := by decide +kernel
theorem dJ7_fill_031fb_13 : decode cJ7_fill_031fb 13 = .ok (.bastore, 1) := by decide +kernel
theorem dJ7_fill_031fb_14 : decode cJ7_fill_031fb 14 = .ok (.iinc 2 1, 3) := by decide +kernel
theorem dJ7_fill_031fb_17 : decode cJ7_fill_031fb 17 = .ok (.goto (-12), 3) := by decide +kernel
theorem dJ7_fill_031fb_20 : decode cJ7_fill_031fb 20 = .ok (.return_, 1) := by decide +kernel
abbrev MJ7_copyOf_59c91 : ZM := (yJ7_copyOf_59c91, cJ7_copyOf_59c91, 3, (Option.some (FieldType.array FieldType.int)), 1, 40)
theorem dJ7_copyOf_59c91_0 : decode cJ7_copyOf_59c91 0 = .ok (.iload_n 1, 1) := by decide +kernel
theorem dJ7_copyOf_59c91_1 : decode cJ7_copyOf_59c91 1 = .ok (.aload_n 0, 1) := by decide +kernel
theorem dJ7_copyOf_59c91_2 : decode cJ7_copyOf_59c91 2 = .ok (.arraylength, 1) := by decide +kernel
theorem dJ7_copyOf_59c91_3 : decode cJ7_copyOf_59c91 3 = .ok (.if_icmp .ne 11, 3) := by decide +kernel
theorem dJ7_copyOf_59c91_6 : decode cJ7_copyOf_59c91 6 = .ok (.aload_n 0, 1) := by decide +kernel
theorem dJ7_copyOf_59c91_7 : decode cJ7_copyOf_59c91 7 = .ok (.invokevirtual 316, 3) := by decide +kernel
theorem dJ7_copyOf_59c91_10 : decode cJ7_copyOf_59c91 10 = .ok (.checkcast 317, 3) := by decide +kernel
theorem dJ7_copyOf_59c91_13 : decode cJ7_copyOf_59c91 13 = .ok (.areturn, 1) := by decide +kernel
theorem dJ7_copyOf_59c91_14 : decode cJ7_copyOf_59c91 14 = .ok (.iload_n 1, 1) := by decide +kernel
theorem dJ7_copyOf_59c91_15 : decode cJ7_copyOf_59c91 15 = .ok (.newarray .int, 2) := by decide +kernel
theorem dJ7_copyOf_59c91_17 : decode cJ7_copyOf_59c91 17 = .ok (.astore_n 2, 1) := by decide +kernel
theorem dJ7_copyOf_59c91_18 : decode cJ7_copyOf_59c91 18 = .ok (.aload_n 0, 1) := by decide +kernel
theorem dJ7_copyOf_59c91_19 : decode cJ7_copyOf_59c91 19 = .ok (.iconst 0, 1) := by decide +kernel
theorem dJ7_copyOf_59c91_20 : decode cJ7_copyOf_59c91 20 = .ok (.aload_n 2, 1) := by decide +kernel
theorem dJ7_copyOf_59c91_21 : decode cJ7_copyOf_59c91 21 = .ok (.iconst 0, 1) := by decide +kernel
theorem dJ7_copyOf_59c91_22 : decode cJ7_copyOf_59c91 22 = .ok (.aload_n 0, 1) := by decide +kernel
theorem dJ7_copyOf_59c91_23 : decode cJ7_copyOf_59c91 23 = .ok (.arraylength, 1) := by decide +kernel
theorem dJ7_copyOf_59c91_24 : decode cJ7_copyOf_59c91 24 = .ok (.iload_n 1, 1) := by decide +kernel
theorem dJ7_copyOf_59c91_25 : decode cJ7_copyOf_59c91 25 = .ok (.invokestatic 304, 3) := by decide +kernel
theorem dJ7_copyOf_59c91_28 : decode cJ7_copyOf_59c91 28 = .ok (.invokestatic 150, 3) := by decide +kernel
theorem dJ7_copyOf_59c91_31 : decode cJ7_copyOf_59c91 31 = .ok (.aload_n 2, 1) := by decide +kernel
theorem dJ7_copyOf_59c91_32 : decode cJ7_copyOf_59c91 32 = .ok (.areturn, 1) := by decide +kernel
abbrev MJ9_floorDiv_f86c9 : ZM := (yJ9_floorDiv_f86c9, cJ9_floorDiv_f86c9, 6, (Option.some FieldType.long), 0, 0)
theorem dJ9_floorDiv_f86c9_0 : decode cJ9_floorDiv_f86c9 0 = .ok (.lload_n 0, 1) := by decide +kernel
theorem dJ9_floorDiv_f86c9_1 : decode cJ9_floorDiv_f86c9 1 = .ok (.lload_n 2, 1) := by decide +kernel
theorem dJ9_floorDiv_f86c9_2 : decode cJ9_floorDiv_f86c9 2 = .ok (.ldiv, 1) := by decide +kernel
theorem dJ9_floorDiv_f86c9_3 : decode cJ9_floorDiv_f86c9 3 = .ok (.lstore 4, 2) := by decide +kernel
theorem dJ9_floorDiv_f86c9_5 : decode cJ9_floorDiv_f86c9 5 = .ok (.lload_n 0, 1) := by decide +kernel
theorem dJ9_floorDiv_f86c9_6 : decode cJ9_floorDiv_f86c9 6 = .ok (.lload_n 2, 1) := by decide +kernel
theorem dJ9_floorDiv_f86c9_7 : decode cJ9_floorDiv_f86c9 7 = .ok (.lxor, 1) := by decide +kernel
theorem dJ9_floorDiv_f86c9_8 : decode cJ9_floorDiv_f86c9 8 = .ok (.lconst 0, 1) := by decide +kernel
theorem dJ9_floorDiv_f86c9_9 : decode cJ9_floorDiv_f86c9 9 = .ok (.lcmp, 1) := by decide +kernel
theorem dJ9_floorDiv_f86c9_10 : decode cJ9_floorDiv_f86c9 10 = .ok (.ifCond .ge 17, 3) := by decide +kernel
theorem dJ9_floorDiv_f86c9_13 : decode cJ9_floorDiv_f86c9 13 = .ok (.lload 4, 2) := by decide +kernel
theorem dJ9_floorDiv_f86c9_15 : decode cJ9_floorDiv_f86c9 15 = .ok (.lload_n 2, 1) := by decide +kernel
theorem dJ9_floorDiv_f86c9_16 : decode cJ9_floorDiv_f86c9 16 = .ok (.lmul, 1) := by decide +kernel
theorem dJ9_floorDiv_f86c9_17 : decode cJ9_floorDiv_f86c9 17 = .ok (.lload_n 0, 1) := by decide +kernel
theorem dJ9_floorDiv_f86c9_18 : decode cJ9_floorDiv_f86c9 18 = .ok (.lcmp, 1) := by decide +kernel
theorem dJ9_floorDiv_f86c9_19 : decode cJ9_floorDiv_f86c9 19 = .ok (.ifCond .eq 8, 3) := by decide +kernel
theorem dJ9_floorDiv_f86c9_22 : decode cJ9_floorDiv_f86c9 22 = .ok (.lload 4, 2) := by decide +kernel
theorem dJ9_floorDiv_f86c9_24 : decode cJ9_floorDiv_f86c9 24 = .ok (.lconst 1, 1) := by decide +kernel
theorem dJ9_floorDiv_f86c9_25 : decode cJ9_floorDiv_f86c9 25 = .ok (.lsub, 1) := by decide +kernel
theorem dJ9_floorDiv_f86c9_26 : decode cJ9_floorDiv_f86c9 26 = .ok (.lreturn, 1) := by decide +kernel
theorem dJ9_floorDiv_f86c9_27 : decode cJ9_floorDiv_f86c9 27 = .ok (.lload 4, 2) := by decide +kernel
theorem dJ9_floorDiv_f86c9_29 : decode cJ9_floorDiv_f86c9 29 = .ok (.lreturn, 1) := by decide +kernel
abbrev MJ9_floorMod_7cf53 : ZM := (yJ9_floorMod_7cf53, cJ9_floorMod_7cf53, 3, (Option.some FieldType.int), 0, 0)
theorem dJ9_floorMod_7cf53_0 : decode cJ9_floorMod_7cf53 0 = .ok (.iload_n 0, 1) := by decide +kernel
theorem dJ9_floorMod_7cf53_1 : decode cJ9_floorMod_7cf53 1 = .ok (.iload_n 1, 1) := by decide +kernel
theorem dJ9_floorMod_7cf53_2 : decode cJ9_floorMod_7cf53 2 = .ok (.irem, 1) := by decide +kernel
theorem dJ9_floorMod_7cf53_3 : decode cJ9_floorMod_7cf53 3 = .ok (.istore_n 2, 1) := by decide +kernel
theorem dJ9_floorMod_7cf53_4 : decode cJ9_floorMod_7cf53 4 = .ok (.iload_n 0, 1) := by decide +kernel
theorem dJ9_floorMod_7cf53_5 : decode cJ9_floorMod_7cf53 5 = .ok (.iload_n 1, 1) := by decide +kernel
theorem dJ9_floorMod_7cf53_6 : decode cJ9_floorMod_7cf53 6 = .ok (.ixor, 1) := by decide +kernel
theorem dJ9_floorMod_7cf53_7 : decode cJ9_floorMod_7cf53 7 = .ok (.ifCond .ge 11, 3) := by decide +kernel
theorem dJ9_floorMod_7cf53_10 : decode cJ9_floorMod_7cf53 10 = .ok (.iload_n 2, 1) := by decide +kernel
theorem dJ9_floorMod_7cf53_11 : decode cJ9_floorMod_7cf53 11 = .ok (.ifCond .eq 7, 3) := by decide +kernel
theorem dJ9_floorMod_7cf53_14 : decode cJ9_floorMod_7cf53 14 = .ok (.iload_n 2, 1) := by decide +kernel
theorem dJ9_floorMod_7cf53_15 : decode cJ9_floorMod_7cf53 15 = .ok (.iload_n 1, 1) := by decide +kernel
theorem dJ9_floorMod_7cf53_16 : decode cJ9_floorMod_7cf53 16 = .ok (.iadd, 1) := by decide +kernel
theorem dJ9_floorMod_7cf53_17 : decode cJ9_floorMod_7cf53 17 = .ok (.ireturn, 1) := by decide +kernel
theorem dJ9_floorMod_7cf53_18 : decode cJ9_floorMod_7cf53 18 = .ok (.iload_n 2, 1) := by decide +kernel
theorem dJ9_floorMod_7cf53_19 : decode cJ9_floorMod_7cf53 19 = .ok (.ireturn, 1) := by decide +kernel
abbrev MJ9_abs_0f7a4 : ZM := (yJ9_abs_0f7a4, cJ9_abs_0f7a4, 1, (Option.some FieldType.int), 0, 0)
theorem dJ9_abs_0f7a4_0 : decode cJ9_abs_0f7a4 0 = .ok (.iload_n 0, 1) := by decide +kernel
theorem dJ9_abs_0f7a4_1 : decode cJ9_abs_0f7a4 1 = .ok (.ifCond .ge 8, 3) := by decide +kernel
theorem dJ9_abs_0f7a4_4 : decode cJ9_abs_0f7a4 4 = .ok (.iload_n 0, 1) := by decide +kernel
theorem dJ9_abs_0f7a4_5 : decode cJ9_abs_0f7a4 5 = .ok (.ineg, 1) := by decide +kernel
theorem dJ9_abs_0f7a4_6 : decode cJ9_abs_0f7a4 6 = .ok (.goto 4, 3) := by decide +kernel
theorem dJ9_abs_0f7a4_9 : decode cJ9_abs_0f7a4 9 = .ok (.iload_n 0, 1) := by decide +kernel
theorem dJ9_abs_0f7a4_10 : decode cJ9_abs_0f7a4 10 = .ok (.ireturn, 1) := by decide +kernel
abbrev MJ9_abs_067f4 : ZM := (yJ9_abs_067f4, cJ9_abs_067f4, 2, (Option.some FieldType.long), 0, 0)
theorem dJ9_abs_067f4_0 : decode cJ9_abs_067f4 0 = .ok (.lload_n 0, 1) := by decide +kernel
theorem dJ9_abs_067f4_1 : decode cJ9_abs_067f4 1 = .ok (.lconst 0, 1) := by decide +kernel
theorem dJ9_abs_067f4_2 : decode cJ9_abs_067f4 2 = .ok (.lcmp, 1) := by decide +kernel
theorem dJ9_abs_067f4_3 : decode cJ9_abs_067f4 3 = .ok (.ifCond .ge 8, 3) := by decide +kernel
theorem dJ9_abs_067f4_6 : decode cJ9_abs_067f4 6 = .ok (.lload_n 0, 1) := by decide +kernel
theorem dJ9_abs_067f4_7 : decode cJ9_abs_067f4 7 = .ok (.lneg, 1) := by decide +kernel
theorem dJ9_abs_067f4_8 : decode cJ9_abs_067f4 8 = .ok (.goto 4, 3) := by decide +kernel
theorem dJ9_abs_067f4_11 : decode cJ9_abs_067f4 11 = .ok (.lload_n 0, 1) := by decide +kernel
theorem dJ9_abs_067f4_12 : decode cJ9_abs_067f4 12 = .ok (.lreturn, 1) := by decide +kernel
abbrev MJ9_max_7cf53 : ZM := (yJ9_max_7cf53, cJ9_max_7cf53, 2, (Option.some FieldType.int), 0, 0)
theorem dJ9_max_7cf53_0 : decode cJ9_max_7cf53 0 = .ok (.iload_n 0, 1) := by decide +kernel
theorem dJ9_max_7cf53_1 : decode cJ9_max_7cf53 1 = .ok (.iload_n 1, 1) := by decide +kernel
theorem dJ9_max_7cf53_2 : decode cJ9_max_7cf53 2 = .ok (.if_icmp .lt 7, 3) := by decide +kernel
theorem dJ9_max_7cf53_5 : decode cJ9_max_7cf53 5 = .ok (.iload_n 0, 1) := by decide +kernel
theorem dJ9_max_7cf53_6 : decode cJ9_max_7cf53 6 = .ok (.goto 4, 3) := by decide +kernel
theorem dJ9_max_7cf53_9 : decode cJ9_max_7cf53 9 = .ok (.iload_n 1, 1) := by decide +kernel
theorem dJ9_max_7cf53_10 : decode cJ9_max_7cf53 10 = .ok (.ireturn, 1) := by decide +kernel
abbrev MJ9_min_7cf53 : ZM := (yJ9_min_7cf53, cJ9_min_7cf53, 2, (Option.some FieldType.int), 0, 0)
theorem dJ9_min_7cf53_0 : decode cJ9_min_7cf53 0 = .ok (.iload_n 0, 1) := by decide +kernel
theorem dJ9_min_7cf53_1 : decode cJ9_min_7cf53 1 = .ok (.iload_n 1, 1) := by decide +kernel
theorem dJ9_min_7cf53_2 : decode cJ9_min_7cf53 2 = .ok (.if_icmp .gt 7, 3) := by decide +kernel
theorem dJ9_min_7cf53_5 : decode cJ9_min_7cf53 5 = .ok (.iload_n 0, 1) := by decide +kernel
theorem dJ9_min_7cf53_6 : decode cJ9_min_7cf53 6 = .ok (.goto 4, 3) := by decide +kernel
theorem dJ9_min_7cf53_9 : decode cJ9_min_7cf53 9 = .ok (.iload_n 1, 1) := by decide +kernel
theorem dJ9_min_7cf53_10 : decode cJ9_min_7cf53 10 = .ok (.ireturn, 1) := by decide +kernel
abbrev MX0_init : ZM := (yX0_init, cX0_init, 1, (Option.none : Option FieldType), 1, 40)
theorem dX0_init_0 : decode cX0_init 0 = .ok (.aload_n 0, 1) := by decide +kernel
theorem dX0_init_1 : decode cX0_init 1 = .ok (.invokespecial 3, 3) := by decide +kernel
theorem dX0_init_4 : decode cX0_init 4 = .ok (.aload_n 0, 1) := by decide +kernel
theorem dX0_init_5 : decode cX0_init 5 = .ok (.bipush 64, 2) := by decide +kernel
theorem dX0_init_7 : decode cX0_init 7 = .ok (.newarray .int, 2) := by decide +kernel
theorem dX0_init_9 : decode cX0_init 9 = .ok (.putfield 9, 3) := by decide +kernel
theorem dX0_init_12 : decode cX0_init 12 = .ok (.return_, 1) := by decide +kernel
abbrev MX0_gather : ZM := (yX0_gather, cX0_gather, 8, (Option.none : Option FieldType), 3, 86)
theorem dX0_gather_0 : decode cX0_gather 0 = .ok (.aload_n 0, 1) := by decide +kernel
theorem dX0_gather_1 : decode cX0_gather 1 = .ok (.aload_n 1, 1) := by decide +kernel
theorem dX0_gather_2 : decode cX0_gather 2 = .ok (.putfield 15, 3) := by decide +kernel
theorem dX0_gather_5 : decode cX0_gather 5 = .ok (.aload_n 0, 1) := by decide +kernel
theorem dX0_gather_6 : decode cX0_gather 6 = .ok (.iload_n 2, 1) := by decide +kernel
theorem dX0_gather_7 : decode cX0_gather 7 = .ok (.putfield 19, 3) := by decide +kernel
theorem dX0_gather_10 : decode cX0_gather 10 = .ok (.aload_n 0, 1) := by decide +kernel
theorem dX0_gather_11 : decode cX0_gather 11 = .ok (.iconst 0, 1) := by decide +kernel
theorem dX0_gather_12 : decode cX0_gather 12 = .ok (.putfield 23, 3) := by decide +kernel
theorem dX0_gather_15 : decode cX0_gather 15 = .ok (.aload_n 1, 1) := by decide +kernel
theorem dX0_gather_16 : decode cX0_gather 16 = .ok (.getfield 26, 3) := by decide +kernel
theorem dX0_gather_19 : decode cX0_gather 19 = .ok (.iconst 4, 1) := by decide +kernel
theorem dX0_gather_20 : decode cX0_gather 20 = .ok (.if_icmp .lt 4, 3) := by decide +kernel
theorem dX0_gather_23 : decode cX0_gather 23 = .ok (.return_, 1) := by decide +kernel
theorem dX0_gather_24 : decode cX0_gather 24 = .ok (.aload 4, 2) := by decide +kernel
theorem dX0_gather_26 : decode cX0_gather 26 = .ok (.aload_n 1, 1) := by decide +kernel
theorem dX0_gather_27 : decode cX0_gather 27 = .ok (.iload_n 2, 1) := by decide +kernel
theorem dX0_gather_28 : decode cX0_gather 28 = .ok (.invokevirtual 31, 3) := by decide +kernel
theorem dX0_gather_31 : decode cX0_gather 31 = .ok (.aload_n 3, 1) := by decide +kernel
theorem dX0_gather_32 : decode cX0_gather 32 = .ok (.aload_n 1, 1) := by decide +kernel
theorem dX0_gather_33 : decode cX0_gather 33 = .ok (.invokevirtual 37, 3) := by decide +kernel
theorem dX0_gather_36 : decode cX0_gather 36 = .ok (.aload_n 3, 1) := by decide +kernel
theorem dX0_gather_37 : decode cX0_gather 37 = .ok (.aload_n 1, 1) := by decide +kernel
theorem dX0_gather_38 : decode cX0_gather 38 = .ok (.getfield 26, 3) := by decide +kernel
theorem dX0_gather_41 : decode cX0_gather 41 = .ok (.iconst 1, 1) := by decide +kernel
theorem dX0_gather_42 : decode cX0_gather 42 = .ok (.iadd, 1) := by decide +kernel
theorem dX0_gather_43 : decode cX0_gather 43 = .ok (.putfield 43, 3) := by decide +kernel
theorem dX0_gather_46 : decode cX0_gather 46 = .ok (.aload_n 3, 1) := by decide +kernel
theorem dX0_gather_47 : decode cX0_gather 47 = .ok (.aload_n 1, 1) := by decide +kernel
theorem dX0_gather_48 : decode cX0_gather 48 = .ok (.getfield 26, 3) := by decide +kernel
theorem dX0_gather_51 : decode cX0_gather 51 = .ok (.aload_n 1, 1) := by decide +kernel
theorem dX0_gather_52 : decode cX0_gather 52 = .ok (.getfield 26, 3) := by decide +kernel
theorem dX0_gather_55 : decode cX0_gather 55 = .ok (.iload_n 2, 1) := by decide +kernel
theorem dX0_gather_56 : decode cX0_gather 56 = .ok (.invokevirtual 44, 3) := by decide +kernel
theorem dX0_gather_59 : decode cX0_gather 59 = .ok (.iconst 0, 1) := by decide +kernel
theorem dX0_gather_60 : decode cX0_gather 60 = .ok (.istore 5, 2) := by decide +kernel
theorem dX0_gather_62 : decode cX0_gather 62 = .ok (.iload 5, 2) := by decide +kernel
theorem dX0_gather_64 : decode cX0_gather 64 = .ok (.ldc 48, 2) := by decide +kernel
theorem dX0_gather_66 : decode cX0_gather 66 = .ok (.if_icmp .ge 92, 3) := by decide +kernel
theorem dX0_gather_69 : decode cX0_gather 69 = .ok (.aload 4, 2) := by decide +kernel
theorem dX0_gather_71 : decode cX0_gather 71 = .ok (.invokevirtual 49, 3) := by decide +kernel
theorem dX0_gather_74 : decode cX0_gather 74 = .ok (.ifCond .eq 84, 3) := by decide +kernel
theorem dX0_gather_77 : decode cX0_gather 77 = .ok (.iconst 0, 1) := by decide +kernel
theorem dX0_gather_78 : decode cX0_gather 78 = .ok (.istore 6, 2) := by decide +kernel
theorem dX0_gather_80 : decode cX0_gather 80 = .ok (.iconst 0, 1) := by decide +kernel
theorem dX0_gather_81 : decode cX0_gather 81 = .ok (.istore 7, 2) := by decide +kernel
theorem dX0_gather_83 : decode cX0_gather 83 = .ok (.iload 7, 2) := by decide +kernel
theorem dX0_gather_85 : decode cX0_gather 85 = .ok (.aload_n 1, 1) := by decide +kernel
theorem dX0_gather_86 : decode cX0_gather 86 = .ok (.getfield 26, 3) := by decide +kernel
theorem dX0_gather_89 : decode cX0_gather 89 = .ok (.if_icmp .ge 50, 3) := by decide +kernel
theorem dX0_gather_92 : decode cX0_gather 92 = .ok (.aload_n 3, 1) := by decide +kernel
theorem dX0_gather_93 : decode cX0_gather 93 = .ok (.aload_n 1, 1) := by decide +kernel
theorem dX0_gather_94 : decode cX0_gather 94 = .ok (.getfield 26, 3) := by decide +kernel
theorem dX0_gather_97 : decode cX0_gather 97 = .ok (.iload 7, 2) := by decide +kernel
theorem dX0_gather_99 : decode cX0_gather 99 = .ok (.aload 4, 2) := by decide +kernel
theorem dX0_gather_101 : decode cX0_gather 101 = .ok (.getfield 53, 3) := by decide +kernel
theorem dX0_gather_104 : decode cX0_gather 104 = .ok (.iload 7, 2) := by decide +kernel
theorem dX0_gather_106 : decode cX0_gather 106 = .ok (.iaload, 1) := by decide +kernel
theorem dX0_gather_107 : decode cX0_gather 107 = .ok (.invokevirtual 44, 3) := by decide +kernel
theorem dX0_gather_110 : decode cX0_gather 110 = .ok (.iload 6, 2) := by decide +kernel
theorem dX0_gather_112 : decode cX0_gather 112 = .ok (.aload 4, 2) := by decide +kernel
theorem dX0_gather_114 : decode cX0_gather 114 = .ok (.getfield 53, 3) := by decide +kernel
theorem dX0_gather_117 : decode cX0_gather 117 = .ok (.iload 7, 2) := by decide +kernel
theorem dX0_gather_119 : decode cX0_gather 119 = .ok (.iaload, 1) := by decide +kernel
theorem dX0_gather_120 : decode cX0_gather 120 = .ok (.sipush 255, 3) := by decide +kernel
theorem dX0_gather_123 : decode cX0_gather 123 = .ok (.iand, 1) := by decide +kernel
theorem dX0_gather_124 : decode cX0_gather 124 = .ok (.bipush 8, 2) := by decide +kernel
theorem dX0_gather_126 : decode cX0_gather 126 = .ok (.iload 7, 2) := by decide +kernel
theorem dX0_gather_128 : decode cX0_gather 128 = .ok (.imul, 1) := by decide +kernel
theorem dX0_gather_129 : decode cX0_gather 129 = .ok (.ishl, 1) := by decide +kernel
theorem dX0_gather_130 : decode cX0_gather 130 = .ok (.ior, 1) := by decide +kernel
theorem dX0_gather_131 : decode cX0_gather 131 = .ok (.istore 6, 2) := by decide +kernel
theorem dX0_gather_133 : decode cX0_gather 133 = .ok (.iinc 7 1, 3) := by decide +kernel
theorem dX0_gather_136 : decode cX0_gather 136 = .ok (.goto (-53), 3) := by decide +kernel
theorem dX0_gather_139 : decode cX0_gather 139 = .ok (.aload_n 3, 1) := by decide +kernel
theorem dX0_gather_140 : decode cX0_gather 140 = .ok (.invokevirtual 56, 3) := by decide +kernel
theorem dX0_gather_143 : decode cX0_gather 143 = .ok (.ifCond .eq 9, 3) := by decide +kernel
theorem dX0_gather_146 : decode cX0_gather 146 = .ok (.aload_n 0, 1) := by decide +kernel
theorem dX0_gather_147 : decode cX0_gather 147 = .ok (.iload 6, 2) := by decide +kernel
theorem dX0_gather_149 : decode cX0_gather 149 = .ok (.invokevirtual 59, 3) := by decide +kernel
theorem dX0_gather_152 : decode cX0_gather 152 = .ok (.iinc 5 1, 3) := by decide +kernel
theorem dX0_gather_155 : decode cX0_gather 155 = .ok (.goto (-93), 3) := by decide +kernel
theorem dX0_gather_158 : decode cX0_gather 158 = .ok (.return_, 1) := by decide +kernel
abbrev MX0_add : ZM := (yX0_add, cX0_add, 2, (Option.none : Option FieldType), 2, 62)
theorem dX0_add_0 : decode cX0_add 0 = .ok (.aload_n 0, 1) := by decide +kernel
theorem dX0_add_1 : decode cX0_add 1 = .ok (.getfield 23, 3) := by decide +kernel
theorem dX0_add_4 : decode cX0_add 4 = .ok (.aload_n 0, 1) := by decide +kernel
theorem dX0_add_5 : decode cX0_add 5 = .ok (.getfield 9, 3) := by decide +kernel
theorem dX0_add_8 : decode cX0_add 8 = .ok (.arraylength, 1) := by decide +kernel
theorem dX0_add_9 : decode cX0_add 9 = .ok (.if_icmp .lt 20, 3) := by decide +kernel
theorem dX0_add_12 : decode cX0_add 12 = .ok (.aload_n 0, 1) := by decide +kernel
theorem dX0_add_13 : decode cX0_add 13 = .ok (.aload_n 0, 1) := by decide +kernel
theorem dX0_add_14 : decode cX0_add 14 = .ok (.getfield 9, 3) := by decide +kernel
theorem dX0_add_17 : decode cX0_add 17 = .ok (.iconst 2, 1) := by decide +kernel
theorem dX0_add_18 : decode cX0_add 18 = .ok (.aload_n 0, 1) := by decide +kernel
theorem dX0_add_19 : decode cX0_add 19 = .ok (.getfield 23, 3) := by decide +kernel
theorem dX0_add_22 : decode cX0_add 22 = .ok (.imul, 1) := by decide +kernel
theorem dX0_add_23 : decode cX0_add 23 = .ok (.invokestatic 63, 3) := by decide +kernel
theorem dX0_add_26 : decode cX0_add 26 = .ok (.putfield 9, 3) := by decide +kernel
theorem dX0_add_29 : decode cX0_add 29 = .ok (.aload_n 0, 1) := by decide +kernel
theorem dX0_add_30 : decode cX0_add 30 = .ok (.getfield 9, 3) := by decide +kernel
theorem dX0_add_33 : decode cX0_add 33 = .ok (.aload_n 0, 1) := by decide +kernel
theorem dX0_add_34 : decode cX0_add 34 = .ok (.getfield 23, 3) := by decide +kernel
theorem dX0_add_37 : decode cX0_add 37 = .ok (.iload_n 1, 1) := by decide +kernel
theorem dX0_add_38 : decode cX0_add 38 = .ok (.iastore, 1) := by decide +kernel
theorem dX0_add_39 : decode cX0_add 39 = .ok (.aload_n 0, 1) := by decide +kernel
theorem dX0_add_40 : decode cX0_add 40 = .ok (.dup, 1) := by decide +kernel
theorem dX0_add_41 : decode cX0_add 41 = .ok (.getfield 23, 3) := by decide +kernel
theorem dX0_add_44 : decode cX0_add 44 = .ok (.iconst 1, 1) := by decide +kernel
theorem dX0_add_45 : decode cX0_add 45 = .ok (.iadd, 1) := by decide +kernel
theorem dX0_add_46 : decode cX0_add 46 = .ok (.putfield 23, 3) := by decide +kernel
theorem dX0_add_49 : decode cX0_add 49 = .ok (.return_, 1) := by decide +kernel
abbrev MX0_shape : ZM := (yX0_shape, cX0_shape, 5, (Option.some FieldType.boolean), 2, 61)
theorem dX0_shape_0 : decode cX0_shape 0 = .ok (.aload_n 0, 1) := by decide +kernel
theorem dX0_shape_1 : decode cX0_shape 1 = .ok (.getfield 15, 3) := by decide +kernel
theorem dX0_shape_4 : decode cX0_shape 4 = .ok (.ifnull 15, 3) := by decide +kernel
theorem dX0_shape_7 : decode cX0_shape 7 = .ok (.iload_n 1, 1) := by decide +kernel
theorem dX0_shape_8 : decode cX0_shape 8 = .ok (.ifCond .lt 11, 3) := by decide +kernel
theorem dX0_shape_11 : decode cX0_shape 11 = .ok (.iload_n 1, 1) := by decide +kernel
theorem dX0_shape_12 : decode cX0_shape 12 = .ok (.aload_n 0, 1) := by decide +kernel
theorem dX0_shape_13 : decode cX0_shape 13 = .ok (.getfield 23, 3) := by decide +kernel
theorem dX0_shape_16 : decode cX0_shape 16 = .ok (.if_icmp .lt 5, 3) := by decide +kernel
theorem dX0_shape_19 : decode cX0_shape 19 = .ok (.iconst 0, 1) := by decide +kernel
theorem dX0_shape_20 : decode cX0_shape 20 = .ok (.ireturn, 1) := by decide +kernel
theorem dX0_shape_21 : decode cX0_shape 21 = .ok (.aload_n 0, 1) := by decide +kernel
theorem dX0_shape_22 : decode cX0_shape 22 = .ok (.getfield 15, 3) := by decide +kernel
theorem dX0_shape_25 : decode cX0_shape 25 = .ok (.getfield 26, 3) := by decide +kernel
theorem dX0_shape_28 : decode cX0_shape 28 = .ok (.istore_n 3, 1) := by decide +kernel
theorem dX0_shape_29 : decode cX0_shape 29 = .ok (.aload_n 2, 1) := by decide +kernel
theorem dX0_shape_30 : decode cX0_shape 30 = .ok (.aload_n 0, 1) := by decide +kernel
theorem dX0_shape_31 : decode cX0_shape 31 = .ok (.getfield 15, 3) := by decide +kernel
theorem dX0_shape_34 : decode cX0_shape 34 = .ok (.invokevirtual 37, 3) := by decide +kernel
theorem dX0_shape_37 : decode cX0_shape 37 = .ok (.aload_n 2, 1) := by decide +kernel
theorem dX0_shape_38 : decode cX0_shape 38 = .ok (.iload_n 3, 1) := by decide +kernel
theorem dX0_shape_39 : decode cX0_shape 39 = .ok (.iconst 1, 1) := by decide +kernel
theorem dX0_shape_40 : decode cX0_shape 40 = .ok (.iadd, 1) := by decide +kernel
theorem dX0_shape_41 : decode cX0_shape 41 = .ok (.putfield 43, 3) := by decide +kernel
theorem dX0_shape_44 : decode cX0_shape 44 = .ok (.iconst 0, 1) := by decide +kernel
theorem dX0_shape_45 : decode cX0_shape 45 = .ok (.istore 4, 2) := by decide +kernel
theorem dX0_shape_47 : decode cX0_shape 47 = .ok (.iload 4, 2) := by decide +kernel
theorem dX0_shape_49 : decode cX0_shape 49 = .ok (.iload_n 3, 1) := by decide +kernel
theorem dX0_shape_50 : decode cX0_shape 50 = .ok (.if_icmp .ge 29, 3) := by decide +kernel
theorem dX0_shape_53 : decode cX0_shape 53 = .ok (.aload_n 2, 1) := by decide +kernel
theorem dX0_shape_54 : decode cX0_shape 54 = .ok (.iload_n 3, 1) := by decide +kernel
theorem dX0_shape_55 : decode cX0_shape 55 = .ok (.iload 4, 2) := by decide +kernel
theorem dX0_shape_57 : decode cX0_shape 57 = .ok (.aload_n 0, 1) := by decide +kernel
theorem dX0_shape_58 : decode cX0_shape 58 = .ok (.getfield 9, 3) := by decide +kernel
theorem dX0_shape_61 : decode cX0_shape 61 = .ok (.iload_n 1, 1) := by decide +kernel
theorem dX0_shape_62 : decode cX0_shape 62 = .ok (.iaload, 1) := by decide +kernel
theorem dX0_shape_63 : decode cX0_shape 63 = .ok (.bipush 8, 2) := by decide +kernel
theorem dX0_shape_65 : decode cX0_shape 65 = .ok (.iload 4, 2) := by decide +kernel
theorem dX0_shape_67 : decode cX0_shape 67 = .ok (.imul, 1) := by decide +kernel
theorem dX0_shape_68 : decode cX0_shape 68 = .ok (.ishr, 1) := by decide +kernel
theorem dX0_shape_69 : decode cX0_shape 69 = .ok (.i2b, 1) := by decide +kernel
theorem dX0_shape_70 : decode cX0_shape 70 = .ok (.invokevirtual 44, 3) := by decide +kernel
theorem dX0_shape_73 : decode cX0_shape 73 = .ok (.iinc 4 1, 3) := by decide +kernel
theorem dX0_shape_76 : decode cX0_shape 76 = .ok (.goto (-29), 3) := by decide +kernel
theorem dX0_shape_79 : decode cX0_shape 79 = .ok (.aload_n 2, 1) := by decide +kernel
theorem dX0_shape_80 : decode cX0_shape 80 = .ok (.iload_n 3, 1) := by decide +kernel
theorem dX0_shape_81 : decode cX0_shape 81 = .ok (.iload_n 3, 1) := by decide +kernel
theorem dX0_shape_82 : decode cX0_shape 82 = .ok (.aload_n 0, 1) := by decide +kernel
theorem dX0_shape_83 : decode cX0_shape 83 = .ok (.getfield 19, 3) := by decide +kernel
theorem dX0_shape_86 : decode cX0_shape 86 = .ok (.invokevirtual 44, 3) := by decide +kernel
theorem dX0_shape_89 : decode cX0_shape 89 = .ok (.iconst 1, 1) := by decide +kernel
theorem dX0_shape_90 : decode cX0_shape 90 = .ok (.ireturn, 1) := by decide +kernel
abbrev MX1_init : ZM := (yX1_init, cX1_init, 1, (Option.none : Option FieldType), 1, 40)
theorem dX1_init_0 : decode cX1_init 0 = .ok (.aload_n 0, 1) := by decide +kernel
theorem dX1_init_1 : decode cX1_init 1 = .ok (.invokespecial 3, 3) := by decide +kernel
theorem dX1_init_4 : decode cX1_init 4 = .ok (.aload_n 0, 1) := by decide +kernel
theorem dX1_init_5 : decode cX1_init 5 = .ok (.bipush 16, 2) := by decide +kernel
theorem dX1_init_7 : decode cX1_init 7 = .ok (.newarray .int, 2) := by decide +kernel
theorem dX1_init_9 : decode cX1_init 9 = .ok (.putfield 9, 3) := by decide +kernel
theorem dX1_init_12 : decode cX1_init 12 = .ok (.aload_n 0, 1) := by decide +kernel
theorem dX1_init_13 : decode cX1_init 13 = .ok (.bipush 16, 2) := by decide +kernel
theorem dX1_init_15 : decode cX1_init 15 = .ok (.newarray .long, 2) := by decide +kernel
theorem dX1_init_17 : decode cX1_init 17 = .ok (.putfield 15, 3) := by decide +kernel
theorem dX1_init_20 : decode cX1_init 20 = .ok (.aload_n 0, 1) := by decide +kernel
theorem dX1_init_21 : decode cX1_init 21 = .ok (.iconst 4, 1) := by decide +kernel
theorem dX1_init_22 : decode cX1_init 22 = .ok (.newarray .int, 2) := by decide +kernel
theorem dX1_init_24 : decode cX1_init 24 = .ok (.putfield 19, 3) := by decide +kernel
theorem dX1_init_27 : decode cX1_init 27 = .ok (.return_, 1) := by decide +kernel
abbrev MX1_begin : ZM := (yX1_begin, cX1_begin, 2, (Option.none : Option FieldType), 1, 23)
theorem dX1_begin_0 : decode cX1_begin 0 = .ok (.aload_n 0, 1) := by decide +kernel
theorem dX1_begin_1 : decode cX1_begin 1 = .ok (.iload_n 1, 1) := by decide +kernel
theorem dX1_begin_2 : decode cX1_begin 2 = .ok (.putfield 22, 3) := by decide +kernel
theorem dX1_begin_5 : decode cX1_begin 5 = .ok (.aload_n 0, 1) := by decide +kernel
theorem dX1_begin_6 : decode cX1_begin 6 = .ok (.getfield 9, 3) := by decide +kernel
theorem dX1_begin_9 : decode cX1_begin 9 = .ok (.iconst 0, 1) := by decide +kernel
theorem dX1_begin_10 : decode cX1_begin 10 = .ok (.invokestatic 26, 3) := by decide +kernel
theorem dX1_begin_13 : decode cX1_begin 13 = .ok (.return_, 1) := by decide +kernel
abbrev MX1_load : ZM := (yX1_load, cX1_load, 2, (Option.none : Option FieldType), 1, 40)
theorem dX1_load_0 : decode cX1_load 0 = .ok (.aload_n 0, 1) := by decide +kernel
theorem dX1_load_1 : decode cX1_load 1 = .ok (.aload_n 1, 1) := by decide +kernel
theorem dX1_load_2 : decode cX1_load 2 = .ok (.getfield 32, 3) := by decide +kernel
theorem dX1_load_5 : decode cX1_load 5 = .ok (.putfield 22, 3) := by decide +kernel
theorem dX1_load_8 : decode cX1_load 8 = .ok (.aload_n 1, 1) := by decide +kernel
theorem dX1_load_9 : decode cX1_load 9 = .ok (.getfield 35, 3) := by decide +kernel
theorem dX1_load_12 : decode cX1_load 12 = .ok (.iconst 0, 1) := by decide +kernel
theorem dX1_load_13 : decode cX1_load 13 = .ok (.aload_n 0, 1) := by decide +kernel
theorem dX1_load_14 : decode cX1_load 14 = .ok (.getfield 9, 3) := by decide +kernel
theorem dX1_load_17 : decode cX1_load 17 = .ok (.iconst 0, 1) := by decide +kernel
theorem dX1_load_18 : decode cX1_load 18 = .ok (.aload_n 0, 1) := by decide +kernel
theorem dX1_load_19 : decode cX1_load 19 = .ok (.getfield 9, 3) := by decide +kernel
theorem dX1_load_22 : decode cX1_load 22 = .ok (.arraylength, 1) := by decide +kernel
theorem dX1_load_23 : decode cX1_load 23 = .ok (.invokestatic 36, 3) := by decide +kernel
theorem dX1_load_26 : decode cX1_load 26 = .ok (.return_, 1) := by decide +kernel
abbrev MX1_get : ZM := (yX1_get, cX1_get, 3, (Option.some FieldType.int), 0, 0)
theorem dX1_get_0 : decode cX1_get 0 = .ok (.aload_n 0, 1) := by decide +kernel
theorem dX1_get_1 : decode cX1_get 1 = .ok (.getfield 9, 3) := by decide +kernel
theorem dX1_get_4 : decode cX1_get 4 = .ok (.iconst 4, 1) := by decide +kernel
theorem dX1_get_5 : decode cX1_get 5 = .ok (.iload_n 1, 1) := by decide +kernel
theorem dX1_get_6 : decode cX1_get 6 = .ok (.imul, 1) := by decide +kernel
theorem dX1_get_7 : decode cX1_get 7 = .ok (.iload_n 2, 1) := by decide +kernel
theorem dX1_get_8 : decode cX1_get 8 = .ok (.iadd, 1) := by decide +kernel
theorem dX1_get_9 : decode cX1_get 9 = .ok (.iaload, 1) := by decide +kernel
theorem dX1_get_10 : decode cX1_get 10 = .ok (.ireturn, 1) := by decide +kernel
abbrev MX1_set : ZM := (yX1_set, cX1_set, 4, (Option.none : Option FieldType), 0, 0)
theorem dX1_set_0 : decode cX1_set 0 = .ok (.aload_n 0, 1) := by decide +kernel
theorem dX1_set_1 : decode cX1_set 1 = .ok (.getfield 9, 3) := by decide +kernel
theorem dX1_set_4 : decode cX1_set 4 = .ok (.iconst 4, 1) := by decide +kernel
theorem dX1_set_5 : decode cX1_set 5 = .ok (.iload_n 1, 1) := by decide +kernel
theorem dX1_set_6 : decode cX1_set 6 = .ok (.imul, 1) := by decide +kernel
theorem dX1_set_7 : decode cX1_set 7 = .ok (.iload_n 2, 1) := by decide +kernel
theorem dX1_set_8 : decode cX1_set 8 = .ok (.iadd, 1) := by decide +kernel
theorem dX1_set_9 : decode cX1_set 9 = .ok (.iload_n 3, 1) := by decide +kernel
theorem dX1_set_10 : decode cX1_set 10 = .ok (.iastore, 1) := by decide +kernel
theorem dX1_set_11 : decode cX1_set 11 = .ok (.aload_n 0, 1) := by decide +kernel
theorem dX1_set_12 : decode cX1_set 12 = .ok (.getfield 9, 3) := by decide +kernel
theorem dX1_set_15 : decode cX1_set 15 = .ok (.iconst 4, 1) := by decide +kernel
theorem dX1_set_16 : decode cX1_set 16 = .ok (.iload_n 2, 1) := by decide +kernel
theorem dX1_set_17 : decode cX1_set 17 = .ok (.imul, 1) := by decide +kernel
theorem dX1_set_18 : decode cX1_set 18 = .ok (.iload_n 1, 1) := by decide +kernel
theorem dX1_set_19 : decode cX1_set 19 = .ok (.iadd, 1) := by decide +kernel
theorem dX1_set_20 : decode cX1_set 20 = .ok (.iload_n 3, 1) := by decide +kernel
theorem dX1_set_21 : decode cX1_set 21 = .ok (.iastore, 1) := by decide +kernel
theorem dX1_set_22 : decode cX1_set 22 = .ok (.return_, 1) := by decide +kernel
abbrev MX1_paste : ZM := (yX1_paste, cX1_paste, 5, (Option.none : Option FieldType), 1, 23)
theorem dX1_paste_0 : decode cX1_paste 0 = .ok (.iconst 0, 1) := by decide +kernel
theorem dX1_paste_1 : decode cX1_paste 1 = .ok (.istore_n 3, 1) := by decide +kernel
theorem dX1_paste_2 : decode cX1_paste 2 = .ok (.iload_n 3, 1) := by decide +kernel
theorem dX1_paste_3 : decode cX1_paste 3 = .ok (.aload_n 1, 1) := by decide +kernel
theorem dX1_paste_4 : decode cX1_paste 4 = .ok (.getfield 32, 3) := by decide +kernel
theorem dX1_paste_7 : decode cX1_paste 7 = .ok (.if_icmp .ge 53, 3) := by decide +kernel
theorem dX1_paste_10 : decode cX1_paste 10 = .ok (.iload_n 2, 1) := by decide +kernel
theorem dX1_paste_11 : decode cX1_paste 11 = .ok (.iload_n 3, 1) := by decide +kernel
theorem dX1_paste_12 : decode cX1_paste 12 = .ok (.iadd, 1) := by decide +kernel
theorem dX1_paste_13 : decode cX1_paste 13 = .ok (.iconst 4, 1) := by decide +kernel
theorem dX1_paste_14 : decode cX1_paste 14 = .ok (.if_icmp .ge 46, 3) := by decide +kernel
theorem dX1_paste_17 : decode cX1_paste 17 = .ok (.iconst 0, 1) := by decide +kernel
theorem dX1_paste_18 : decode cX1_paste 18 = .ok (.istore 4, 2) := by decide +kernel
theorem dX1_paste_20 : decode cX1_paste 20 = .ok (.iload 4, 2) := by decide +kernel
theorem dX1_paste_22 : decode cX1_paste 22 = .ok (.iload_n 3, 1) := by decide +kernel
theorem dX1_paste_23 : decode cX1_paste 23 = .ok (.if_icmp .gt 31, 3) := by decide +kernel
theorem dX1_paste_26 : decode cX1_paste 26 = .ok (.aload_n 0, 1) := by decide +kernel
theorem dX1_paste_27 : decode cX1_paste 27 = .ok (.iload_n 2, 1) := by decide +kernel
theorem dX1_paste_28 : decode cX1_paste 28 = .ok (.iload_n 3, 1) := by decide +kernel
theorem dX1_paste_29 : decode cX1_paste 29 = .ok (.iadd, 1) := by decide +kernel
theorem dX1_paste_30 : decode cX1_paste 30 = .ok (.iload_n 2, 1) := by decide +kernel
theorem dX1_paste_31 : decode cX1_paste 31 = .ok (.iload 4, 2) := by decide +kernel
theorem dX1_paste_33 : decode cX1_paste 33 = .ok (.iadd, 1) := by decide +kernel
theorem dX1_paste_34 : decode cX1_paste 34 = .ok (.aload_n 1, 1) := by decide +kernel
theorem dX1_paste_35 : decode cX1_paste 35 = .ok (.getfield 35, 3) := by decide +kernel
theorem dX1_paste_38 : decode cX1_paste 38 = .ok (.iconst 4, 1) := by decide +kernel
theorem dX1_paste_39 : decode cX1_paste 39 = .ok (.iload_n 3, 1) := by decide +kernel
theorem dX1_paste_40 : decode cX1_paste 40 = .ok (.imul, 1) := by decide +kernel
theorem dX1_paste_41 : decode cX1_paste 41 = .ok (.iload 4, 2) := by decide +kernel
theorem dX1_paste_43 : decode cX1_paste 43 = .ok (.iadd, 1) := by decide +kernel
theorem dX1_paste_44 : decode cX1_paste 44 = .ok (.iaload, 1) := by decide +kernel
theorem dX1_paste_45 : decode cX1_paste 45 = .ok (.invokevirtual 42, 3) := by decide +kernel
theorem dX1_paste_48 : decode cX1_paste 48 = .ok (.iinc 4 1, 3) := by decide +kernel
theorem dX1_paste_51 : decode cX1_paste 51 = .ok (.goto (-31), 3) := by decide +kernel
theorem dX1_paste_54 : decode cX1_paste 54 = .ok (.iinc 3 1, 3) := by decide +kernel
theorem dX1_paste_57 : decode cX1_paste 57 = .ok (.goto (-55), 3) := by decide +kernel
theorem dX1_paste_60 : decode cX1_paste 60 = .ok (.return_, 1) := by decide +kernel
abbrev MX1_multiply : ZM := (yX1_multiply, cX1_multiply, 3, (Option.none : Option FieldType), 0, 0)
theorem dX1_multiply_0 : decode cX1_multiply 0 = .ok (.iconst 0, 1) := by decide +kernel
theorem dX1_multiply_1 : decode cX1_multiply 1 = .ok (.istore_n 2, 1) := by decide +kernel
theorem dX1_multiply_2 : decode cX1_multiply 2 = .ok (.iload_n 2, 1) := by decide +kernel
theorem dX1_multiply_3 : decode cX1_multiply 3 = .ok (.aload_n 0, 1) := by decide +kernel
theorem dX1_multiply_4 : decode cX1_multiply 4 = .ok (.getfield 9, 3) := by decide +kernel
theorem dX1_multiply_7 : decode cX1_multiply 7 = .ok (.arraylength, 1) := by decide +kernel
theorem dX1_multiply_8 : decode cX1_multiply 8 = .ok (.if_icmp .ge 19, 3) := by decide +kernel
theorem dX1_multiply_11 : decode cX1_multiply 11 = .ok (.aload_n 0, 1) := by decide +kernel
theorem dX1_multiply_12 : decode cX1_multiply 12 = .ok (.getfield 9, 3) := by decide +kernel
theorem dX1_multiply_15 : decode cX1_multiply 15 = .ok (.iload_n 2, 1) := by decide +kernel
theorem dX1_multiply_16 : decode cX1_multiply 16 = .ok (.dup2, 1) := by decide +kernel
theorem dX1_multiply_17 : decode cX1_multiply 17 = .ok (.iaload, 1) := by decide +kernel
theorem dX1_multiply_18 : decode cX1_multiply 18 = .ok (.iload_n 1, 1) := by decide +kernel
theorem dX1_multiply_19 : decode cX1_multiply 19 = .ok (.imul, 1) := by decide +kernel
theorem dX1_multiply_20 : decode cX1_multiply 20 = .ok (.iastore, 1) := by decide +kernel
theorem dX1_multiply_21 : decode cX1_multiply 21 = .ok (.iinc 2 1, 3) := by decide +kernel
theorem dX1_multiply_24 : decode cX1_multiply 24 = .ok (.goto (-22), 3) := by decide +kernel
theorem dX1_multiply_27 : decode cX1_multiply 27 = .ok (.return_, 1) := by decide +kernel
abbrev MX1_exchange : ZM := (yX1_exchange, cX1_exchange, 8, (Option.none : Option FieldType), 1, 23)
theorem dX1_exchange_0 : decode cX1_exchange 0 = .ok (.iconst 0, 1) := by decide +kernel
theorem dX1_exchange_1 : decode cX1_exchange 1 = .ok (.istore 4, 2) := by decide +kernel
theorem dX1_exchange_3 : decode cX1_exchange 3 = .ok (.iload 4, 2) := by decide +kernel
theorem dX1_exchange_5 : decode cX1_exchange 5 = .ok (.aload_n 0, 1) := by decide +kernel
theorem dX1_exchange_6 : decode cX1_exchange 6 = .ok (.getfield 22, 3) := by decide +kernel
theorem dX1_exchange_9 : decode cX1_exchange 9 = .ok (.if_icmp .ge 93, 3) := by decide +kernel
theorem dX1_exchange_12 : decode cX1_exchange 12 = .ok (.iload 4, 2) := by decide +kernel
theorem dX1_exchange_14 : decode cX1_exchange 14 = .ok (.iload_n 2, 1) := by decide +kernel
theorem dX1_exchange_15 : decode cX1_exchange 15 = .ok (.if_icmp .ne 7, 3) := by decide +kernel
theorem dX1_exchange_18 : decode cX1_exchange 18 = .ok (.iload_n 3, 1) := by decide +kernel
theorem dX1_exchange_19 : decode cX1_exchange 19 = .ok (.goto 15, 3) := by decide +kernel
theorem dX1_exchange_22 : decode cX1_exchange 22 = .ok (.iload 4, 2) := by decide +kernel
theorem dX1_exchange_24 : decode cX1_exchange 24 = .ok (.iload_n 3, 1) := by decide +kernel
theorem dX1_exchange_25 : decode cX1_exchange 25 = .ok (.if_icmp .ne 7, 3) := by decide +kernel
theorem dX1_exchange_28 : decode cX1_exchange 28 = .ok (.iload_n 2, 1) := by decide +kernel
theorem dX1_exchange_29 : decode cX1_exchange 29 = .ok (.goto 5, 3) := by decide +kernel
theorem dX1_exchange_32 : decode cX1_exchange 32 = .ok (.iload 4, 2) := by decide +kernel
theorem dX1_exchange_34 : decode cX1_exchange 34 = .ok (.istore 5, 2) := by decide +kernel
theorem dX1_exchange_36 : decode cX1_exchange 36 = .ok (.iconst 0, 1) := by decide +kernel
theorem dX1_exchange_37 : decode cX1_exchange 37 = .ok (.istore 6, 2) := by decide +kernel
theorem dX1_exchange_39 : decode cX1_exchange 39 = .ok (.iload 6, 2) := by decide +kernel
theorem dX1_exchange_41 : decode cX1_exchange 41 = .ok (.iload 4, 2) := by decide +kernel
theorem dX1_exchange_43 : decode cX1_exchange 43 = .ok (.if_icmp .gt 53, 3) := by decide +kernel
theorem dX1_exchange_46 : decode cX1_exchange 46 = .ok (.iload 6, 2) := by decide +kernel
theorem dX1_exchange_48 : decode cX1_exchange 48 = .ok (.iload_n 2, 1) := by decide +kernel
theorem dX1_exchange_49 : decode cX1_exchange 49 = .ok (.if_icmp .ne 7, 3) := by decide +kernel
theorem dX1_exchange_52 : decode cX1_exchange 52 = .ok (.iload_n 3, 1) := by decide +kernel
theorem dX1_exchange_53 : decode cX1_exchange 53 = .ok (.goto 15, 3) := by decide +kernel
theorem dX1_exchange_56 : decode cX1_exchange 56 = .ok (.iload 6, 2) := by decide +kernel
theorem dX1_exchange_58 : decode cX1_exchange 58 = .ok (.iload_n 3, 1) := by decide +kernel
theorem dX1_exchange_59 : decode cX1_exchange 59 = .ok (.if_icmp .ne 7, 3) := by decide +kernel
theorem dX1_exchange_62 : decode cX1_exchange 62 = .ok (.iload_n 2, 1) := by decide +kernel
theorem dX1_exchange_63 : decode cX1_exchange 63 = .ok (.goto 5, 3) := by decide +kernel
theorem dX1_exchange_66 : decode cX1_exchange 66 = .ok (.iload 6, 2) := by decide +kernel
theorem dX1_exchange_68 : decode cX1_exchange 68 = .ok (.istore 7, 2) := by decide +kernel
theorem dX1_exchange_70 : decode cX1_exchange 70 = .ok (.aload_n 0, 1) := by decide +kernel
theorem dX1_exchange_71 : decode cX1_exchange 71 = .ok (.iload 4, 2) := by decide +kernel
theorem dX1_exchange_73 : decode cX1_exchange 73 = .ok (.iload 6, 2) := by decide +kernel
theorem dX1_exchange_75 : decode cX1_exchange 75 = .ok (.aload_n 1, 1) := by decide +kernel
theorem dX1_exchange_76 : decode cX1_exchange 76 = .ok (.getfield 35, 3) := by decide +kernel
theorem dX1_exchange_79 : decode cX1_exchange 79 = .ok (.iconst 4, 1) := by decide +kernel
theorem dX1_exchange_80 : decode cX1_exchange 80 = .ok (.iload 5, 2) := by decide +kernel
theorem dX1_exchange_82 : decode cX1_exchange 82 = .ok (.imul, 1) := by decide +kernel
theorem dX1_exchange_83 : decode cX1_exchange 83 = .ok (.iload 7, 2) := by decide +kernel
theorem dX1_exchange_85 : decode cX1_exchange 85 = .ok (.iadd, 1) := by decide +kernel
theorem dX1_exchange_86 : decode cX1_exchange 86 = .ok (.iaload, 1) := by decide +kernel
theorem dX1_exchange_87 : decode cX1_exchange 87 = .ok (.invokevirtual 42, 3) := by decide +kernel
theorem dX1_exchange_90 : decode cX1_exchange 90 = .ok (.iinc 6 1, 3) := by decide +kernel
theorem dX1_exchange_93 : decode cX1_exchange 93 = .ok (.goto (-54), 3) := by decide +kernel
theorem dX1_exchange_96 : decode cX1_exchange 96 = .ok (.iinc 4 1, 3) := by decide +kernel
theorem dX1_exchange_99 : decode cX1_exchange 99 = .ok (.goto (-96), 3) := by decide +kernel
theorem dX1_exchange_102 : decode cX1_exchange 102 = .ok (.return_, 1) := by decide +kernel
abbrev MX1_addLetter : ZM := (yX1_addLetter, cX1_addLetter, 6, (Option.none : Option FieldType), 1, 23)
theorem dX1_addLetter_0 : decode cX1_addLetter 0 = .ok (.aload_n 0, 1) := by decide +kernel
theorem dX1_addLetter_1 : decode cX1_addLetter 1 = .ok (.iload_n 1, 1) := by decide +kernel
theorem dX1_addLetter_2 : decode cX1_addLetter 2 = .ok (.iload_n 1, 1) := by decide +kernel
theorem dX1_addLetter_3 : decode cX1_addLetter 3 = .ok (.invokevirtual 46, 3) := by decide +kernel
theorem dX1_addLetter_6 : decode cX1_addLetter 6 = .ok (.iconst 2, 1) := by decide +kernel
theorem dX1_addLetter_7 : decode cX1_addLetter 7 = .ok (.iload_n 3, 1) := by decide +kernel
theorem dX1_addLetter_8 : decode cX1_addLetter 8 = .ok (.imul, 1) := by decide +kernel
theorem dX1_addLetter_9 : decode cX1_addLetter 9 = .ok (.aload_n 0, 1) := by decide +kernel
theorem dX1_addLetter_10 : decode cX1_addLetter 10 = .ok (.iload_n 1, 1) := by decide +kernel
theorem dX1_addLetter_11 : decode cX1_addLetter 11 = .ok (.iload_n 2, 1) := by decide +kernel
theorem dX1_addLetter_12 : decode cX1_addLetter 12 = .ok (.invokevirtual 46, 3) := by decide +kernel
theorem dX1_addLetter_15 : decode cX1_addLetter 15 = .ok (.imul, 1) := by decide +kernel
theorem dX1_addLetter_16 : decode cX1_addLetter 16 = .ok (.iadd, 1) := by decide +kernel
theorem dX1_addLetter_17 : decode cX1_addLetter 17 = .ok (.iload_n 3, 1) := by decide +kernel
theorem dX1_addLetter_18 : decode cX1_addLetter 18 = .ok (.iload_n 3, 1) := by decide +kernel
theorem dX1_addLetter_19 : decode cX1_addLetter 19 = .ok (.imul, 1) := by decide +kernel
theorem dX1_addLetter_20 : decode cX1_addLetter 20 = .ok (.aload_n 0, 1) := by decide +kernel
theorem dX1_addLetter_21 : decode cX1_addLetter 21 = .ok (.iload_n 2, 1) := by decide +kernel
theorem dX1_addLetter_22 : decode cX1_addLetter 22 = .ok (.iload_n 2, 1) := by decide +kernel
theorem dX1_addLetter_23 : decode cX1_addLetter 23 = .ok (.invokevirtual 46, 3) := by decide +kernel
theorem dX1_addLetter_26 : decode cX1_addLetter 26 = .ok (.imul, 1) := by decide +kernel
theorem dX1_addLetter_27 : decode cX1_addLetter 27 = .ok (.iadd, 1) := by decide +kernel
theorem dX1_addLetter_28 : decode cX1_addLetter 28 = .ok (.istore 4, 2) := by decide +kernel
theorem dX1_addLetter_30 : decode cX1_addLetter 30 = .ok (.iconst 0, 1) := by decide +kernel
theorem dX1_addLetter_31 : decode cX1_addLetter 31 = .ok (.istore 5, 2) := by decide +kernel
theorem dX1_addLetter_33 : decode cX1_addLetter 33 = .ok (.iload 5, 2) := by decide +kernel
theorem dX1_addLetter_35 : decode cX1_addLetter 35 = .ok (.aload_n 0, 1) := by decide +kernel
theorem dX1_addLetter_36 : decode cX1_addLetter 36 = .ok (.getfield 22, 3) := by decide +kernel
theorem dX1_addLetter_39 : decode cX1_addLetter 39 = .ok (.if_icmp .ge 39, 3) := by decide +kernel
theorem dX1_addLetter_42 : decode cX1_addLetter 42 = .ok (.iload 5, 2) := by decide +kernel
theorem dX1_addLetter_44 : decode cX1_addLetter 44 = .ok (.iload_n 1, 1) := by decide +kernel
theorem dX1_addLetter_45 : decode cX1_addLetter 45 = .ok (.if_icmp .eq 27, 3) := by decide +kernel
theorem dX1_addLetter_48 : decode cX1_addLetter 48 = .ok (.aload_n 0, 1) := by decide +kernel
theorem dX1_addLetter_49 : decode cX1_addLetter 49 = .ok (.iload_n 1, 1) := by decide +kernel
theorem dX1_addLetter_50 : decode cX1_addLetter 50 = .ok (.iload 5, 2) := by decide +kernel
theorem dX1_addLetter_52 : decode cX1_addLetter 52 = .ok (.aload_n 0, 1) := by decide +kernel
theorem dX1_addLetter_53 : decode cX1_addLetter 53 = .ok (.iload_n 1, 1) := by decide +kernel
theorem dX1_addLetter_54 : decode cX1_addLetter 54 = .ok (.iload 5, 2) := by decide +kernel
theorem dX1_addLetter_56 : decode cX1_addLetter 56 = .ok (.invokevirtual 46, 3) := by decide +kernel
theorem dX1_addLetter_59 : decode cX1_addLetter 59 = .ok (.iload_n 3, 1) := by decide +kernel
theorem dX1_addLetter_60 : decode cX1_addLetter 60 = .ok (.aload_n 0, 1) := by decide +kernel
theorem dX1_addLetter_61 : decode cX1_addLetter 61 = .ok (.iload_n 2, 1) := by decide +kernel
theorem dX1_addLetter_62 : decode cX1_addLetter 62 = .ok (.iload 5, 2) := by decide +kernel
theorem dX1_addLetter_64 : decode cX1_addLetter 64 = .ok (.invokevirtual 46, 3) := by decide +kernel
theorem dX1_addLetter_67 : decode cX1_addLetter 67 = .ok (.imul, 1) := by decide +kernel
theorem dX1_addLetter_68 : decode cX1_addLetter 68 = .ok (.iadd, 1) := by decide +kernel
theorem dX1_addLetter_69 : decode cX1_addLetter 69 = .ok (.invokevirtual 42, 3) := by decide +kernel
theorem dX1_addLetter_72 : decode cX1_addLetter 72 = .ok (.iinc 5 1, 3) := by decide +kernel
theorem dX1_addLetter_75 : decode cX1_addLetter 75 = .ok (.goto (-42), 3) := by decide +kernel
theorem dX1_addLetter_78 : decode cX1_addLetter 78 = .ok (.aload_n 0, 1) := by decide +kernel
theorem dX1_addLetter_79 : decode cX1_addLetter 79 = .ok (.iload_n 1, 1) := by decide +kernel
theorem dX1_addLetter_80 : decode cX1_addLetter 80 = .ok (.iload_n 1, 1) := by decide +kernel
theorem dX1_addLetter_81 : decode cX1_addLetter 81 = .ok (.iload 4, 2) := by decide +kernel
theorem dX1_addLetter_83 : decode cX1_addLetter 83 = .ok (.invokevirtual 42, 3) := by decide +kernel
theorem dX1_addLetter_86 : decode cX1_addLetter 86 = .ok (.return_, 1) := by decide +kernel
abbrev MX1_reduceOnce : ZM := (yX1_reduceOnce, cX1_reduceOnce, 6, (Option.some FieldType.boolean), 2, 48)
theorem dX1_reduceOnce_0 : decode cX1_reduceOnce 0 = .ok (.iconst 0, 1) := by decide +kernel
theorem dX1_reduceOnce_1 : decode cX1_reduceOnce 1 = .ok (.istore_n 1, 1) := by decide +kernel
theorem dX1_reduceOnce_2 : decode cX1_reduceOnce 2 = .ok (.iload_n 1, 1) := by decide +kernel
theorem dX1_reduceOnce_3 : decode cX1_reduceOnce 3 = .ok (.aload_n 0, 1) := by decide +kernel
theorem dX1_reduceOnce_4 : decode cX1_reduceOnce 4 = .ok (.getfield 22, 3) := by decide +kernel
theorem dX1_reduceOnce_7 : decode cX1_reduceOnce 7 = .ok (.if_icmp .ge 101, 3) := by decide +kernel
theorem dX1_reduceOnce_10 : decode cX1_reduceOnce 10 = .ok (.iconst 0, 1) := by decide +kernel
theorem dX1_reduceOnce_11 : decode cX1_reduceOnce 11 = .ok (.istore_n 2, 1) := by decide +kernel
theorem dX1_reduceOnce_12 : decode cX1_reduceOnce 12 = .ok (.iload_n 2, 1) := by decide +kernel
theorem dX1_reduceOnce_13 : decode cX1_reduceOnce 13 = .ok (.aload_n 0, 1) := by decide +kernel
theorem dX1_reduceOnce_14 : decode cX1_reduceOnce 14 = .ok (.getfield 22, 3) := by decide +kernel
theorem dX1_reduceOnce_17 : decode cX1_reduceOnce 17 = .ok (.if_icmp .ge 85, 3) := by decide +kernel
theorem dX1_reduceOnce_20 : decode cX1_reduceOnce 20 = .ok (.aload_n 0, 1) := by decide +kernel
theorem dX1_reduceOnce_21 : decode cX1_reduceOnce 21 = .ok (.iload_n 1, 1) := by decide +kernel
theorem dX1_reduceOnce_22 : decode cX1_reduceOnce 22 = .ok (.iload_n 2, 1) := by decide +kernel
theorem dX1_reduceOnce_23 : decode cX1_reduceOnce 23 = .ok (.invokevirtual 46, 3) := by decide +kernel
theorem dX1_reduceOnce_26 : decode cX1_reduceOnce 26 = .ok (.invokestatic 50, 3) := by decide +kernel
theorem dX1_reduceOnce_29 : decode cX1_reduceOnce 29 = .ok (.istore_n 3, 1) := by decide +kernel
theorem dX1_reduceOnce_30 : decode cX1_reduceOnce 30 = .ok (.aload_n 0, 1) := by decide +kernel
theorem dX1_reduceOnce_31 : decode cX1_reduceOnce 31 = .ok (.iload_n 2, 1) := by decide +kernel
theorem dX1_reduceOnce_32 : decode cX1_reduceOnce 32 = .ok (.iload_n 2, 1) := by decide +kernel
theorem dX1_reduceOnce_33 : decode cX1_reduceOnce 33 = .ok (.invokevirtual 46, 3) := by decide +kernel
theorem dX1_reduceOnce_36 : decode cX1_reduceOnce 36 = .ok (.istore 4, 2) := by decide +kernel
theorem dX1_reduceOnce_38 : decode cX1_reduceOnce 38 = .ok (.iload_n 1, 1) := by decide +kernel
theorem dX1_reduceOnce_39 : decode cX1_reduceOnce 39 = .ok (.iload_n 2, 1) := by decide +kernel
theorem dX1_reduceOnce_40 : decode cX1_reduceOnce 40 = .ok (.if_icmp .eq 56, 3) := by decide +kernel
theorem dX1_reduceOnce_43 : decode cX1_reduceOnce 43 = .ok (.iload 4, 2) := by decide +kernel
theorem dX1_reduceOnce_45 : decode cX1_reduceOnce 45 = .ok (.ifCond .le 51, 3) := by decide +kernel
theorem dX1_reduceOnce_48 : decode cX1_reduceOnce 48 = .ok (.iconst 2, 1) := by decide +kernel
theorem dX1_reduceOnce_49 : decode cX1_reduceOnce 49 = .ok (.iload_n 3, 1) := by decide +kernel
theorem dX1_reduceOnce_50 : decode cX1_reduceOnce 50 = .ok (.imul, 1) := by decide +kernel
theorem dX1_reduceOnce_51 : decode cX1_reduceOnce 51 = .ok (.iload 4, 2) := by decide +kernel
theorem dX1_reduceOnce_53 : decode cX1_reduceOnce 53 = .ok (.if_icmp .le 43, 3) := by decide +kernel
theorem dX1_reduceOnce_56 : decode cX1_reduceOnce 56 = .ok (.iconst 2, 1) := by decide +kernel
theorem dX1_reduceOnce_57 : decode cX1_reduceOnce 57 = .ok (.iload_n 3, 1) := by decide +kernel
theorem dX1_reduceOnce_58 : decode cX1_reduceOnce 58 = .ok (.imul, 1) := by decide +kernel
theorem dX1_reduceOnce_59 : decode cX1_reduceOnce 59 = .ok (.iload 4, 2) := by decide +kernel
theorem dX1_reduceOnce_61 : decode cX1_reduceOnce 61 = .ok (.iadd, 1) := by decide +kernel
theorem dX1_reduceOnce_62 : decode cX1_reduceOnce 62 = .ok (.iconst 1, 1) := by decide +kernel
theorem dX1_reduceOnce_63 : decode cX1_reduceOnce 63 = .ok (.isub, 1) := by decide +kernel
theorem dX1_reduceOnce_64 : decode cX1_reduceOnce 64 = .ok (.iconst 2, 1) := by decide +kernel
theorem dX1_reduceOnce_65 : decode cX1_reduceOnce 65 = .ok (.iload 4, 2) := by decide +kernel
theorem dX1_reduceOnce_67 : decode cX1_reduceOnce 67 = .ok (.imul, 1) := by decide +kernel
theorem dX1_reduceOnce_68 : decode cX1_reduceOnce 68 = .ok (.idiv, 1) := by decide +kernel
theorem dX1_reduceOnce_69 : decode cX1_reduceOnce 69 = .ok (.istore 5, 2) := by decide +kernel
theorem dX1_reduceOnce_71 : decode cX1_reduceOnce 71 = .ok (.aload_n 0, 1) := by decide +kernel
theorem dX1_reduceOnce_72 : decode cX1_reduceOnce 72 = .ok (.iload_n 1, 1) := by decide +kernel
theorem dX1_reduceOnce_73 : decode cX1_reduceOnce 73 = .ok (.iload_n 2, 1) := by decide +kernel
theorem dX1_reduceOnce_74 : decode cX1_reduceOnce 74 = .ok (.aload_n 0, 1) := by decide +kernel
theorem dX1_reduceOnce_75 : decode cX1_reduceOnce 75 = .ok (.iload_n 1, 1) := by decide +kernel
theorem dX1_reduceOnce_76 : decode cX1_reduceOnce 76 = .ok (.iload_n 2, 1) := by decide +kernel
theorem dX1_reduceOnce_77 : decode cX1_reduceOnce 77 = .ok (.invokevirtual 46, 3) := by decide +kernel
theorem dX1_reduceOnce_80 : decode cX1_reduceOnce 80 = .ok (.ifCond .le 9, 3) := by decide +kernel
theorem dX1_reduceOnce_83 : decode cX1_reduceOnce 83 = .ok (.iload 5, 2) := by decide +kernel
theorem dX1_reduceOnce_85 : decode cX1_reduceOnce 85 = .ok (.ineg, 1) := by decide +kernel
theorem dX1_reduceOnce_86 : decode cX1_reduceOnce 86 = .ok (.goto 5, 3) := by decide +kernel
theorem dX1_reduceOnce_89 : decode cX1_reduceOnce 89 = .ok (.iload 5, 2) := by decide +kernel
theorem dX1_reduceOnce_91 : decode cX1_reduceOnce 91 = .ok (.invokevirtual 56, 3) := by decide +kernel
theorem dX1_reduceOnce_94 : decode cX1_reduceOnce 94 = .ok (.iconst 1, 1) := by decide +kernel
theorem dX1_reduceOnce_95 : decode cX1_reduceOnce 95 = .ok (.ireturn, 1) := by decide +kernel
theorem dX1_reduceOnce_96 : decode cX1_reduceOnce 96 = .ok (.iinc 2 1, 3) := by decide +kernel
theorem dX1_reduceOnce_99 : decode cX1_reduceOnce 99 = .ok (.goto (-87), 3) := by decide +kernel
theorem dX1_reduceOnce_102 : decode cX1_reduceOnce 102 = .ok (.iinc 1 1, 3) := by decide +kernel
theorem dX1_reduceOnce_105 : decode cX1_reduceOnce 105 = .ok (.goto (-103), 3) := by decide +kernel
theorem dX1_reduceOnce_108 : decode cX1_reduceOnce 108 = .ok (.iconst 0, 1) := by decide +kernel
theorem dX1_reduceOnce_109 : decode cX1_reduceOnce 109 = .ok (.ireturn, 1) := by decide +kernel
abbrev MX1_isInRange : ZM := (yX1_isInRange, cX1_isInRange, 2, (Option.some FieldType.boolean), 0, 0)
theorem dX1_isInRange_0 : decode cX1_isInRange 0 = .ok (.iconst 0, 1) := by decide +kernel
theorem dX1_isInRange_1 : decode cX1_isInRange 1 = .ok (.istore_n 1, 1) := by decide +kernel
theorem dX1_isInRange_2 : decode cX1_isInRange 2 = .ok (.iload_n 1, 1) := by decide +kernel
theorem dX1_isInRange_3 : decode cX1_isInRange 3 = .ok (.aload_n 0, 1) := by decide +kernel
theorem dX1_isInRange_4 : decode cX1_isInRange 4 = .ok (.getfield 9, 3) := by decide +kernel
theorem dX1_isInRange_7 : decode cX1_isInRange 7 = .ok (.arraylength, 1) := by decide +kernel
theorem dX1_isInRange_8 : decode cX1_isInRange 8 = .ok (.if_icmp .ge 33, 3) := by decide +kernel
theorem dX1_isInRange_11 : decode cX1_isInRange 11 = .ok (.aload_n 0, 1) := by decide +kernel
theorem dX1_isInRange_12 : decode cX1_isInRange 12 = .ok (.getfield 9, 3) := by decide +kernel
theorem dX1_isInRange_15 : decode cX1_isInRange 15 = .ok (.iload_n 1, 1) := by decide +kernel
theorem dX1_isInRange_16 : decode cX1_isInRange 16 = .ok (.iaload, 1) := by decide +kernel
theorem dX1_isInRange_17 : decode cX1_isInRange 17 = .ok (.bipush (-99), 2) := by decide +kernel
theorem dX1_isInRange_19 : decode cX1_isInRange 19 = .ok (.if_icmp .lt 14, 3) := by decide +kernel
theorem dX1_isInRange_22 : decode cX1_isInRange 22 = .ok (.aload_n 0, 1) := by decide +kernel
theorem dX1_isInRange_23 : decode cX1_isInRange 23 = .ok (.getfield 9, 3) := by decide +kernel
theorem dX1_isInRange_26 : decode cX1_isInRange 26 = .ok (.iload_n 1, 1) := by decide +kernel
theorem dX1_isInRange_27 : decode cX1_isInRange 27 = .ok (.iaload, 1) := by decide +kernel
theorem dX1_isInRange_28 : decode cX1_isInRange 28 = .ok (.bipush 99, 2) := by decide +kernel
theorem dX1_isInRange_30 : decode cX1_isInRange 30 = .ok (.if_icmp .le 5, 3) := by decide +kernel
theorem dX1_isInRange_33 : decode cX1_isInRange 33 = .ok (.iconst 0, 1) := by decide +kernel
theorem dX1_isInRange_34 : decode cX1_isInRange 34 = .ok (.ireturn, 1) := by decide +kernel
theorem dX1_isInRange_35 : decode cX1_isInRange 35 = .ok (.iinc 1 1, 3) := by decide +kernel
theorem dX1_isInRange_38 : decode cX1_isInRange 38 = .ok (.goto (-36), 3) := by decide +kernel
theorem dX1_isInRange_41 : decode cX1_isInRange 41 = .ok (.iconst 1, 1) := by decide +kernel
theorem dX1_isInRange_42 : decode cX1_isInRange 42 = .ok (.ireturn, 1) := by decide +kernel
abbrev MX1_isLawful : ZM := (yX1_isLawful, cX1_isLawful, 9, (Option.some FieldType.boolean), 2, 57)
theorem dX1_isLawful_0 : decode cX1_isLawful 0 = .ok (.aload_n 0, 1) := by decide +kernel
theorem dX1_isLawful_1 : decode cX1_isLawful 1 = .ok (.invokevirtual 59, 3) := by decide +kernel
theorem dX1_isLawful_4 : decode cX1_isLawful 4 = .ok (.ifCond .ne 5, 3) := by decide +kernel
theorem dX1_isLawful_7 : decode cX1_isLawful 7 = .ok (.iconst 0, 1) := by decide +kernel
theorem dX1_isLawful_8 : decode cX1_isLawful 8 = .ok (.ireturn, 1) := by decide +kernel
theorem dX1_isLawful_9 : decode cX1_isLawful 9 = .ok (.iconst 1, 1) := by decide +kernel
theorem dX1_isLawful_10 : decode cX1_isLawful 10 = .ok (.aload_n 0, 1) := by decide +kernel
theorem dX1_isLawful_11 : decode cX1_isLawful 11 = .ok (.getfield 22, 3) := by decide +kernel
theorem dX1_isLawful_14 : decode cX1_isLawful 14 = .ok (.ishl, 1) := by decide +kernel
theorem dX1_isLawful_15 : decode cX1_isLawful 15 = .ok (.iconst 1, 1) := by decide +kernel
theorem dX1_isLawful_16 : decode cX1_isLawful 16 = .ok (.isub, 1) := by decide +kernel
theorem dX1_isLawful_17 : decode cX1_isLawful 17 = .ok (.istore_n 1, 1) := by decide +kernel
theorem dX1_isLawful_18 : decode cX1_isLawful 18 = .ok (.aload_n 0, 1) := by decide +kernel
theorem dX1_isLawful_19 : decode cX1_isLawful 19 = .ok (.iload_n 1, 1) := by decide +kernel
theorem dX1_isLawful_20 : decode cX1_isLawful 20 = .ok (.invokevirtual 63, 3) := by decide +kernel
theorem dX1_isLawful_23 : decode cX1_isLawful 23 = .ok (.lstore_n 2, 1) := by decide +kernel
theorem dX1_isLawful_24 : decode cX1_isLawful 24 = .ok (.lload_n 2, 1) := by decide +kernel
theorem dX1_isLawful_25 : decode cX1_isLawful 25 = .ok (.lconst 0, 1) := by decide +kernel
theorem dX1_isLawful_26 : decode cX1_isLawful 26 = .ok (.lcmp, 1) := by decide +kernel
theorem dX1_isLawful_27 : decode cX1_isLawful 27 = .ok (.ifCond .gt 5, 3) := by decide +kernel
theorem dX1_isLawful_30 : decode cX1_isLawful 30 = .ok (.iconst 0, 1) := by decide +kernel
theorem dX1_isLawful_31 : decode cX1_isLawful 31 = .ok (.ireturn, 1) := by decide +kernel
theorem dX1_isLawful_32 : decode cX1_isLawful 32 = .ok (.lconst 1, 1) := by decide +kernel
theorem dX1_isLawful_33 : decode cX1_isLawful 33 = .ok (.lstore 4, 2) := by decide +kernel
theorem dX1_isLawful_35 : decode cX1_isLawful 35 = .ok (.iconst 0, 1) := by decide +kernel
theorem dX1_isLawful_36 : decode cX1_isLawful 36 = .ok (.istore 6, 2) := by decide +kernel
theorem dX1_isLawful_38 : decode cX1_isLawful 38 = .ok (.iload 6, 2) := by decide +kernel
theorem dX1_isLawful_40 : decode cX1_isLawful 40 = .ok (.aload_n 0, 1) := by decide +kernel
theorem dX1_isLawful_41 : decode cX1_isLawful 41 = .ok (.getfield 22, 3) := by decide +kernel
theorem dX1_isLawful_44 : decode cX1_isLawful 44 = .ok (.if_icmp .ge 56, 3) := by decide +kernel
theorem dX1_isLawful_47 : decode cX1_isLawful 47 = .ok (.aload_n 0, 1) := by decide +kernel
theorem dX1_isLawful_48 : decode cX1_isLawful 48 = .ok (.iload_n 1, 1) := by decide +kernel
theorem dX1_isLawful_49 : decode cX1_isLawful 49 = .ok (.iconst 1, 1) := by decide +kernel
theorem dX1_isLawful_50 : decode cX1_isLawful 50 = .ok (.iload 6, 2) := by decide +kernel
theorem dX1_isLawful_52 : decode cX1_isLawful 52 = .ok (.ishl, 1) := by decide +kernel
theorem dX1_isLawful_53 : decode cX1_isLawful 53 = .ok (.iconst (-1), 1) := by decide +kernel
theorem dX1_isLawful_54 : decode cX1_isLawful 54 = .ok (.ixor, 1) := by decide +kernel
theorem dX1_isLawful_55 : decode cX1_isLawful 55 = .ok (.iand, 1) := by decide +kernel
theorem dX1_isLawful_56 : decode cX1_isLawful 56 = .ok (.invokevirtual 63, 3) := by decide +kernel
theorem dX1_isLawful_59 : decode cX1_isLawful 59 = .ok (.lstore 7, 2) := by decide +kernel
theorem dX1_isLawful_61 : decode cX1_isLawful 61 = .ok (.lload 4, 2) := by decide +kernel
theorem dX1_isLawful_63 : decode cX1_isLawful 63 = .ok (.ldc2_w 67, 3) := by decide +kernel
theorem dX1_isLawful_66 : decode cX1_isLawful 66 = .ok (.ldc2_w 69, 3) := by decide +kernel
theorem dX1_isLawful_69 : decode cX1_isLawful 69 = .ok (.lload 7, 2) := by decide +kernel
theorem dX1_isLawful_71 : decode cX1_isLawful 71 = .ok (.lmul, 1) := by decide +kernel
theorem dX1_isLawful_72 : decode cX1_isLawful 72 = .ok (.lload_n 2, 1) := by decide +kernel
theorem dX1_isLawful_73 : decode cX1_isLawful 73 = .ok (.ldiv, 1) := by decide +kernel
theorem dX1_isLawful_74 : decode cX1_isLawful 74 = .ok (.invokestatic 71, 3) := by decide +kernel
theorem dX1_isLawful_77 : decode cX1_isLawful 77 = .ok (.lmul, 1) := by decide +kernel
theorem dX1_isLawful_78 : decode cX1_isLawful 78 = .ok (.lconst 1, 1) := by decide +kernel
theorem dX1_isLawful_79 : decode cX1_isLawful 79 = .ok (.ladd, 1) := by decide +kernel
theorem dX1_isLawful_80 : decode cX1_isLawful 80 = .ok (.lmul, 1) := by decide +kernel
theorem dX1_isLawful_81 : decode cX1_isLawful 81 = .ok (.lstore 4, 2) := by decide +kernel
theorem dX1_isLawful_83 : decode cX1_isLawful 83 = .ok (.lload 4, 2) := by decide +kernel
theorem dX1_isLawful_85 : decode cX1_isLawful 85 = .ok (.ldc2_w 75, 3) := by decide +kernel
theorem dX1_isLawful_88 : decode cX1_isLawful 88 = .ok (.lcmp, 1) := by decide +kernel
theorem dX1_isLawful_89 : decode cX1_isLawful 89 = .ok (.ifCond .le 5, 3) := by decide +kernel
theorem dX1_isLawful_92 : decode cX1_isLawful 92 = .ok (.iconst 0, 1) := by decide +kernel
theorem dX1_isLawful_93 : decode cX1_isLawful 93 = .ok (.ireturn, 1) := by decide +kernel
theorem dX1_isLawful_94 : decode cX1_isLawful 94 = .ok (.iinc 6 1, 3) := by decide +kernel
theorem dX1_isLawful_97 : decode cX1_isLawful 97 = .ok (.goto (-59), 3) := by decide +kernel
theorem dX1_isLawful_100 : decode cX1_isLawful 100 = .ok (.aload_n 0, 1) := by decide +kernel
theorem dX1_isLawful_101 : decode cX1_isLawful 101 = .ok (.lload_n 2, 1) := by decide +kernel
theorem dX1_isLawful_102 : decode cX1_isLawful 102 = .ok (.l2i, 1) := by decide +kernel
theorem dX1_isLawful_103 : decode cX1_isLawful 103 = .ok (.putfield 77, 3) := by decide +kernel
theorem dX1_isLawful_106 : decode cX1_isLawful 106 = .ok (.aload_n 0, 1) := by decide +kernel
theorem dX1_isLawful_107 : decode cX1_isLawful 107 = .ok (.lload 4, 2) := by decide +kernel
theorem dX1_isLawful_109 : decode cX1_isLawful 109 = .ok (.l2i, 1) := by decide +kernel
theorem dX1_isLawful_110 : decode cX1_isLawful 110 = .ok (.putfield 80, 3) := by decide +kernel
theorem dX1_isLawful_113 : decode cX1_isLawful 113 = .ok (.iconst 1, 1) := by decide +kernel
theorem dX1_isLawful_114 : decode cX1_isLawful 114 = .ok (.ireturn, 1) := by decide +kernel
abbrev MX1_determinant : ZM := (yX1_determinant, cX1_determinant, 8, (Option.some FieldType.long), 1, 30)
theorem dX1_determinant_0 : decode cX1_determinant 0 = .ok (.iconst 0, 1) := by decide +kernel
theorem dX1_determinant_1 : decode cX1_determinant 1 = .ok (.istore_n 2, 1) := by decide +kernel
theorem dX1_determinant_2 : decode cX1_determinant 2 = .ok (.iconst 0, 1) := by decide +kernel
theorem dX1_determinant_3 : decode cX1_determinant 3 = .ok (.istore_n 3, 1) := by decide +kernel
theorem dX1_determinant_4 : decode cX1_determinant 4 = .ok (.iload_n 3, 1) := by decide +kernel
theorem dX1_determinant_5 : decode cX1_determinant 5 = .ok (.aload_n 0, 1) := by decide +kernel
theorem dX1_determinant_6 : decode cX1_determinant 6 = .ok (.getfield 22, 3) := by decide +kernel
theorem dX1_determinant_9 : decode cX1_determinant 9 = .ok (.if_icmp .ge 27, 3) := by decide +kernel
theorem dX1_determinant_12 : decode cX1_determinant 12 = .ok (.iload_n 1, 1) := by decide +kernel
theorem dX1_determinant_13 : decode cX1_determinant 13 = .ok (.iload_n 3, 1) := by decide +kernel
theorem dX1_determinant_14 : decode cX1_determinant 14 = .ok (.ishr, 1) := by decide +kernel
theorem dX1_determinant_15 : decode cX1_determinant 15 = .ok (.iconst 1, 1) := by decide +kernel
theorem dX1_determinant_16 : decode cX1_determinant 16 = .ok (.iand, 1) := by decide +kernel
theorem dX1_determinant_17 : decode cX1_determinant 17 = .ok (.ifCond .eq 13, 3) := by decide +kernel
theorem dX1_determinant_20 : decode cX1_determinant 20 = .ok (.aload_n 0, 1) := by decide +kernel
theorem dX1_determinant_21 : decode cX1_determinant 21 = .ok (.getfield 19, 3) := by decide +kernel
theorem dX1_determinant_24 : decode cX1_determinant 24 = .ok (.iload_n 2, 1) := by decide +kernel
theorem dX1_determinant_25 : decode cX1_determinant 25 = .ok (.iload_n 3, 1) := by decide +kernel
theorem dX1_determinant_26 : decode cX1_determinant 26 = .ok (.iastore, 1) := by decide +kernel
theorem dX1_determinant_27 : decode cX1_determinant 27 = .ok (.iinc 2 1, 3) := by decide +kernel
theorem dX1_determinant_30 : decode cX1_determinant 30 = .ok (.iinc 3 1, 3) := by decide +kernel
theorem dX1_determinant_33 : decode cX1_determinant 33 = .ok (.goto (-29), 3) := by decide +kernel
theorem dX1_determinant_36 : decode cX1_determinant 36 = .ok (.iconst 0, 1) := by decide +kernel
theorem dX1_determinant_37 : decode cX1_determinant 37 = .ok (.istore_n 3, 1) := by decide +kernel
theorem dX1_determinant_38 : decode cX1_determinant 38 = .ok (.iload_n 3, 1) := by decide +kernel
theorem dX1_determinant_39 : decode cX1_determinant 39 = .ok (.iload_n 2, 1) := by decide +kernel
theorem dX1_determinant_40 : decode cX1_determinant 40 = .ok (.if_icmp .ge 53, 3) := by decide +kernel
theorem dX1_determinant_43 : decode cX1_determinant 43 = .ok (.iconst 0, 1) := by decide +kernel
theorem dX1_determinant_44 : decode cX1_determinant 44 = .ok (.istore 4, 2) := by decide +kernel
theorem dX1_determinant_46 : decode cX1_determinant 46 = .ok (.iload 4, 2) := by decide +kernel
theorem dX1_determinant_48 : decode cX1_determinant 48 = .ok (.iload_n 2, 1) := by decide +kernel
theorem dX1_determinant_49 : decode cX1_determinant 49 = .ok (.if_icmp .ge 38, 3) := by decide +kernel
theorem dX1_determinant_52 : decode cX1_determinant 52 = .ok (.aload_n 0, 1) := by decide +kernel
theorem dX1_determinant_53 : decode cX1_determinant 53 = .ok (.getfield 15, 3) := by decide +kernel
theorem dX1_determinant_56 : decode cX1_determinant 56 = .ok (.iconst 4, 1) := by decide +kernel
theorem dX1_determinant_57 : decode cX1_determinant 57 = .ok (.iload_n 3, 1) := by decide +kernel
theorem dX1_determinant_58 : decode cX1_determinant 58 = .ok (.imul, 1) := by decide +kernel
theorem dX1_determinant_59 : decode cX1_determinant 59 = .ok (.iload 4, 2) := by decide +kernel
theorem dX1_determinant_61 : decode cX1_determinant 61 = .ok (.iadd, 1) := by decide +kernel
theorem dX1_determinant_62 : decode cX1_determinant 62 = .ok (.aload_n 0, 1) := by decide +kernel
theorem dX1_determinant_63 : decode cX1_determinant 63 = .ok (.aload_n 0, 1) := by decide +kernel
theorem dX1_determinant_64 : decode cX1_determinant 64 = .ok (.getfield 19, 3) := by decide +kernel
theorem dX1_determinant_67 : decode cX1_determinant 67 = .ok (.iload_n 3, 1) := by decide +kernel
theorem dX1_determinant_68 : decode cX1_determinant 68 = .ok (.iaload, 1) := by decide +kernel
theorem dX1_determinant_69 : decode cX1_determinant 69 = .ok (.aload_n 0, 1) := by decide +kernel
theorem dX1_determinant_70 : decode cX1_determinant 70 = .ok (.getfield 19, 3) := by decide +kernel
theorem dX1_determinant_73 : decode cX1_determinant 73 = .ok (.iload 4, 2) := by decide +kernel
theorem dX1_determinant_75 : decode cX1_determinant 75 = .ok (.iaload, 1) := by decide +kernel
theorem dX1_determinant_76 : decode cX1_determinant 76 = .ok (.invokevirtual 46, 3) := by decide +kernel
theorem dX1_determinant_79 : decode cX1_determinant 79 = .ok (.i2l, 1) := by decide +kernel
theorem dX1_determinant_80 : decode cX1_determinant 80 = .ok (.lastore, 1) := by decide +kernel
theorem dX1_determinant_81 : decode cX1_determinant 81 = .ok (.iinc 4 1, 3) := by decide +kernel
theorem dX1_determinant_84 : decode cX1_determinant 84 = .ok (.goto (-38), 3) := by decide +kernel
theorem dX1_determinant_87 : decode cX1_determinant 87 = .ok (.iinc 3 1, 3) := by decide +kernel
theorem dX1_determinant_90 : decode cX1_determinant 90 = .ok (.goto (-52), 3) := by decide +kernel
theorem dX1_determinant_93 : decode cX1_determinant 93 = .ok (.lconst 1, 1) := by decide +kernel
theorem dX1_determinant_94 : decode cX1_determinant 94 = .ok (.lstore_n 3, 1) := by decide +kernel
theorem dX1_determinant_95 : decode cX1_determinant 95 = .ok (.iconst 0, 1) := by decide +kernel
theorem dX1_determinant_96 : decode cX1_determinant 96 = .ok (.istore 5, 2) := by decide +kernel
theorem dX1_determinant_98 : decode cX1_determinant 98 = .ok (.iload 5, 2) := by decide +kernel
theorem dX1_determinant_100 : decode cX1_determinant 100 = .ok (.iload_n 2, 1) := by decide +kernel
theorem dX1_determinant_101 : decode cX1_determinant 101 = .ok (.if_icmp .ge 43, 3) := by decide +kernel
theorem dX1_determinant_104 : decode cX1_determinant 104 = .ok (.aload_n 0, 1) := by decide +kernel
theorem dX1_determinant_105 : decode cX1_determinant 105 = .ok (.getfield 15, 3) := by decide +kernel
theorem dX1_determinant_108 : decode cX1_determinant 108 = .ok (.iconst 4, 1) := by decide +kernel
theorem dX1_determinant_109 : decode cX1_determinant 109 = .ok (.iload 5, 2) := by decide +kernel
theorem dX1_determinant_111 : decode cX1_determinant 111 = .ok (.imul, 1) := by decide +kernel
theorem dX1_determinant_112 : decode cX1_determinant 112 = .ok (.iload 5, 2) := by decide +kernel
theorem dX1_determinant_114 : decode cX1_determinant 114 = .ok (.iadd, 1) := by decide +kernel
theorem dX1_determinant_115 : decode cX1_determinant 115 = .ok (.laload, 1) := by decide +kernel
theorem dX1_determinant_116 : decode cX1_determinant 116 = .ok (.lstore 6, 2) := by decide +kernel
theorem dX1_determinant_118 : decode cX1_determinant 118 = .ok (.lload 6, 2) := by decide +kernel
theorem dX1_determinant_120 : decode cX1_determinant 120 = .ok (.lconst 0, 1) := by decide +kernel
theorem dX1_determinant_121 : decode cX1_determinant 121 = .ok (.lcmp, 1) := by decide +kernel
theorem dX1_determinant_122 : decode cX1_determinant 122 = .ok (.ifCond .gt 5, 3) := by decide +kernel
theorem dX1_determinant_125 : decode cX1_determinant 125 = .ok (.lconst 0, 1) := by decide +kernel
theorem dX1_determinant_126 : decode cX1_determinant 126 = .ok (.lreturn, 1) := by decide +kernel
theorem dX1_determinant_127 : decode cX1_determinant 127 = .ok (.aload_n 0, 1) := by decide +kernel
theorem dX1_determinant_128 : decode cX1_determinant 128 = .ok (.iload 5, 2) := by decide +kernel
theorem dX1_determinant_130 : decode cX1_determinant 130 = .ok (.iload_n 2, 1) := by decide +kernel
theorem dX1_determinant_131 : decode cX1_determinant 131 = .ok (.lload_n 3, 1) := by decide +kernel
theorem dX1_determinant_132 : decode cX1_determinant 132 = .ok (.invokevirtual 83, 3) := by decide +kernel
theorem dX1_determinant_135 : decode cX1_determinant 135 = .ok (.lload 6, 2) := by decide +kernel
theorem dX1_determinant_137 : decode cX1_determinant 137 = .ok (.lstore_n 3, 1) := by decide +kernel
theorem dX1_determinant_138 : decode cX1_determinant 138 = .ok (.iinc 5 1, 3) := by decide +kernel
theorem dX1_determinant_141 : decode cX1_determinant 141 = .ok (.goto (-43), 3) := by decide +kernel
theorem dX1_determinant_144 : decode cX1_determinant 144 = .ok (.lload_n 3, 1) := by decide +kernel
theorem dX1_determinant_145 : decode cX1_determinant 145 = .ok (.lreturn, 1) := by decide +kernel
abbrev MX1_eliminateBehind : ZM := (yX1_eliminateBehind, cX1_eliminateBehind, 11, (Option.none : Option FieldType), 0, 0)
theorem dX1_eliminateBehind_0 : decode cX1_eliminateBehind 0 = .ok (.lload_n 3, 1) := by decide +kernel
theorem dX1_eliminateBehind_1 : decode cX1_eliminateBehind 1 = .ok (.lconst 0, 1) := by decide +kernel
theorem dX1_eliminateBehind_2 : decode cX1_eliminateBehind 2 = .ok (.lcmp, 1) := by decide +kernel
theorem dX1_eliminateBehind_3 : decode cX1_eliminateBehind 3 = .ok (.ifCond .ne 4, 3) := by decide +kernel
theorem dX1_eliminateBehind_6 : decode cX1_eliminateBehind 6 = .ok (.return_, 1) := by decide +kernel
theorem dX1_eliminateBehind_7 : decode cX1_eliminateBehind 7 = .ok (.aload_n 0, 1) := by decide +kernel
theorem dX1_eliminateBehind_8 : decode cX1_eliminateBehind 8 = .ok (.getfield 15, 3) := by decide +kernel
theorem dX1_eliminateBehind_11 : decode cX1_eliminateBehind 11 = .ok (.iconst 4, 1) := by decide +kernel
theorem dX1_eliminateBehind_12 : decode cX1_eliminateBehind 12 = .ok (.iload_n 1, 1) := by decide +kernel
theorem dX1_eliminateBehind_13 : decode cX1_eliminateBehind 13 = .ok (.imul, 1) := by decide +kernel
theorem dX1_eliminateBehind_14 : decode cX1_eliminateBehind 14 = .ok (.iload_n 1, 1) := by decide +kernel
theorem dX1_eliminateBehind_15 : decode cX1_eliminateBehind 15 = .ok (.iadd, 1) := by decide +kernel
theorem dX1_eliminateBehind_16 : decode cX1_eliminateBehind 16 = .ok (.laload, 1) := by decide +kernel
theorem dX1_eliminateBehind_17 : decode cX1_eliminateBehind 17 = .ok (.lstore 5, 2) := by decide +kernel
theorem dX1_eliminateBehind_19 : decode cX1_eliminateBehind 19 = .ok (.iload_n 1, 1) := by decide +kernel
theorem dX1_eliminateBehind_20 : decode cX1_eliminateBehind 20 = .ok (.iconst 1, 1) := by decide +kernel
theorem dX1_eliminateBehind_21 : decode cX1_eliminateBehind 21 = .ok (.iadd, 1) := by decide +kernel
theorem dX1_eliminateBehind_22 : decode cX1_eliminateBehind 22 = .ok (.istore 7, 2) := by decide +kernel
theorem dX1_eliminateBehind_24 : decode cX1_eliminateBehind 24 = .ok (.iload 7, 2) := by decide +kernel
theorem dX1_eliminateBehind_26 : decode cX1_eliminateBehind 26 = .ok (.iload_n 2, 1) := by decide +kernel
theorem dX1_eliminateBehind_27 : decode cX1_eliminateBehind 27 = .ok (.if_icmp .ge 82, 3) := by decide +kernel
theorem dX1_eliminateBehind_30 : decode cX1_eliminateBehind 30 = .ok (.iload 7, 2) := by decide +kernel
theorem dX1_eliminateBehind_32 : decode cX1_eliminateBehind 32 = .ok (.istore 8, 2) := by decide +kernel
theorem dX1_eliminateBehind_34 : decode cX1_eliminateBehind 34 = .ok (.iload 8, 2) := by decide +kernel
theorem dX1_eliminateBehind_36 : decode cX1_eliminateBehind 36 = .ok (.iload_n 2, 1) := by decide +kernel
theorem dX1_eliminateBehind_37 : decode cX1_eliminateBehind 37 = .ok (.if_icmp .ge 66, 3) := by decide +kernel
theorem dX1_eliminateBehind_40 : decode cX1_eliminateBehind 40 = .ok (.aload_n 0, 1) := by decide +kernel
theorem dX1_eliminateBehind_41 : decode cX1_eliminateBehind 41 = .ok (.getfield 15, 3) := by decide +kernel
theorem dX1_eliminateBehind_44 : decode cX1_eliminateBehind 44 = .ok (.iconst 4, 1) := by decide +kernel
theorem dX1_eliminateBehind_45 : decode cX1_eliminateBehind 45 = .ok (.iload_n 1, 1) := by decide +kernel
theorem dX1_eliminateBehind_46 : decode cX1_eliminateBehind 46 = .ok (.imul, 1) := by decide +kernel
theorem dX1_eliminateBehind_47 : decode cX1_eliminateBehind 47 = .ok (.iload 7, 2) := by decide +kernel
theorem dX1_eliminateBehind_49 : decode cX1_eliminateBehind 49 = .ok (.iadd, 1) := by decide +kernel
theorem dX1_eliminateBehind_50 : decode cX1_eliminateBehind 50 = .ok (.laload, 1) := by decide +kernel
theorem dX1_eliminateBehind_51 : decode cX1_eliminateBehind 51 = .ok (.aload_n 0, 1) := by decide +kernel
theorem dX1_eliminateBehind_52 : decode cX1_eliminateBehind 52 = .ok (.getfield 15, 3) := by decide +kernel
theorem dX1_eliminateBehind_55 : decode cX1_eliminateBehind 55 = .ok (.iconst 4, 1) := by decide +kernel
theorem dX1_eliminateBehind_56 : decode cX1_eliminateBehind 56 = .ok (.iload_n 1, 1) := by decide +kernel
theorem dX1_eliminateBehind_57 : decode cX1_eliminateBehind 57 = .ok (.imul, 1) := by decide +kernel
theorem dX1_eliminateBehind_58 : decode cX1_eliminateBehind 58 = .ok (.iload 8, 2) := by decide +kernel
theorem dX1_eliminateBehind_60 : decode cX1_eliminateBehind 60 = .ok (.iadd, 1) := by decide +kernel
theorem dX1_eliminateBehind_61 : decode cX1_eliminateBehind 61 = .ok (.laload, 1) := by decide +kernel
theorem dX1_eliminateBehind_62 : decode cX1_eliminateBehind 62 = .ok (.lmul, 1) := by decide +kernel
theorem dX1_eliminateBehind_63 : decode cX1_eliminateBehind 63 = .ok (.lstore 9, 2) := by decide +kernel
theorem dX1_eliminateBehind_65 : decode cX1_eliminateBehind 65 = .ok (.aload_n 0, 1) := by decide +kernel
theorem dX1_eliminateBehind_66 : decode cX1_eliminateBehind 66 = .ok (.getfield 15, 3) := by decide +kernel
theorem dX1_eliminateBehind_69 : decode cX1_eliminateBehind 69 = .ok (.iconst 4, 1) := by decide +kernel
theorem dX1_eliminateBehind_70 : decode cX1_eliminateBehind 70 = .ok (.iload 7, 2) := by decide +kernel
theorem dX1_eliminateBehind_72 : decode cX1_eliminateBehind 72 = .ok (.imul, 1) := by decide +kernel
theorem dX1_eliminateBehind_73 : decode cX1_eliminateBehind 73 = .ok (.iload 8, 2) := by decide +kernel
theorem dX1_eliminateBehind_75 : decode cX1_eliminateBehind 75 = .ok (.iadd, 1) := by decide +kernel
theorem dX1_eliminateBehind_76 : decode cX1_eliminateBehind 76 = .ok (.lload 5, 2) := by decide +kernel
theorem dX1_eliminateBehind_78 : decode cX1_eliminateBehind 78 = .ok (.aload_n 0, 1) := by decide +kernel
theorem dX1_eliminateBehind_79 : decode cX1_eliminateBehind 79 = .ok (.getfield 15, 3) := by decide +kernel
theorem dX1_eliminateBehind_82 : decode cX1_eliminateBehind 82 = .ok (.iconst 4, 1) := by decide +kernel
theorem dX1_eliminateBehind_83 : decode cX1_eliminateBehind 83 = .ok (.iload 7, 2) := by decide +kernel
theorem dX1_eliminateBehind_85 : decode cX1_eliminateBehind 85 = .ok (.imul, 1) := by decide +kernel
theorem dX1_eliminateBehind_86 : decode cX1_eliminateBehind 86 = .ok (.iload 8, 2) := by decide +kernel
theorem dX1_eliminateBehind_88 : decode cX1_eliminateBehind 88 = .ok (.iadd, 1) := by decide +kernel
theorem dX1_eliminateBehind_89 : decode cX1_eliminateBehind 89 = .ok (.laload, 1) := by decide +kernel
theorem dX1_eliminateBehind_90 : decode cX1_eliminateBehind 90 = .ok (.lmul, 1) := by decide +kernel
theorem dX1_eliminateBehind_91 : decode cX1_eliminateBehind 91 = .ok (.lload 9, 2) := by decide +kernel
theorem dX1_eliminateBehind_93 : decode cX1_eliminateBehind 93 = .ok (.lsub, 1) := by decide +kernel
theorem dX1_eliminateBehind_94 : decode cX1_eliminateBehind 94 = .ok (.lload_n 3, 1) := by decide +kernel
theorem dX1_eliminateBehind_95 : decode cX1_eliminateBehind 95 = .ok (.ldiv, 1) := by decide +kernel
theorem dX1_eliminateBehind_96 : decode cX1_eliminateBehind 96 = .ok (.lastore, 1) := by decide +kernel
theorem dX1_eliminateBehind_97 : decode cX1_eliminateBehind 97 = .ok (.iinc 8 1, 3) := by decide +kernel
theorem dX1_eliminateBehind_100 : decode cX1_eliminateBehind 100 = .ok (.goto (-66), 3) := by decide +kernel
theorem dX1_eliminateBehind_103 : decode cX1_eliminateBehind 103 = .ok (.iinc 7 1, 3) := by decide +kernel
theorem dX1_eliminateBehind_106 : decode cX1_eliminateBehind 106 = .ok (.goto (-82), 3) := by decide +kernel
theorem dX1_eliminateBehind_109 : decode cX1_eliminateBehind 109 = .ok (.return_, 1) := by decide +kernel
abbrev MX2_init : ZM := (yX2_init, cX2_init, 1, (Option.none : Option FieldType), 1, 40)
theorem dX2_init_0 : decode cX2_init 0 = .ok (.aload_n 0, 1) := by decide +kernel
theorem dX2_init_1 : decode cX2_init 1 = .ok (.invokespecial 3, 3) := by decide +kernel
theorem dX2_init_4 : decode cX2_init 4 = .ok (.aload_n 0, 1) := by decide +kernel
theorem dX2_init_5 : decode cX2_init 5 = .ok (.bipush 16, 2) := by decide +kernel
theorem dX2_init_7 : decode cX2_init 7 = .ok (.newarray .long, 2) := by decide +kernel
theorem dX2_init_9 : decode cX2_init 9 = .ok (.putfield 9, 3) := by decide +kernel
theorem dX2_init_12 : decode cX2_init 12 = .ok (.aload_n 0, 1) := by decide +kernel
theorem dX2_init_13 : decode cX2_init 13 = .ok (.iconst 4, 1) := by decide +kernel
theorem dX2_init_14 : decode cX2_init 14 = .ok (.newarray .long, 2) := by decide +kernel
theorem dX2_init_16 : decode cX2_init 16 = .ok (.putfield 15, 3) := by decide +kernel
theorem dX2_init_19 : decode cX2_init 19 = .ok (.aload_n 0, 1) := by decide +kernel
theorem dX2_init_20 : decode cX2_init 20 = .ok (.iconst 5, 1) := by decide +kernel
theorem dX2_init_21 : decode cX2_init 21 = .ok (.newarray .long, 2) := by decide +kernel
theorem dX2_init_23 : decode cX2_init 23 = .ok (.putfield 18, 3) := by decide +kernel
theorem dX2_init_26 : decode cX2_init 26 = .ok (.aload_n 0, 1) := by decide +kernel
theorem dX2_init_27 : decode cX2_init 27 = .ok (.iconst 4, 1) := by decide +kernel
theorem dX2_init_28 : decode cX2_init 28 = .ok (.newarray .long, 2) := by decide +kernel
theorem dX2_init_30 : decode cX2_init 30 = .ok (.putfield 21, 3) := by decide +kernel
theorem dX2_init_33 : decode cX2_init 33 = .ok (.aload_n 0, 1) := by decide +kernel
theorem dX2_init_34 : decode cX2_init 34 = .ok (.iconst 4, 1) := by decide +kernel
theorem dX2_init_35 : decode cX2_init 35 = .ok (.newarray .int, 2) := by decide +kernel
theorem dX2_init_37 : decode cX2_init 37 = .ok (.putfield 24, 3) := by decide +kernel
theorem dX2_init_40 : decode cX2_init 40 = .ok (.aload_n 0, 1) := by decide +kernel
theorem dX2_init_41 : decode cX2_init 41 = .ok (.iconst 4, 1) := by decide +kernel
theorem dX2_init_42 : decode cX2_init 42 = .ok (.newarray .int, 2) := by decide +kernel
theorem dX2_init_44 : decode cX2_init 44 = .ok (.putfield 28, 3) := by decide +kernel
theorem dX2_init_47 : decode cX2_init 47 = .ok (.return_, 1) := by decide +kernel
abbrev MX2_openWorths : ZM := (yX2_openWorths, cX2_openWorths, 7, (Option.none : Option FieldType), 2, 54)
theorem dX2_openWorths_0 : decode cX2_openWorths 0 = .ok (.aload_n 0, 1) := by decide +kernel
theorem dX2_openWorths_1 : decode cX2_openWorths 1 = .ok (.iload_n 1, 1) := by decide +kernel
theorem dX2_openWorths_2 : decode cX2_openWorths 2 = .ok (.putfield 31, 3) := by decide +kernel
theorem dX2_openWorths_5 : decode cX2_openWorths 5 = .ok (.aload_n 0, 1) := by decide +kernel
theorem dX2_openWorths_6 : decode cX2_openWorths 6 = .ok (.iload_n 3, 1) := by decide +kernel
theorem dX2_openWorths_7 : decode cX2_openWorths 7 = .ok (.putfield 35, 3) := by decide +kernel
theorem dX2_openWorths_10 : decode cX2_openWorths 10 = .ok (.aload_n 0, 1) := by decide +kernel
theorem dX2_openWorths_11 : decode cX2_openWorths 11 = .ok (.iconst 1, 1) := by decide +kernel
theorem dX2_openWorths_12 : decode cX2_openWorths 12 = .ok (.putfield 38, 3) := by decide +kernel
theorem dX2_openWorths_15 : decode cX2_openWorths 15 = .ok (.aload_n 0, 1) := by decide +kernel
theorem dX2_openWorths_16 : decode cX2_openWorths 16 = .ok (.iconst 0, 1) := by decide +kernel
theorem dX2_openWorths_17 : decode cX2_openWorths 17 = .ok (.putfield 42, 3) := by decide +kernel
theorem dX2_openWorths_20 : decode cX2_openWorths 20 = .ok (.iconst 0, 1) := by decide +kernel
theorem dX2_openWorths_21 : decode cX2_openWorths 21 = .ok (.istore 4, 2) := by decide +kernel
theorem dX2_openWorths_23 : decode cX2_openWorths 23 = .ok (.iload 4, 2) := by decide +kernel
theorem dX2_openWorths_25 : decode cX2_openWorths 25 = .ok (.aload_n 0, 1) := by decide +kernel
theorem dX2_openWorths_26 : decode cX2_openWorths 26 = .ok (.getfield 9, 3) := by decide +kernel
theorem dX2_openWorths_29 : decode cX2_openWorths 29 = .ok (.arraylength, 1) := by decide +kernel
theorem dX2_openWorths_30 : decode cX2_openWorths 30 = .ok (.if_icmp .ge 28, 3) := by decide +kernel
theorem dX2_openWorths_33 : decode cX2_openWorths 33 = .ok (.iload 4, 2) := by decide +kernel
theorem dX2_openWorths_35 : decode cX2_openWorths 35 = .ok (.aload_n 2, 1) := by decide +kernel
theorem dX2_openWorths_36 : decode cX2_openWorths 36 = .ok (.arraylength, 1) := by decide +kernel
theorem dX2_openWorths_37 : decode cX2_openWorths 37 = .ok (.if_icmp .ge 21, 3) := by decide +kernel
theorem dX2_openWorths_40 : decode cX2_openWorths 40 = .ok (.aload_n 0, 1) := by decide +kernel
theorem dX2_openWorths_41 : decode cX2_openWorths 41 = .ok (.getfield 9, 3) := by decide +kernel
theorem dX2_openWorths_44 : decode cX2_openWorths 44 = .ok (.iload 4, 2) := by decide +kernel
theorem dX2_openWorths_46 : decode cX2_openWorths 46 = .ok (.aload_n 2, 1) := by decide +kernel
theorem dX2_openWorths_47 : decode cX2_openWorths 47 = .ok (.iload 4, 2) := by decide +kernel
theorem dX2_openWorths_49 : decode cX2_openWorths 49 = .ok (.iaload, 1) := by decide +kernel
theorem dX2_openWorths_50 : decode cX2_openWorths 50 = .ok (.i2l, 1) := by decide +kernel
theorem dX2_openWorths_51 : decode cX2_openWorths 51 = .ok (.lastore, 1) := by decide +kernel
theorem dX2_openWorths_52 : decode cX2_openWorths 52 = .ok (.iinc 4 1, 3) := by decide +kernel
theorem dX2_openWorths_55 : decode cX2_openWorths 55 = .ok (.goto (-32), 3) := by decide +kernel
theorem dX2_openWorths_58 : decode cX2_openWorths 58 = .ok (.lconst 1, 1) := by decide +kernel
theorem dX2_openWorths_59 : decode cX2_openWorths 59 = .ok (.lstore 4, 2) := by decide +kernel
theorem dX2_openWorths_61 : decode cX2_openWorths 61 = .ok (.iload_n 1, 1) := by decide +kernel
theorem dX2_openWorths_62 : decode cX2_openWorths 62 = .ok (.iconst 1, 1) := by decide +kernel
theorem dX2_openWorths_63 : decode cX2_openWorths 63 = .ok (.isub, 1) := by decide +kernel
theorem dX2_openWorths_64 : decode cX2_openWorths 64 = .ok (.istore 6, 2) := by decide +kernel
theorem dX2_openWorths_66 : decode cX2_openWorths 66 = .ok (.iload 6, 2) := by decide +kernel
theorem dX2_openWorths_68 : decode cX2_openWorths 68 = .ok (.ifCond .lt 40, 3) := by decide +kernel
theorem dX2_openWorths_71 : decode cX2_openWorths 71 = .ok (.aload_n 0, 1) := by decide +kernel
theorem dX2_openWorths_72 : decode cX2_openWorths 72 = .ok (.getfield 15, 3) := by decide +kernel
theorem dX2_openWorths_75 : decode cX2_openWorths 75 = .ok (.iload 6, 2) := by decide +kernel
theorem dX2_openWorths_77 : decode cX2_openWorths 77 = .ok (.lload 4, 2) := by decide +kernel
theorem dX2_openWorths_79 : decode cX2_openWorths 79 = .ok (.lastore, 1) := by decide +kernel
theorem dX2_openWorths_80 : decode cX2_openWorths 80 = .ok (.aload_n 0, 1) := by decide +kernel
theorem dX2_openWorths_81 : decode cX2_openWorths 81 = .ok (.iload 6, 2) := by decide +kernel
theorem dX2_openWorths_83 : decode cX2_openWorths 83 = .ok (.lload 4, 2) := by decide +kernel
theorem dX2_openWorths_85 : decode cX2_openWorths 85 = .ok (.invokevirtual 45, 3) := by decide +kernel
theorem dX2_openWorths_88 : decode cX2_openWorths 88 = .ok (.aload_n 0, 1) := by decide +kernel
theorem dX2_openWorths_89 : decode cX2_openWorths 89 = .ok (.getfield 9, 3) := by decide +kernel
theorem dX2_openWorths_92 : decode cX2_openWorths 92 = .ok (.iconst 4, 1) := by decide +kernel
theorem dX2_openWorths_93 : decode cX2_openWorths 93 = .ok (.iload 6, 2) := by decide +kernel
theorem dX2_openWorths_95 : decode cX2_openWorths 95 = .ok (.imul, 1) := by decide +kernel
theorem dX2_openWorths_96 : decode cX2_openWorths 96 = .ok (.iload 6, 2) := by decide +kernel
theorem dX2_openWorths_98 : decode cX2_openWorths 98 = .ok (.iadd, 1) := by decide +kernel
theorem dX2_openWorths_99 : decode cX2_openWorths 99 = .ok (.laload, 1) := by decide +kernel
theorem dX2_openWorths_100 : decode cX2_openWorths 100 = .ok (.lstore 4, 2) := by decide +kernel
theorem dX2_openWorths_102 : decode cX2_openWorths 102 = .ok (.iinc 6 (-1), 3) := by decide +kernel
theorem dX2_openWorths_105 : decode cX2_openWorths 105 = .ok (.goto (-39), 3) := by decide +kernel
theorem dX2_openWorths_108 : decode cX2_openWorths 108 = .ok (.aload_n 0, 1) := by decide +kernel
theorem dX2_openWorths_109 : decode cX2_openWorths 109 = .ok (.getfield 18, 3) := by decide +kernel
theorem dX2_openWorths_112 : decode cX2_openWorths 112 = .ok (.iconst 0, 1) := by decide +kernel
theorem dX2_openWorths_113 : decode cX2_openWorths 113 = .ok (.iload_n 3, 1) := by decide +kernel
theorem dX2_openWorths_114 : decode cX2_openWorths 114 = .ok (.i2l, 1) := by decide +kernel
theorem dX2_openWorths_115 : decode cX2_openWorths 115 = .ok (.lload 4, 2) := by decide +kernel
theorem dX2_openWorths_117 : decode cX2_openWorths 117 = .ok (.lmul, 1) := by decide +kernel
theorem dX2_openWorths_118 : decode cX2_openWorths 118 = .ok (.lastore, 1) := by decide +kernel
theorem dX2_openWorths_119 : decode cX2_openWorths 119 = .ok (.aload_n 0, 1) := by decide +kernel
theorem dX2_openWorths_120 : decode cX2_openWorths 120 = .ok (.iconst 0, 1) := by decide +kernel
theorem dX2_openWorths_121 : decode cX2_openWorths 121 = .ok (.invokevirtual 49, 3) := by decide +kernel
theorem dX2_openWorths_124 : decode cX2_openWorths 124 = .ok (.return_, 1) := by decide +kernel
abbrev MX2_eliminateAhead : ZM := (yX2_eliminateAhead, cX2_eliminateAhead, 10, (Option.none : Option FieldType), 0, 0)
theorem dX2_eliminateAhead_0 : decode cX2_eliminateAhead 0 = .ok (.lload_n 2, 1) := by decide +kernel
theorem dX2_eliminateAhead_1 : decode cX2_eliminateAhead 1 = .ok (.lconst 0, 1) := by decide +kernel
theorem dX2_eliminateAhead_2 : decode cX2_eliminateAhead 2 = .ok (.lcmp, 1) := by decide +kernel
theorem dX2_eliminateAhead_3 : decode cX2_eliminateAhead 3 = .ok (.ifCond .ne 4, 3) := by decide +kernel
theorem dX2_eliminateAhead_6 : decode cX2_eliminateAhead 6 = .ok (.return_, 1) := by decide +kernel
theorem dX2_eliminateAhead_7 : decode cX2_eliminateAhead 7 = .ok (.aload_n 0, 1) := by decide +kernel
theorem dX2_eliminateAhead_8 : decode cX2_eliminateAhead 8 = .ok (.getfield 9, 3) := by decide +kernel
theorem dX2_eliminateAhead_11 : decode cX2_eliminateAhead 11 = .ok (.iconst 4, 1) := by decide +kernel
theorem dX2_eliminateAhead_12 : decode cX2_eliminateAhead 12 = .ok (.iload_n 1, 1) := by decide +kernel
theorem dX2_eliminateAhead_13 : decode cX2_eliminateAhead 13 = .ok (.imul, 1) := by decide +kernel
theorem dX2_eliminateAhead_14 : decode cX2_eliminateAhead 14 = .ok (.iload_n 1, 1) := by decide +kernel
theorem dX2_eliminateAhead_15 : decode cX2_eliminateAhead 15 = .ok (.iadd, 1) := by decide +kernel
theorem dX2_eliminateAhead_16 : decode cX2_eliminateAhead 16 = .ok (.laload, 1) := by decide +kernel
theorem dX2_eliminateAhead_17 : decode cX2_eliminateAhead 17 = .ok (.lstore 4, 2) := by decide +kernel
theorem dX2_eliminateAhead_19 : decode cX2_eliminateAhead 19 = .ok (.iconst 0, 1) := by decide +kernel
theorem dX2_eliminateAhead_20 : decode cX2_eliminateAhead 20 = .ok (.istore 6, 2) := by decide +kernel
theorem dX2_eliminateAhead_22 : decode cX2_eliminateAhead 22 = .ok (.iload 6, 2) := by decide +kernel
theorem dX2_eliminateAhead_24 : decode cX2_eliminateAhead 24 = .ok (.iload_n 1, 1) := by decide +kernel
theorem dX2_eliminateAhead_25 : decode cX2_eliminateAhead 25 = .ok (.if_icmp .ge 82, 3) := by decide +kernel
theorem dX2_eliminateAhead_28 : decode cX2_eliminateAhead 28 = .ok (.iconst 0, 1) := by decide +kernel
theorem dX2_eliminateAhead_29 : decode cX2_eliminateAhead 29 = .ok (.istore 7, 2) := by decide +kernel
theorem dX2_eliminateAhead_31 : decode cX2_eliminateAhead 31 = .ok (.iload 7, 2) := by decide +kernel
theorem dX2_eliminateAhead_33 : decode cX2_eliminateAhead 33 = .ok (.iload 6, 2) := by decide +kernel
theorem dX2_eliminateAhead_35 : decode cX2_eliminateAhead 35 = .ok (.if_icmp .gt 66, 3) := by decide +kernel
theorem dX2_eliminateAhead_38 : decode cX2_eliminateAhead 38 = .ok (.aload_n 0, 1) := by decide +kernel
theorem dX2_eliminateAhead_39 : decode cX2_eliminateAhead 39 = .ok (.getfield 9, 3) := by decide +kernel
theorem dX2_eliminateAhead_42 : decode cX2_eliminateAhead 42 = .ok (.iconst 4, 1) := by decide +kernel
theorem dX2_eliminateAhead_43 : decode cX2_eliminateAhead 43 = .ok (.iload_n 1, 1) := by decide +kernel
theorem dX2_eliminateAhead_44 : decode cX2_eliminateAhead 44 = .ok (.imul, 1) := by decide +kernel
theorem dX2_eliminateAhead_45 : decode cX2_eliminateAhead 45 = .ok (.iload 6, 2) := by decide +kernel
theorem dX2_eliminateAhead_47 : decode cX2_eliminateAhead 47 = .ok (.iadd, 1) := by decide +kernel
theorem dX2_eliminateAhead_48 : decode cX2_eliminateAhead 48 = .ok (.laload, 1) := by decide +kernel
theorem dX2_eliminateAhead_49 : decode cX2_eliminateAhead 49 = .ok (.aload_n 0, 1) := by decide +kernel
theorem dX2_eliminateAhead_50 : decode cX2_eliminateAhead 50 = .ok (.getfield 9, 3) := by decide +kernel
theorem dX2_eliminateAhead_53 : decode cX2_eliminateAhead 53 = .ok (.iconst 4, 1) := by decide +kernel
theorem dX2_eliminateAhead_54 : decode cX2_eliminateAhead 54 = .ok (.iload_n 1, 1) := by decide +kernel
theorem dX2_eliminateAhead_55 : decode cX2_eliminateAhead 55 = .ok (.imul, 1) := by decide +kernel
theorem dX2_eliminateAhead_56 : decode cX2_eliminateAhead 56 = .ok (.iload 7, 2) := by decide +kernel
theorem dX2_eliminateAhead_58 : decode cX2_eliminateAhead 58 = .ok (.iadd, 1) := by decide +kernel
theorem dX2_eliminateAhead_59 : decode cX2_eliminateAhead 59 = .ok (.laload, 1) := by decide +kernel
theorem dX2_eliminateAhead_60 : decode cX2_eliminateAhead 60 = .ok (.lmul, 1) := by decide +kernel
theorem dX2_eliminateAhead_61 : decode cX2_eliminateAhead 61 = .ok (.lstore 8, 2) := by decide +kernel
theorem dX2_eliminateAhead_63 : decode cX2_eliminateAhead 63 = .ok (.aload_n 0, 1) := by decide +kernel
theorem dX2_eliminateAhead_64 : decode cX2_eliminateAhead 64 = .ok (.getfield 9, 3) := by decide +kernel
theorem dX2_eliminateAhead_67 : decode cX2_eliminateAhead 67 = .ok (.iconst 4, 1) := by decide +kernel
theorem dX2_eliminateAhead_68 : decode cX2_eliminateAhead 68 = .ok (.iload 6, 2) := by decide +kernel
theorem dX2_eliminateAhead_70 : decode cX2_eliminateAhead 70 = .ok (.imul, 1) := by decide +kernel
theorem dX2_eliminateAhead_71 : decode cX2_eliminateAhead 71 = .ok (.iload 7, 2) := by decide +kernel
theorem dX2_eliminateAhead_73 : decode cX2_eliminateAhead 73 = .ok (.iadd, 1) := by decide +kernel
theorem dX2_eliminateAhead_74 : decode cX2_eliminateAhead 74 = .ok (.lload 4, 2) := by decide +kernel
theorem dX2_eliminateAhead_76 : decode cX2_eliminateAhead 76 = .ok (.aload_n 0, 1) := by decide +kernel
theorem dX2_eliminateAhead_77 : decode cX2_eliminateAhead 77 = .ok (.getfield 9, 3) := by decide +kernel
theorem dX2_eliminateAhead_80 : decode cX2_eliminateAhead 80 = .ok (.iconst 4, 1) := by decide +kernel
theorem dX2_eliminateAhead_81 : decode cX2_eliminateAhead 81 = .ok (.iload 6, 2) := by decide +kernel
theorem dX2_eliminateAhead_83 : decode cX2_eliminateAhead 83 = .ok (.imul, 1) := by decide +kernel
theorem dX2_eliminateAhead_84 : decode cX2_eliminateAhead 84 = .ok (.iload 7, 2) := by decide +kernel
theorem dX2_eliminateAhead_86 : decode cX2_eliminateAhead 86 = .ok (.iadd, 1) := by decide +kernel
theorem dX2_eliminateAhead_87 : decode cX2_eliminateAhead 87 = .ok (.laload, 1) := by decide +kernel
theorem dX2_eliminateAhead_88 : decode cX2_eliminateAhead 88 = .ok (.lmul, 1) := by decide +kernel
theorem dX2_eliminateAhead_89 : decode cX2_eliminateAhead 89 = .ok (.lload 8, 2) := by decide +kernel
theorem dX2_eliminateAhead_91 : decode cX2_eliminateAhead 91 = .ok (.lsub, 1) := by decide +kernel
theorem dX2_eliminateAhead_92 : decode cX2_eliminateAhead 92 = .ok (.lload_n 2, 1) := by decide +kernel
theorem dX2_eliminateAhead_93 : decode cX2_eliminateAhead 93 = .ok (.ldiv, 1) := by decide +kernel
theorem dX2_eliminateAhead_94 : decode cX2_eliminateAhead 94 = .ok (.lastore, 1) := by decide +kernel
theorem dX2_eliminateAhead_95 : decode cX2_eliminateAhead 95 = .ok (.iinc 7 1, 3) := by decide +kernel
theorem dX2_eliminateAhead_98 : decode cX2_eliminateAhead 98 = .ok (.goto (-67), 3) := by decide +kernel
theorem dX2_eliminateAhead_101 : decode cX2_eliminateAhead 101 = .ok (.iinc 6 1, 3) := by decide +kernel
theorem dX2_eliminateAhead_104 : decode cX2_eliminateAhead 104 = .ok (.goto (-82), 3) := by decide +kernel
theorem dX2_eliminateAhead_107 : decode cX2_eliminateAhead 107 = .ok (.return_, 1) := by decide +kernel
abbrev MX2_openRows : ZM := (yX2_openRows, cX2_openRows, 13, (Option.none : Option FieldType), 2, 54)
theorem dX2_openRows_0 : decode cX2_openRows 0 = .ok (.aload_n 0, 1) := by decide +kernel
theorem dX2_openRows_1 : decode cX2_openRows 1 = .ok (.aload_n 1, 1) := by decide +kernel
theorem dX2_openRows_2 : decode cX2_openRows 2 = .ok (.getfield 53, 3) := by decide +kernel
theorem dX2_openRows_5 : decode cX2_openRows 5 = .ok (.iconst 3, 1) := by decide +kernel
theorem dX2_openRows_6 : decode cX2_openRows 6 = .ok (.invokestatic 56, 3) := by decide +kernel
theorem dX2_openRows_9 : decode cX2_openRows 9 = .ok (.putfield 31, 3) := by decide +kernel
theorem dX2_openRows_12 : decode cX2_openRows 12 = .ok (.aload_n 0, 1) := by decide +kernel
theorem dX2_openRows_13 : decode cX2_openRows 13 = .ok (.iload_n 2, 1) := by decide +kernel
theorem dX2_openRows_14 : decode cX2_openRows 14 = .ok (.putfield 35, 3) := by decide +kernel
theorem dX2_openRows_17 : decode cX2_openRows 17 = .ok (.aload_n 0, 1) := by decide +kernel
theorem dX2_openRows_18 : decode cX2_openRows 18 = .ok (.iconst 0, 1) := by decide +kernel
theorem dX2_openRows_19 : decode cX2_openRows 19 = .ok (.putfield 38, 3) := by decide +kernel
theorem dX2_openRows_22 : decode cX2_openRows 22 = .ok (.aload_n 0, 1) := by decide +kernel
theorem dX2_openRows_23 : decode cX2_openRows 23 = .ok (.iconst 1, 1) := by decide +kernel
theorem dX2_openRows_24 : decode cX2_openRows 24 = .ok (.putfield 42, 3) := by decide +kernel
theorem dX2_openRows_27 : decode cX2_openRows 27 = .ok (.aload_n 1, 1) := by decide +kernel
theorem dX2_openRows_28 : decode cX2_openRows 28 = .ok (.getfield 62, 3) := by decide +kernel
theorem dX2_openRows_31 : decode cX2_openRows 31 = .ok (.iconst 0, 1) := by decide +kernel
theorem dX2_openRows_32 : decode cX2_openRows 32 = .ok (.iaload, 1) := by decide +kernel
theorem dX2_openRows_33 : decode cX2_openRows 33 = .ok (.i2l, 1) := by decide +kernel
theorem dX2_openRows_34 : decode cX2_openRows 34 = .ok (.lstore_n 3, 1) := by decide +kernel
theorem dX2_openRows_35 : decode cX2_openRows 35 = .ok (.aload_n 1, 1) := by decide +kernel
theorem dX2_openRows_36 : decode cX2_openRows 36 = .ok (.getfield 62, 3) := by decide +kernel
theorem dX2_openRows_39 : decode cX2_openRows 39 = .ok (.iconst 4, 1) := by decide +kernel
theorem dX2_openRows_40 : decode cX2_openRows 40 = .ok (.iaload, 1) := by decide +kernel
theorem dX2_openRows_41 : decode cX2_openRows 41 = .ok (.i2l, 1) := by decide +kernel
theorem dX2_openRows_42 : decode cX2_openRows 42 = .ok (.lstore 5, 2) := by decide +kernel
theorem dX2_openRows_44 : decode cX2_openRows 44 = .ok (.aload_n 1, 1) := by decide +kernel
theorem dX2_openRows_45 : decode cX2_openRows 45 = .ok (.getfield 62, 3) := by decide +kernel
theorem dX2_openRows_48 : decode cX2_openRows 48 = .ok (.iconst 5, 1) := by decide +kernel
theorem dX2_openRows_49 : decode cX2_openRows 49 = .ok (.iaload, 1) := by decide +kernel
theorem dX2_openRows_50 : decode cX2_openRows 50 = .ok (.i2l, 1) := by decide +kernel
theorem dX2_openRows_51 : decode cX2_openRows 51 = .ok (.lstore 7, 2) := by decide +kernel
theorem dX2_openRows_53 : decode cX2_openRows 53 = .ok (.aload_n 1, 1) := by decide +kernel
theorem dX2_openRows_54 : decode cX2_openRows 54 = .ok (.getfield 62, 3) := by decide +kernel
theorem dX2_openRows_57 : decode cX2_openRows 57 = .ok (.bipush 8, 2) := by decide +kernel
theorem dX2_openRows_59 : decode cX2_openRows 59 = .ok (.iaload, 1) := by decide +kernel
theorem dX2_openRows_60 : decode cX2_openRows 60 = .ok (.i2l, 1) := by decide +kernel
theorem dX2_openRows_61 : decode cX2_openRows 61 = .ok (.lstore 9, 2) := by decide +kernel
theorem dX2_openRows_63 : decode cX2_openRows 63 = .ok (.aload_n 1, 1) := by decide +kernel
theorem dX2_openRows_64 : decode cX2_openRows 64 = .ok (.getfield 62, 3) := by decide +kernel
theorem dX2_openRows_67 : decode cX2_openRows 67 = .ok (.bipush 9, 2) := by decide +kernel
theorem dX2_openRows_69 : decode cX2_openRows 69 = .ok (.iaload, 1) := by decide +kernel
theorem dX2_openRows_70 : decode cX2_openRows 70 = .ok (.i2l, 1) := by decide +kernel
theorem dX2_openRows_71 : decode cX2_openRows 71 = .ok (.lstore 11, 2) := by decide +kernel
theorem dX2_openRows_73 : decode cX2_openRows 73 = .ok (.aload_n 0, 1) := by decide +kernel
theorem dX2_openRows_74 : decode cX2_openRows 74 = .ok (.getfield 9, 3) := by decide +kernel
theorem dX2_openRows_77 : decode cX2_openRows 77 = .ok (.iconst 0, 1) := by decide +kernel
theorem dX2_openRows_78 : decode cX2_openRows 78 = .ok (.lconst 1, 1) := by decide +kernel
theorem dX2_openRows_79 : decode cX2_openRows 79 = .ok (.lastore, 1) := by decide +kernel
theorem dX2_openRows_80 : decode cX2_openRows 80 = .ok (.aload_n 0, 1) := by decide +kernel
theorem dX2_openRows_81 : decode cX2_openRows 81 = .ok (.getfield 9, 3) := by decide +kernel
theorem dX2_openRows_84 : decode cX2_openRows 84 = .ok (.iconst 4, 1) := by decide +kernel
theorem dX2_openRows_85 : decode cX2_openRows 85 = .ok (.lload 5, 2) := by decide +kernel
theorem dX2_openRows_87 : decode cX2_openRows 87 = .ok (.lneg, 1) := by decide +kernel
theorem dX2_openRows_88 : decode cX2_openRows 88 = .ok (.lastore, 1) := by decide +kernel
theorem dX2_openRows_89 : decode cX2_openRows 89 = .ok (.aload_n 0, 1) := by decide +kernel
theorem dX2_openRows_90 : decode cX2_openRows 90 = .ok (.getfield 9, 3) := by decide +kernel
theorem dX2_openRows_93 : decode cX2_openRows 93 = .ok (.iconst 5, 1) := by decide +kernel
theorem dX2_openRows_94 : decode cX2_openRows 94 = .ok (.lload_n 3, 1) := by decide +kernel
theorem dX2_openRows_95 : decode cX2_openRows 95 = .ok (.lastore, 1) := by decide +kernel
theorem dX2_openRows_96 : decode cX2_openRows 96 = .ok (.aload_n 0, 1) := by decide +kernel
theorem dX2_openRows_97 : decode cX2_openRows 97 = .ok (.getfield 9, 3) := by decide +kernel
theorem dX2_openRows_100 : decode cX2_openRows 100 = .ok (.bipush 8, 2) := by decide +kernel
theorem dX2_openRows_102 : decode cX2_openRows 102 = .ok (.lload 5, 2) := by decide +kernel
theorem dX2_openRows_104 : decode cX2_openRows 104 = .ok (.lload 11, 2) := by decide +kernel
theorem dX2_openRows_106 : decode cX2_openRows 106 = .ok (.lmul, 1) := by decide +kernel
theorem dX2_openRows_107 : decode cX2_openRows 107 = .ok (.lload 7, 2) := by decide +kernel
theorem dX2_openRows_109 : decode cX2_openRows 109 = .ok (.lload 9, 2) := by decide +kernel
theorem dX2_openRows_111 : decode cX2_openRows 111 = .ok (.lmul, 1) := by decide +kernel
theorem dX2_openRows_112 : decode cX2_openRows 112 = .ok (.lsub, 1) := by decide +kernel
theorem dX2_openRows_113 : decode cX2_openRows 113 = .ok (.lastore, 1) := by decide +kernel
theorem dX2_openRows_114 : decode cX2_openRows 114 = .ok (.aload_n 0, 1) := by decide +kernel
theorem dX2_openRows_115 : decode cX2_openRows 115 = .ok (.getfield 9, 3) := by decide +kernel
theorem dX2_openRows_118 : decode cX2_openRows 118 = .ok (.bipush 9, 2) := by decide +kernel
theorem dX2_openRows_120 : decode cX2_openRows 120 = .ok (.lload 5, 2) := by decide +kernel
theorem dX2_openRows_122 : decode cX2_openRows 122 = .ok (.lload 9, 2) := by decide +kernel
theorem dX2_openRows_124 : decode cX2_openRows 124 = .ok (.lmul, 1) := by decide +kernel
theorem dX2_openRows_125 : decode cX2_openRows 125 = .ok (.lload_n 3, 1) := by decide +kernel
theorem dX2_openRows_126 : decode cX2_openRows 126 = .ok (.lload 11, 2) := by decide +kernel
theorem dX2_openRows_128 : decode cX2_openRows 128 = .ok (.lmul, 1) := by decide +kernel
theorem dX2_openRows_129 : decode cX2_openRows 129 = .ok (.lsub, 1) := by decide +kernel
theorem dX2_openRows_130 : decode cX2_openRows 130 = .ok (.lastore, 1) := by decide +kernel
theorem dX2_openRows_131 : decode cX2_openRows 131 = .ok (.aload_n 0, 1) := by decide +kernel
theorem dX2_openRows_132 : decode cX2_openRows 132 = .ok (.getfield 9, 3) := by decide +kernel
theorem dX2_openRows_135 : decode cX2_openRows 135 = .ok (.bipush 10, 2) := by decide +kernel
theorem dX2_openRows_137 : decode cX2_openRows 137 = .ok (.lload_n 3, 1) := by decide +kernel
theorem dX2_openRows_138 : decode cX2_openRows 138 = .ok (.lload 7, 2) := by decide +kernel
theorem dX2_openRows_140 : decode cX2_openRows 140 = .ok (.lmul, 1) := by decide +kernel
theorem dX2_openRows_141 : decode cX2_openRows 141 = .ok (.lload 5, 2) := by decide +kernel
theorem dX2_openRows_143 : decode cX2_openRows 143 = .ok (.lload 5, 2) := by decide +kernel
theorem dX2_openRows_145 : decode cX2_openRows 145 = .ok (.lmul, 1) := by decide +kernel
theorem dX2_openRows_146 : decode cX2_openRows 146 = .ok (.lsub, 1) := by decide +kernel
theorem dX2_openRows_147 : decode cX2_openRows 147 = .ok (.lastore, 1) := by decide +kernel
theorem dX2_openRows_148 : decode cX2_openRows 148 = .ok (.aload_n 0, 1) := by decide +kernel
theorem dX2_openRows_149 : decode cX2_openRows 149 = .ok (.getfield 15, 3) := by decide +kernel
theorem dX2_openRows_152 : decode cX2_openRows 152 = .ok (.iconst 0, 1) := by decide +kernel
theorem dX2_openRows_153 : decode cX2_openRows 153 = .ok (.lload_n 3, 1) := by decide +kernel
theorem dX2_openRows_154 : decode cX2_openRows 154 = .ok (.lastore, 1) := by decide +kernel
theorem dX2_openRows_155 : decode cX2_openRows 155 = .ok (.aload_n 0, 1) := by decide +kernel
theorem dX2_openRows_156 : decode cX2_openRows 156 = .ok (.getfield 15, 3) := by decide +kernel
theorem dX2_openRows_159 : decode cX2_openRows 159 = .ok (.iconst 1, 1) := by decide +kernel
theorem dX2_openRows_160 : decode cX2_openRows 160 = .ok (.lload_n 3, 1) := by decide +kernel
theorem dX2_openRows_161 : decode cX2_openRows 161 = .ok (.lload 7, 2) := by decide +kernel
theorem dX2_openRows_163 : decode cX2_openRows 163 = .ok (.lmul, 1) := by decide +kernel
theorem dX2_openRows_164 : decode cX2_openRows 164 = .ok (.lload 5, 2) := by decide +kernel
theorem dX2_openRows_166 : decode cX2_openRows 166 = .ok (.lload 5, 2) := by decide +kernel
theorem dX2_openRows_168 : decode cX2_openRows 168 = .ok (.lmul, 1) := by decide +kernel
theorem dX2_openRows_169 : decode cX2_openRows 169 = .ok (.lsub, 1) := by decide +kernel
theorem dX2_openRows_170 : decode cX2_openRows 170 = .ok (.lastore, 1) := by decide +kernel
theorem dX2_openRows_171 : decode cX2_openRows 171 = .ok (.aload_n 0, 1) := by decide +kernel
theorem dX2_openRows_172 : decode cX2_openRows 172 = .ok (.getfield 15, 3) := by decide +kernel
theorem dX2_openRows_175 : decode cX2_openRows 175 = .ok (.iconst 2, 1) := by decide +kernel
theorem dX2_openRows_176 : decode cX2_openRows 176 = .ok (.aload_n 1, 1) := by decide +kernel
theorem dX2_openRows_177 : decode cX2_openRows 177 = .ok (.getfield 65, 3) := by decide +kernel
theorem dX2_openRows_180 : decode cX2_openRows 180 = .ok (.i2l, 1) := by decide +kernel
theorem dX2_openRows_181 : decode cX2_openRows 181 = .ok (.lastore, 1) := by decide +kernel
theorem dX2_openRows_182 : decode cX2_openRows 182 = .ok (.aload_n 0, 1) := by decide +kernel
theorem dX2_openRows_183 : decode cX2_openRows 183 = .ok (.getfield 18, 3) := by decide +kernel
theorem dX2_openRows_186 : decode cX2_openRows 186 = .ok (.iconst 0, 1) := by decide +kernel
theorem dX2_openRows_187 : decode cX2_openRows 187 = .ok (.iload_n 2, 1) := by decide +kernel
theorem dX2_openRows_188 : decode cX2_openRows 188 = .ok (.i2l, 1) := by decide +kernel
theorem dX2_openRows_189 : decode cX2_openRows 189 = .ok (.lastore, 1) := by decide +kernel
theorem dX2_openRows_190 : decode cX2_openRows 190 = .ok (.aload_n 0, 1) := by decide +kernel
theorem dX2_openRows_191 : decode cX2_openRows 191 = .ok (.iconst 0, 1) := by decide +kernel
theorem dX2_openRows_192 : decode cX2_openRows 192 = .ok (.invokevirtual 49, 3) := by decide +kernel
theorem dX2_openRows_195 : decode cX2_openRows 195 = .ok (.return_, 1) := by decide +kernel
abbrev MX2_enter : ZM := (yX2_enter, cX2_enter, 9, (Option.none : Option FieldType), 1, 26)
theorem dX2_enter_0 : decode cX2_enter 0 = .ok (.aload_n 0, 1) := by decide +kernel
theorem dX2_enter_1 : decode cX2_enter 1 = .ok (.iload_n 1, 1) := by decide +kernel
theorem dX2_enter_2 : decode cX2_enter 2 = .ok (.putfield 68, 3) := by decide +kernel
theorem dX2_enter_5 : decode cX2_enter 5 = .ok (.lconst 0, 1) := by decide +kernel
theorem dX2_enter_6 : decode cX2_enter 6 = .ok (.lstore_n 2, 1) := by decide +kernel
theorem dX2_enter_7 : decode cX2_enter 7 = .ok (.iconst 1, 1) := by decide +kernel
theorem dX2_enter_8 : decode cX2_enter 8 = .ok (.istore 4, 2) := by decide +kernel
theorem dX2_enter_10 : decode cX2_enter 10 = .ok (.iconst 0, 1) := by decide +kernel
theorem dX2_enter_11 : decode cX2_enter 11 = .ok (.istore 5, 2) := by decide +kernel
theorem dX2_enter_13 : decode cX2_enter 13 = .ok (.iload 5, 2) := by decide +kernel
theorem dX2_enter_15 : decode cX2_enter 15 = .ok (.iload_n 1, 1) := by decide +kernel
theorem dX2_enter_16 : decode cX2_enter 16 = .ok (.if_icmp .ge 54, 3) := by decide +kernel
theorem dX2_enter_19 : decode cX2_enter 19 = .ok (.lload_n 2, 1) := by decide +kernel
theorem dX2_enter_20 : decode cX2_enter 20 = .ok (.aload_n 0, 1) := by decide +kernel
theorem dX2_enter_21 : decode cX2_enter 21 = .ok (.getfield 9, 3) := by decide +kernel
theorem dX2_enter_24 : decode cX2_enter 24 = .ok (.iconst 4, 1) := by decide +kernel
theorem dX2_enter_25 : decode cX2_enter 25 = .ok (.iload_n 1, 1) := by decide +kernel
theorem dX2_enter_26 : decode cX2_enter 26 = .ok (.imul, 1) := by decide +kernel
theorem dX2_enter_27 : decode cX2_enter 27 = .ok (.iload 5, 2) := by decide +kernel
theorem dX2_enter_29 : decode cX2_enter 29 = .ok (.iadd, 1) := by decide +kernel
theorem dX2_enter_30 : decode cX2_enter 30 = .ok (.laload, 1) := by decide +kernel
theorem dX2_enter_31 : decode cX2_enter 31 = .ok (.aload_n 0, 1) := by decide +kernel
theorem dX2_enter_32 : decode cX2_enter 32 = .ok (.getfield 24, 3) := by decide +kernel
theorem dX2_enter_35 : decode cX2_enter 35 = .ok (.iload 5, 2) := by decide +kernel
theorem dX2_enter_37 : decode cX2_enter 37 = .ok (.iaload, 1) := by decide +kernel
theorem dX2_enter_38 : decode cX2_enter 38 = .ok (.i2l, 1) := by decide +kernel
theorem dX2_enter_39 : decode cX2_enter 39 = .ok (.lmul, 1) := by decide +kernel
theorem dX2_enter_40 : decode cX2_enter 40 = .ok (.ladd, 1) := by decide +kernel
theorem dX2_enter_41 : decode cX2_enter 41 = .ok (.lstore_n 2, 1) := by decide +kernel
theorem dX2_enter_42 : decode cX2_enter 42 = .ok (.iload 4, 2) := by decide +kernel
theorem dX2_enter_44 : decode cX2_enter 44 = .ok (.ifCond .eq 17, 3) := by decide +kernel
theorem dX2_enter_47 : decode cX2_enter 47 = .ok (.aload_n 0, 1) := by decide +kernel
theorem dX2_enter_48 : decode cX2_enter 48 = .ok (.getfield 24, 3) := by decide +kernel
theorem dX2_enter_51 : decode cX2_enter 51 = .ok (.iload 5, 2) := by decide +kernel
theorem dX2_enter_53 : decode cX2_enter 53 = .ok (.iaload, 1) := by decide +kernel
theorem dX2_enter_54 : decode cX2_enter 54 = .ok (.ifCond .ne 7, 3) := by decide +kernel
theorem dX2_enter_57 : decode cX2_enter 57 = .ok (.iconst 1, 1) := by decide +kernel
theorem dX2_enter_58 : decode cX2_enter 58 = .ok (.goto 4, 3) := by decide +kernel
theorem dX2_enter_61 : decode cX2_enter 61 = .ok (.iconst 0, 1) := by decide +kernel
theorem dX2_enter_62 : decode cX2_enter 62 = .ok (.istore 4, 2) := by decide +kernel
theorem dX2_enter_64 : decode cX2_enter 64 = .ok (.iinc 5 1, 3) := by decide +kernel
theorem dX2_enter_67 : decode cX2_enter 67 = .ok (.goto (-54), 3) := by decide +kernel
theorem dX2_enter_70 : decode cX2_enter 70 = .ok (.aload_n 0, 1) := by decide +kernel
theorem dX2_enter_71 : decode cX2_enter 71 = .ok (.getfield 21, 3) := by decide +kernel
theorem dX2_enter_74 : decode cX2_enter 74 = .ok (.iload_n 1, 1) := by decide +kernel
theorem dX2_enter_75 : decode cX2_enter 75 = .ok (.lload_n 2, 1) := by decide +kernel
theorem dX2_enter_76 : decode cX2_enter 76 = .ok (.lastore, 1) := by decide +kernel
theorem dX2_enter_77 : decode cX2_enter 77 = .ok (.aload_n 0, 1) := by decide +kernel
theorem dX2_enter_78 : decode cX2_enter 78 = .ok (.getfield 9, 3) := by decide +kernel
theorem dX2_enter_81 : decode cX2_enter 81 = .ok (.iconst 4, 1) := by decide +kernel
theorem dX2_enter_82 : decode cX2_enter 82 = .ok (.iload_n 1, 1) := by decide +kernel
theorem dX2_enter_83 : decode cX2_enter 83 = .ok (.imul, 1) := by decide +kernel
theorem dX2_enter_84 : decode cX2_enter 84 = .ok (.iload_n 1, 1) := by decide +kernel
theorem dX2_enter_85 : decode cX2_enter 85 = .ok (.iadd, 1) := by decide +kernel
theorem dX2_enter_86 : decode cX2_enter 86 = .ok (.laload, 1) := by decide +kernel
theorem dX2_enter_87 : decode cX2_enter 87 = .ok (.lstore 5, 2) := by decide +kernel
theorem dX2_enter_89 : decode cX2_enter 89 = .ok (.lload 5, 2) := by decide +kernel
theorem dX2_enter_91 : decode cX2_enter 91 = .ok (.lconst 0, 1) := by decide +kernel
theorem dX2_enter_92 : decode cX2_enter 92 = .ok (.lcmp, 1) := by decide +kernel
theorem dX2_enter_93 : decode cX2_enter 93 = .ok (.ifCond .gt 18, 3) := by decide +kernel
theorem dX2_enter_96 : decode cX2_enter 96 = .ok (.aload_n 0, 1) := by decide +kernel
theorem dX2_enter_97 : decode cX2_enter 97 = .ok (.getfield 24, 3) := by decide +kernel
theorem dX2_enter_100 : decode cX2_enter 100 = .ok (.iload_n 1, 1) := by decide +kernel
theorem dX2_enter_101 : decode cX2_enter 101 = .ok (.iconst 0, 1) := by decide +kernel
theorem dX2_enter_102 : decode cX2_enter 102 = .ok (.iastore, 1) := by decide +kernel
theorem dX2_enter_103 : decode cX2_enter 103 = .ok (.aload_n 0, 1) := by decide +kernel
theorem dX2_enter_104 : decode cX2_enter 104 = .ok (.getfield 28, 3) := by decide +kernel
theorem dX2_enter_107 : decode cX2_enter 107 = .ok (.iload_n 1, 1) := by decide +kernel
theorem dX2_enter_108 : decode cX2_enter 108 = .ok (.iconst 0, 1) := by decide +kernel
theorem dX2_enter_109 : decode cX2_enter 109 = .ok (.iastore, 1) := by decide +kernel
theorem dX2_enter_110 : decode cX2_enter 110 = .ok (.return_, 1) := by decide +kernel
theorem dX2_enter_111 : decode cX2_enter 111 = .ok (.aload_n 0, 1) := by decide +kernel
theorem dX2_enter_112 : decode cX2_enter 112 = .ok (.getfield 15, 3) := by decide +kernel
theorem dX2_enter_115 : decode cX2_enter 115 = .ok (.iload_n 1, 1) := by decide +kernel
theorem dX2_enter_116 : decode cX2_enter 116 = .ok (.laload, 1) := by decide +kernel
theorem dX2_enter_117 : decode cX2_enter 117 = .ok (.aload_n 0, 1) := by decide +kernel
theorem dX2_enter_118 : decode cX2_enter 118 = .ok (.getfield 18, 3) := by decide +kernel
theorem dX2_enter_121 : decode cX2_enter 121 = .ok (.iload_n 1, 1) := by decide +kernel
theorem dX2_enter_122 : decode cX2_enter 122 = .ok (.laload, 1) := by decide +kernel
theorem dX2_enter_123 : decode cX2_enter 123 = .ok (.lmul, 1) := by decide +kernel
theorem dX2_enter_124 : decode cX2_enter 124 = .ok (.aload_n 0, 1) := by decide +kernel
theorem dX2_enter_125 : decode cX2_enter 125 = .ok (.getfield 42, 3) := by decide +kernel
theorem dX2_enter_128 : decode cX2_enter 128 = .ok (.i2l, 1) := by decide +kernel
theorem dX2_enter_129 : decode cX2_enter 129 = .ok (.lsub, 1) := by decide +kernel
theorem dX2_enter_130 : decode cX2_enter 130 = .ok (.invokestatic 71, 3) := by decide +kernel
theorem dX2_enter_133 : decode cX2_enter 133 = .ok (.lstore 7, 2) := by decide +kernel
theorem dX2_enter_135 : decode cX2_enter 135 = .ok (.aload_n 0, 1) := by decide +kernel
theorem dX2_enter_136 : decode cX2_enter 136 = .ok (.getfield 24, 3) := by decide +kernel
theorem dX2_enter_139 : decode cX2_enter 139 = .ok (.iload_n 1, 1) := by decide +kernel
theorem dX2_enter_140 : decode cX2_enter 140 = .ok (.lload 7, 2) := by decide +kernel
theorem dX2_enter_142 : decode cX2_enter 142 = .ok (.lload_n 2, 1) := by decide +kernel
theorem dX2_enter_143 : decode cX2_enter 143 = .ok (.lsub, 1) := by decide +kernel
theorem dX2_enter_144 : decode cX2_enter 144 = .ok (.lload 5, 2) := by decide +kernel
theorem dX2_enter_146 : decode cX2_enter 146 = .ok (.invokestatic 75, 3) := by decide +kernel
theorem dX2_enter_149 : decode cX2_enter 149 = .ok (.l2i, 1) := by decide +kernel
theorem dX2_enter_150 : decode cX2_enter 150 = .ok (.iconst 1, 1) := by decide +kernel
theorem dX2_enter_151 : decode cX2_enter 151 = .ok (.iadd, 1) := by decide +kernel
theorem dX2_enter_152 : decode cX2_enter 152 = .ok (.iastore, 1) := by decide +kernel
theorem dX2_enter_153 : decode cX2_enter 153 = .ok (.aload_n 0, 1) := by decide +kernel
theorem dX2_enter_154 : decode cX2_enter 154 = .ok (.getfield 28, 3) := by decide +kernel
theorem dX2_enter_157 : decode cX2_enter 157 = .ok (.iload_n 1, 1) := by decide +kernel
theorem dX2_enter_158 : decode cX2_enter 158 = .ok (.aload_n 0, 1) := by decide +kernel
theorem dX2_enter_159 : decode cX2_enter 159 = .ok (.getfield 38, 3) := by decide +kernel
theorem dX2_enter_162 : decode cX2_enter 162 = .ok (.ifCond .eq 12, 3) := by decide +kernel
theorem dX2_enter_165 : decode cX2_enter 165 = .ok (.iload 4, 2) := by decide +kernel
theorem dX2_enter_167 : decode cX2_enter 167 = .ok (.ifCond .eq 7, 3) := by decide +kernel
theorem dX2_enter_170 : decode cX2_enter 170 = .ok (.iconst 0, 1) := by decide +kernel
theorem dX2_enter_171 : decode cX2_enter 171 = .ok (.goto 14, 3) := by decide +kernel
theorem dX2_enter_174 : decode cX2_enter 174 = .ok (.lload 7, 2) := by decide +kernel
theorem dX2_enter_176 : decode cX2_enter 176 = .ok (.lload_n 2, 1) := by decide +kernel
theorem dX2_enter_177 : decode cX2_enter 177 = .ok (.ladd, 1) := by decide +kernel
theorem dX2_enter_178 : decode cX2_enter 178 = .ok (.lload 5, 2) := by decide +kernel
theorem dX2_enter_180 : decode cX2_enter 180 = .ok (.invokestatic 75, 3) := by decide +kernel
theorem dX2_enter_183 : decode cX2_enter 183 = .ok (.lneg, 1) := by decide +kernel
theorem dX2_enter_184 : decode cX2_enter 184 = .ok (.l2i, 1) := by decide +kernel
theorem dX2_enter_185 : decode cX2_enter 185 = .ok (.iastore, 1) := by decide +kernel
theorem dX2_enter_186 : decode cX2_enter 186 = .ok (.return_, 1) := by decide +kernel
abbrev MX2_advance : ZM := (yX2_advance, cX2_advance, 2, (Option.some FieldType.boolean), 2, 54)
theorem dX2_advance_0 : decode cX2_advance 0 = .ok (.iconst 0, 1) := by decide +kernel
theorem dX2_advance_1 : decode cX2_advance 1 = .ok (.istore_n 1, 1) := by decide +kernel
theorem dX2_advance_2 : decode cX2_advance 2 = .ok (.iload_n 1, 1) := by decide +kernel
theorem dX2_advance_3 : decode cX2_advance 3 = .ok (.ldc 79, 2) := by decide +kernel
theorem dX2_advance_5 : decode cX2_advance 5 = .ok (.if_icmp .ge 96, 3) := by decide +kernel
theorem dX2_advance_8 : decode cX2_advance 8 = .ok (.aload_n 0, 1) := by decide +kernel
theorem dX2_advance_9 : decode cX2_advance 9 = .ok (.getfield 68, 3) := by decide +kernel
theorem dX2_advance_12 : decode cX2_advance 12 = .ok (.ifCond .lt 89, 3) := by decide +kernel
theorem dX2_advance_15 : decode cX2_advance 15 = .ok (.aload_n 0, 1) := by decide +kernel
theorem dX2_advance_16 : decode cX2_advance 16 = .ok (.getfield 24, 3) := by decide +kernel
theorem dX2_advance_19 : decode cX2_advance 19 = .ok (.aload_n 0, 1) := by decide +kernel
theorem dX2_advance_20 : decode cX2_advance 20 = .ok (.getfield 68, 3) := by decide +kernel
theorem dX2_advance_23 : decode cX2_advance 23 = .ok (.iaload, 1) := by decide +kernel
theorem dX2_advance_24 : decode cX2_advance 24 = .ok (.aload_n 0, 1) := by decide +kernel
theorem dX2_advance_25 : decode cX2_advance 25 = .ok (.getfield 28, 3) := by decide +kernel
theorem dX2_advance_28 : decode cX2_advance 28 = .ok (.aload_n 0, 1) := by decide +kernel
theorem dX2_advance_29 : decode cX2_advance 29 = .ok (.getfield 68, 3) := by decide +kernel
theorem dX2_advance_32 : decode cX2_advance 32 = .ok (.iaload, 1) := by decide +kernel
theorem dX2_advance_33 : decode cX2_advance 33 = .ok (.if_icmp .gt 16, 3) := by decide +kernel
theorem dX2_advance_36 : decode cX2_advance 36 = .ok (.aload_n 0, 1) := by decide +kernel
theorem dX2_advance_37 : decode cX2_advance 37 = .ok (.dup, 1) := by decide +kernel
theorem dX2_advance_38 : decode cX2_advance 38 = .ok (.getfield 68, 3) := by decide +kernel
theorem dX2_advance_41 : decode cX2_advance 41 = .ok (.iconst 1, 1) := by decide +kernel
theorem dX2_advance_42 : decode cX2_advance 42 = .ok (.isub, 1) := by decide +kernel
theorem dX2_advance_43 : decode cX2_advance 43 = .ok (.putfield 68, 3) := by decide +kernel
theorem dX2_advance_46 : decode cX2_advance 46 = .ok (.goto 49, 3) := by decide +kernel
theorem dX2_advance_49 : decode cX2_advance 49 = .ok (.aload_n 0, 1) := by decide +kernel
theorem dX2_advance_50 : decode cX2_advance 50 = .ok (.getfield 24, 3) := by decide +kernel
theorem dX2_advance_53 : decode cX2_advance 53 = .ok (.aload_n 0, 1) := by decide +kernel
theorem dX2_advance_54 : decode cX2_advance 54 = .ok (.getfield 68, 3) := by decide +kernel
theorem dX2_advance_57 : decode cX2_advance 57 = .ok (.dup2, 1) := by decide +kernel
theorem dX2_advance_58 : decode cX2_advance 58 = .ok (.iaload, 1) := by decide +kernel
theorem dX2_advance_59 : decode cX2_advance 59 = .ok (.iconst 1, 1) := by decide +kernel
theorem dX2_advance_60 : decode cX2_advance 60 = .ok (.isub, 1) := by decide +kernel
theorem dX2_advance_61 : decode cX2_advance 61 = .ok (.iastore, 1) := by decide +kernel
theorem dX2_advance_62 : decode cX2_advance 62 = .ok (.aload_n 0, 1) := by decide +kernel
theorem dX2_advance_63 : decode cX2_advance 63 = .ok (.aload_n 0, 1) := by decide +kernel
theorem dX2_advance_64 : decode cX2_advance 64 = .ok (.getfield 68, 3) := by decide +kernel
theorem dX2_advance_67 : decode cX2_advance 67 = .ok (.invokevirtual 80, 3) := by decide +kernel
theorem dX2_advance_70 : decode cX2_advance 70 = .ok (.aload_n 0, 1) := by decide +kernel
theorem dX2_advance_71 : decode cX2_advance 71 = .ok (.getfield 68, 3) := by decide +kernel
theorem dX2_advance_74 : decode cX2_advance 74 = .ok (.aload_n 0, 1) := by decide +kernel
theorem dX2_advance_75 : decode cX2_advance 75 = .ok (.getfield 31, 3) := by decide +kernel
theorem dX2_advance_78 : decode cX2_advance 78 = .ok (.iconst 1, 1) := by decide +kernel
theorem dX2_advance_79 : decode cX2_advance 79 = .ok (.isub, 1) := by decide +kernel
theorem dX2_advance_80 : decode cX2_advance 80 = .ok (.if_icmp .ne 5, 3) := by decide +kernel
theorem dX2_advance_83 : decode cX2_advance 83 = .ok (.iconst 1, 1) := by decide +kernel
theorem dX2_advance_84 : decode cX2_advance 84 = .ok (.ireturn, 1) := by decide +kernel
theorem dX2_advance_85 : decode cX2_advance 85 = .ok (.aload_n 0, 1) := by decide +kernel
theorem dX2_advance_86 : decode cX2_advance 86 = .ok (.aload_n 0, 1) := by decide +kernel
theorem dX2_advance_87 : decode cX2_advance 87 = .ok (.getfield 68, 3) := by decide +kernel
theorem dX2_advance_90 : decode cX2_advance 90 = .ok (.iconst 1, 1) := by decide +kernel
theorem dX2_advance_91 : decode cX2_advance 91 = .ok (.iadd, 1) := by decide +kernel
theorem dX2_advance_92 : decode cX2_advance 92 = .ok (.invokevirtual 49, 3) := by decide +kernel
theorem dX2_advance_95 : decode cX2_advance 95 = .ok (.iinc 1 1, 3) := by decide +kernel
theorem dX2_advance_98 : decode cX2_advance 98 = .ok (.goto (-96), 3) := by decide +kernel
theorem dX2_advance_101 : decode cX2_advance 101 = .ok (.iconst 0, 1) := by decide +kernel
theorem dX2_advance_102 : decode cX2_advance 102 = .ok (.ireturn, 1) := by decide +kernel
abbrev MX2_narrow : ZM := (yX2_narrow, cX2_narrow, 6, (Option.none : Option FieldType), 0, 0)
theorem dX2_narrow_0 : decode cX2_narrow 0 = .ok (.aload_n 0, 1) := by decide +kernel
theorem dX2_narrow_1 : decode cX2_narrow 1 = .ok (.getfield 9, 3) := by decide +kernel
theorem dX2_narrow_4 : decode cX2_narrow 4 = .ok (.iconst 4, 1) := by decide +kernel
theorem dX2_narrow_5 : decode cX2_narrow 5 = .ok (.iload_n 1, 1) := by decide +kernel
theorem dX2_narrow_6 : decode cX2_narrow 6 = .ok (.imul, 1) := by decide +kernel
theorem dX2_narrow_7 : decode cX2_narrow 7 = .ok (.iload_n 1, 1) := by decide +kernel
theorem dX2_narrow_8 : decode cX2_narrow 8 = .ok (.iadd, 1) := by decide +kernel
theorem dX2_narrow_9 : decode cX2_narrow 9 = .ok (.laload, 1) := by decide +kernel
theorem dX2_narrow_10 : decode cX2_narrow 10 = .ok (.lstore_n 2, 1) := by decide +kernel
theorem dX2_narrow_11 : decode cX2_narrow 11 = .ok (.lload_n 2, 1) := by decide +kernel
theorem dX2_narrow_12 : decode cX2_narrow 12 = .ok (.aload_n 0, 1) := by decide +kernel
theorem dX2_narrow_13 : decode cX2_narrow 13 = .ok (.getfield 24, 3) := by decide +kernel
theorem dX2_narrow_16 : decode cX2_narrow 16 = .ok (.iload_n 1, 1) := by decide +kernel
theorem dX2_narrow_17 : decode cX2_narrow 17 = .ok (.iaload, 1) := by decide +kernel
theorem dX2_narrow_18 : decode cX2_narrow 18 = .ok (.i2l, 1) := by decide +kernel
theorem dX2_narrow_19 : decode cX2_narrow 19 = .ok (.lmul, 1) := by decide +kernel
theorem dX2_narrow_20 : decode cX2_narrow 20 = .ok (.aload_n 0, 1) := by decide +kernel
theorem dX2_narrow_21 : decode cX2_narrow 21 = .ok (.getfield 21, 3) := by decide +kernel
theorem dX2_narrow_24 : decode cX2_narrow 24 = .ok (.iload_n 1, 1) := by decide +kernel
theorem dX2_narrow_25 : decode cX2_narrow 25 = .ok (.laload, 1) := by decide +kernel
theorem dX2_narrow_26 : decode cX2_narrow 26 = .ok (.ladd, 1) := by decide +kernel
theorem dX2_narrow_27 : decode cX2_narrow 27 = .ok (.lstore 4, 2) := by decide +kernel
theorem dX2_narrow_29 : decode cX2_narrow 29 = .ok (.aload_n 0, 1) := by decide +kernel
theorem dX2_narrow_30 : decode cX2_narrow 30 = .ok (.getfield 18, 3) := by decide +kernel
theorem dX2_narrow_33 : decode cX2_narrow 33 = .ok (.iload_n 1, 1) := by decide +kernel
theorem dX2_narrow_34 : decode cX2_narrow 34 = .ok (.iconst 1, 1) := by decide +kernel
theorem dX2_narrow_35 : decode cX2_narrow 35 = .ok (.iadd, 1) := by decide +kernel
theorem dX2_narrow_36 : decode cX2_narrow 36 = .ok (.lload_n 2, 1) := by decide +kernel
theorem dX2_narrow_37 : decode cX2_narrow 37 = .ok (.lconst 0, 1) := by decide +kernel
theorem dX2_narrow_38 : decode cX2_narrow 38 = .ok (.lcmp, 1) := by decide +kernel
theorem dX2_narrow_39 : decode cX2_narrow 39 = .ok (.ifCond .gt 7, 3) := by decide +kernel
theorem dX2_narrow_42 : decode cX2_narrow 42 = .ok (.lconst 0, 1) := by decide +kernel
theorem dX2_narrow_43 : decode cX2_narrow 43 = .ok (.goto 24, 3) := by decide +kernel
theorem dX2_narrow_46 : decode cX2_narrow 46 = .ok (.aload_n 0, 1) := by decide +kernel
theorem dX2_narrow_47 : decode cX2_narrow 47 = .ok (.getfield 15, 3) := by decide +kernel
theorem dX2_narrow_50 : decode cX2_narrow 50 = .ok (.iload_n 1, 1) := by decide +kernel
theorem dX2_narrow_51 : decode cX2_narrow 51 = .ok (.laload, 1) := by decide +kernel
theorem dX2_narrow_52 : decode cX2_narrow 52 = .ok (.aload_n 0, 1) := by decide +kernel
theorem dX2_narrow_53 : decode cX2_narrow 53 = .ok (.getfield 18, 3) := by decide +kernel
theorem dX2_narrow_56 : decode cX2_narrow 56 = .ok (.iload_n 1, 1) := by decide +kernel
theorem dX2_narrow_57 : decode cX2_narrow 57 = .ok (.laload, 1) := by decide +kernel
theorem dX2_narrow_58 : decode cX2_narrow 58 = .ok (.lmul, 1) := by decide +kernel
theorem dX2_narrow_59 : decode cX2_narrow 59 = .ok (.lload 4, 2) := by decide +kernel
theorem dX2_narrow_61 : decode cX2_narrow 61 = .ok (.lload 4, 2) := by decide +kernel
theorem dX2_narrow_63 : decode cX2_narrow 63 = .ok (.lmul, 1) := by decide +kernel
theorem dX2_narrow_64 : decode cX2_narrow 64 = .ok (.lsub, 1) := by decide +kernel
theorem dX2_narrow_65 : decode cX2_narrow 65 = .ok (.lload_n 2, 1) := by decide +kernel
theorem dX2_narrow_66 : decode cX2_narrow 66 = .ok (.ldiv, 1) := by decide +kernel
theorem dX2_narrow_67 : decode cX2_narrow 67 = .ok (.lastore, 1) := by decide +kernel
theorem dX2_narrow_68 : decode cX2_narrow 68 = .ok (.return_, 1) := by decide +kernel
abbrev MX2_worthHere : ZM := (yX2_worthHere, cX2_worthHere, 1, (Option.some FieldType.int), 0, 0)
theorem dX2_worthHere_0 : decode cX2_worthHere 0 = .ok (.aload_n 0, 1) := by decide +kernel
theorem dX2_worthHere_1 : decode cX2_worthHere 1 = .ok (.getfield 35, 3) := by decide +kernel
theorem dX2_worthHere_4 : decode cX2_worthHere 4 = .ok (.aload_n 0, 1) := by decide +kernel
theorem dX2_worthHere_5 : decode cX2_worthHere 5 = .ok (.getfield 18, 3) := by decide +kernel
theorem dX2_worthHere_8 : decode cX2_worthHere 8 = .ok (.aload_n 0, 1) := by decide +kernel
theorem dX2_worthHere_9 : decode cX2_worthHere 9 = .ok (.getfield 31, 3) := by decide +kernel
theorem dX2_worthHere_12 : decode cX2_worthHere 12 = .ok (.laload, 1) := by decide +kernel
theorem dX2_worthHere_13 : decode cX2_worthHere 13 = .ok (.l2i, 1) := by decide +kernel
theorem dX2_worthHere_14 : decode cX2_worthHere 14 = .ok (.isub, 1) := by decide +kernel
theorem dX2_worthHere_15 : decode cX2_worthHere 15 = .ok (.ireturn, 1) := by decide +kernel
abbrev MX3_init : ZM := (yX3_init, cX3_init, 2, (Option.none : Option FieldType), 1, 40)
theorem dX3_init_0 : decode cX3_init 0 = .ok (.aload_n 0, 1) := by decide +kernel
theorem dX3_init_1 : decode cX3_init 1 = .ok (.invokespecial 3, 3) := by decide +kernel
theorem dX3_init_4 : decode cX3_init 4 = .ok (.aload_n 0, 1) := by decide +kernel
theorem dX3_init_5 : decode cX3_init 5 = .ok (.aload_n 1, 1) := by decide +kernel
theorem dX3_init_6 : decode cX3_init 6 = .ok (.getfield 9, 3) := by decide +kernel
theorem dX3_init_9 : decode cX3_init 9 = .ok (.putfield 15, 3) := by decide +kernel
theorem dX3_init_12 : decode cX3_init 12 = .ok (.aload_n 0, 1) := by decide +kernel
theorem dX3_init_13 : decode cX3_init 13 = .ok (.aload_n 1, 1) := by decide +kernel
theorem dX3_init_14 : decode cX3_init 14 = .ok (.getfield 18, 3) := by decide +kernel
theorem dX3_init_17 : decode cX3_init 17 = .ok (.invokevirtual 22, 3) := by decide +kernel
theorem dX3_init_20 : decode cX3_init 20 = .ok (.checkcast 23, 3) := by decide +kernel
theorem dX3_init_23 : decode cX3_init 23 = .ok (.putfield 27, 3) := by decide +kernel
theorem dX3_init_26 : decode cX3_init 26 = .ok (.aload_n 0, 1) := by decide +kernel
theorem dX3_init_27 : decode cX3_init 27 = .ok (.aload_n 1, 1) := by decide +kernel
theorem dX3_init_28 : decode cX3_init 28 = .ok (.getfield 28, 3) := by decide +kernel
theorem dX3_init_31 : decode cX3_init 31 = .ok (.putfield 31, 3) := by decide +kernel
theorem dX3_init_34 : decode cX3_init 34 = .ok (.aload_n 0, 1) := by decide +kernel
theorem dX3_init_35 : decode cX3_init 35 = .ok (.aload_n 1, 1) := by decide +kernel
theorem dX3_init_36 : decode cX3_init 36 = .ok (.getfield 32, 3) := by decide +kernel
theorem dX3_init_39 : decode cX3_init 39 = .ok (.putfield 35, 3) := by decide +kernel
theorem dX3_init_42 : decode cX3_init 42 = .ok (.return_, 1) := by decide +kernel
abbrev MX3_greatestSquare : ZM := (yX3_greatestSquare, cX3_greatestSquare, 3, (Option.some FieldType.int), 1, 21)
theorem dX3_greatestSquare_0 : decode cX3_greatestSquare 0 = .ok (.iconst 0, 1) := by decide +kernel
theorem dX3_greatestSquare_1 : decode cX3_greatestSquare 1 = .ok (.istore_n 1, 1) := by decide +kernel
theorem dX3_greatestSquare_2 : decode cX3_greatestSquare 2 = .ok (.iconst 0, 1) := by decide +kernel
theorem dX3_greatestSquare_3 : decode cX3_greatestSquare 3 = .ok (.istore_n 2, 1) := by decide +kernel
theorem dX3_greatestSquare_4 : decode cX3_greatestSquare 4 = .ok (.iload_n 2, 1) := by decide +kernel
theorem dX3_greatestSquare_5 : decode cX3_greatestSquare 5 = .ok (.aload_n 0, 1) := by decide +kernel
theorem dX3_greatestSquare_6 : decode cX3_greatestSquare 6 = .ok (.getfield 15, 3) := by decide +kernel
theorem dX3_greatestSquare_9 : decode cX3_greatestSquare 9 = .ok (.if_icmp .ge 24, 3) := by decide +kernel
theorem dX3_greatestSquare_12 : decode cX3_greatestSquare 12 = .ok (.iload_n 1, 1) := by decide +kernel
theorem dX3_greatestSquare_13 : decode cX3_greatestSquare 13 = .ok (.aload_n 0, 1) := by decide +kernel
theorem dX3_greatestSquare_14 : decode cX3_greatestSquare 14 = .ok (.getfield 27, 3) := by decide +kernel
theorem dX3_greatestSquare_17 : decode cX3_greatestSquare 17 = .ok (.iconst 4, 1) := by decide +kernel
theorem dX3_greatestSquare_18 : decode cX3_greatestSquare 18 = .ok (.iload_n 2, 1) := by decide +kernel
theorem dX3_greatestSquare_19 : decode cX3_greatestSquare 19 = .ok (.imul, 1) := by decide +kernel
theorem dX3_greatestSquare_20 : decode cX3_greatestSquare 20 = .ok (.iload_n 2, 1) := by decide +kernel
theorem dX3_greatestSquare_21 : decode cX3_greatestSquare 21 = .ok (.iadd, 1) := by decide +kernel
theorem dX3_greatestSquare_22 : decode cX3_greatestSquare 22 = .ok (.iaload, 1) := by decide +kernel
theorem dX3_greatestSquare_23 : decode cX3_greatestSquare 23 = .ok (.invokestatic 36, 3) := by decide +kernel
theorem dX3_greatestSquare_26 : decode cX3_greatestSquare 26 = .ok (.istore_n 1, 1) := by decide +kernel
theorem dX3_greatestSquare_27 : decode cX3_greatestSquare 27 = .ok (.iinc 2 1, 3) := by decide +kernel
theorem dX3_greatestSquare_30 : decode cX3_greatestSquare 30 = .ok (.goto (-26), 3) := by decide +kernel
theorem dX3_greatestSquare_33 : decode cX3_greatestSquare 33 = .ok (.iload_n 1, 1) := by decide +kernel
theorem dX3_greatestSquare_34 : decode cX3_greatestSquare 34 = .ok (.ireturn, 1) := by decide +kernel
abbrev MX4_init : ZM := (yX4_init, cX4_init, 1, (Option.none : Option FieldType), 1, 40)
theorem dX4_init_0 : decode cX4_init 0 = .ok (.aload_n 0, 1) := by decide +kernel
theorem dX4_init_1 : decode cX4_init 1 = .ok (.invokespecial 3, 3) := by decide +kernel
theorem dX4_init_4 : decode cX4_init 4 = .ok (.aload_n 0, 1) := by decide +kernel
theorem dX4_init_5 : decode cX4_init 5 = .ok (.iconst 4, 1) := by decide +kernel
theorem dX4_init_6 : decode cX4_init 6 = .ok (.newarray .int, 2) := by decide +kernel
theorem dX4_init_8 : decode cX4_init 8 = .ok (.putfield 9, 3) := by decide +kernel
theorem dX4_init_11 : decode cX4_init 11 = .ok (.aload_n 0, 1) := by decide +kernel
theorem dX4_init_12 : decode cX4_init 12 = .ok (.sipush 256, 3) := by decide +kernel
theorem dX4_init_15 : decode cX4_init 15 = .ok (.newarray .byte, 2) := by decide +kernel
theorem dX4_init_17 : decode cX4_init 17 = .ok (.putfield 15, 3) := by decide +kernel
theorem dX4_init_20 : decode cX4_init 20 = .ok (.return_, 1) := by decide +kernel
abbrev MX4_bitsOf : ZM := (yX4_bitsOf, cX4_bitsOf, 3, (Option.some FieldType.int), 2, 56)
theorem dX4_bitsOf_0 : decode cX4_bitsOf 0 = .ok (.iload_n 2, 1) := by decide +kernel
theorem dX4_bitsOf_1 : decode cX4_bitsOf 1 = .ok (.iconst 2, 1) := by decide +kernel
theorem dX4_bitsOf_2 : decode cX4_bitsOf 2 = .ok (.if_icmp .lt 9, 3) := by decide +kernel
theorem dX4_bitsOf_5 : decode cX4_bitsOf 5 = .ok (.iload_n 2, 1) := by decide +kernel
theorem dX4_bitsOf_6 : decode cX4_bitsOf 6 = .ok (.bipush 16, 2) := by decide +kernel
theorem dX4_bitsOf_8 : decode cX4_bitsOf 8 = .ok (.if_icmp .le 5, 3) := by decide +kernel
theorem dX4_bitsOf_11 : decode cX4_bitsOf 11 = .ok (.iconst 0, 1) := by decide +kernel
theorem dX4_bitsOf_12 : decode cX4_bitsOf 12 = .ok (.ireturn, 1) := by decide +kernel
theorem dX4_bitsOf_13 : decode cX4_bitsOf 13 = .ok (.aload_n 1, 1) := by decide +kernel
theorem dX4_bitsOf_14 : decode cX4_bitsOf 14 = .ok (.getfield 19, 3) := by decide +kernel
theorem dX4_bitsOf_17 : decode cX4_bitsOf 17 = .ok (.ifnonnull 11, 3) := by decide +kernel
theorem dX4_bitsOf_20 : decode cX4_bitsOf 20 = .ok (.aload_n 1, 1) := by decide +kernel
theorem dX4_bitsOf_21 : decode cX4_bitsOf 21 = .ok (.bipush 17, 2) := by decide +kernel
theorem dX4_bitsOf_23 : decode cX4_bitsOf 23 = .ok (.newarray .int, 2) := by decide +kernel
theorem dX4_bitsOf_25 : decode cX4_bitsOf 25 = .ok (.putfield 19, 3) := by decide +kernel
theorem dX4_bitsOf_28 : decode cX4_bitsOf 28 = .ok (.aload_n 1, 1) := by decide +kernel
theorem dX4_bitsOf_29 : decode cX4_bitsOf 29 = .ok (.getfield 19, 3) := by decide +kernel
theorem dX4_bitsOf_32 : decode cX4_bitsOf 32 = .ok (.iload_n 2, 1) := by decide +kernel
theorem dX4_bitsOf_33 : decode cX4_bitsOf 33 = .ok (.iaload, 1) := by decide +kernel
theorem dX4_bitsOf_34 : decode cX4_bitsOf 34 = .ok (.ifCond .ne 15, 3) := by decide +kernel
theorem dX4_bitsOf_37 : decode cX4_bitsOf 37 = .ok (.aload_n 1, 1) := by decide +kernel
theorem dX4_bitsOf_38 : decode cX4_bitsOf 38 = .ok (.getfield 19, 3) := by decide +kernel
theorem dX4_bitsOf_41 : decode cX4_bitsOf 41 = .ok (.iload_n 2, 1) := by decide +kernel
theorem dX4_bitsOf_42 : decode cX4_bitsOf 42 = .ok (.aload_n 0, 1) := by decide +kernel
theorem dX4_bitsOf_43 : decode cX4_bitsOf 43 = .ok (.aload_n 1, 1) := by decide +kernel
theorem dX4_bitsOf_44 : decode cX4_bitsOf 44 = .ok (.iload_n 2, 1) := by decide +kernel
theorem dX4_bitsOf_45 : decode cX4_bitsOf 45 = .ok (.invokevirtual 24, 3) := by decide +kernel
theorem dX4_bitsOf_48 : decode cX4_bitsOf 48 = .ok (.iastore, 1) := by decide +kernel
theorem dX4_bitsOf_49 : decode cX4_bitsOf 49 = .ok (.aload_n 1, 1) := by decide +kernel
theorem dX4_bitsOf_50 : decode cX4_bitsOf 50 = .ok (.getfield 19, 3) := by decide +kernel
theorem dX4_bitsOf_53 : decode cX4_bitsOf 53 = .ok (.iload_n 2, 1) := by decide +kernel
theorem dX4_bitsOf_54 : decode cX4_bitsOf 54 = .ok (.iaload, 1) := by decide +kernel
theorem dX4_bitsOf_55 : decode cX4_bitsOf 55 = .ok (.ireturn, 1) := by decide +kernel
abbrev MX4_foundBits : ZM := (yX4_foundBits, cX4_foundBits, 12, (Option.some FieldType.int), 1, 25)
theorem dX4_foundBits_0 : decode cX4_foundBits 0 = .ok (.aload_n 0, 1) := by decide +kernel
theorem dX4_foundBits_1 : decode cX4_foundBits 1 = .ok (.getfield 15, 3) := by decide +kernel
theorem dX4_foundBits_4 : decode cX4_foundBits 4 = .ok (.iconst 0, 1) := by decide +kernel
theorem dX4_foundBits_5 : decode cX4_foundBits 5 = .ok (.invokestatic 28, 3) := by decide +kernel
theorem dX4_foundBits_8 : decode cX4_foundBits 8 = .ok (.aload_n 0, 1) := by decide +kernel
theorem dX4_foundBits_9 : decode cX4_foundBits 9 = .ok (.getfield 9, 3) := by decide +kernel
theorem dX4_foundBits_12 : decode cX4_foundBits 12 = .ok (.iconst 0, 1) := by decide +kernel
theorem dX4_foundBits_13 : decode cX4_foundBits 13 = .ok (.invokestatic 34, 3) := by decide +kernel
theorem dX4_foundBits_16 : decode cX4_foundBits 16 = .ok (.aload_n 1, 1) := by decide +kernel
theorem dX4_foundBits_17 : decode cX4_foundBits 17 = .ok (.getfield 37, 3) := by decide +kernel
theorem dX4_foundBits_20 : decode cX4_foundBits 20 = .ok (.iconst 1, 1) := by decide +kernel
theorem dX4_foundBits_21 : decode cX4_foundBits 21 = .ok (.isub, 1) := by decide +kernel
theorem dX4_foundBits_22 : decode cX4_foundBits 22 = .ok (.istore_n 3, 1) := by decide +kernel
theorem dX4_foundBits_23 : decode cX4_foundBits 23 = .ok (.iconst 1, 1) := by decide +kernel
theorem dX4_foundBits_24 : decode cX4_foundBits 24 = .ok (.iload_n 2, 1) := by decide +kernel
theorem dX4_foundBits_25 : decode cX4_foundBits 25 = .ok (.ishl, 1) := by decide +kernel
theorem dX4_foundBits_26 : decode cX4_foundBits 26 = .ok (.iconst 1, 1) := by decide +kernel
theorem dX4_foundBits_27 : decode cX4_foundBits 27 = .ok (.isub, 1) := by decide +kernel
theorem dX4_foundBits_28 : decode cX4_foundBits 28 = .ok (.istore 4, 2) := by decide +kernel
theorem dX4_foundBits_30 : decode cX4_foundBits 30 = .ok (.iconst 0, 1) := by decide +kernel
theorem dX4_foundBits_31 : decode cX4_foundBits 31 = .ok (.istore 5, 2) := by decide +kernel
theorem dX4_foundBits_33 : decode cX4_foundBits 33 = .ok (.iconst 1, 1) := by decide +kernel
theorem dX4_foundBits_34 : decode cX4_foundBits 34 = .ok (.istore 6, 2) := by decide +kernel
theorem dX4_foundBits_36 : decode cX4_foundBits 36 = .ok (.iconst 0, 1) := by decide +kernel
theorem dX4_foundBits_37 : decode cX4_foundBits 37 = .ok (.istore 7, 2) := by decide +kernel
theorem dX4_foundBits_39 : decode cX4_foundBits 39 = .ok (.iload 7, 2) := by decide +kernel
theorem dX4_foundBits_41 : decode cX4_foundBits 41 = .ok (.iload_n 3, 1) := by decide +kernel
theorem dX4_foundBits_42 : decode cX4_foundBits 42 = .ok (.if_icmp .ge 15, 3) := by decide +kernel
theorem dX4_foundBits_45 : decode cX4_foundBits 45 = .ok (.iload 6, 2) := by decide +kernel
theorem dX4_foundBits_47 : decode cX4_foundBits 47 = .ok (.iload_n 2, 1) := by decide +kernel
theorem dX4_foundBits_48 : decode cX4_foundBits 48 = .ok (.imul, 1) := by decide +kernel
theorem dX4_foundBits_49 : decode cX4_foundBits 49 = .ok (.istore 6, 2) := by decide +kernel
theorem dX4_foundBits_51 : decode cX4_foundBits 51 = .ok (.iinc 7 1, 3) := by decide +kernel
theorem dX4_foundBits_54 : decode cX4_foundBits 54 = .ok (.goto (-15), 3) := by decide +kernel
theorem dX4_foundBits_57 : decode cX4_foundBits 57 = .ok (.iconst 0, 1) := by decide +kernel
theorem dX4_foundBits_58 : decode cX4_foundBits 58 = .ok (.istore 7, 2) := by decide +kernel
theorem dX4_foundBits_60 : decode cX4_foundBits 60 = .ok (.iload 7, 2) := by decide +kernel
theorem dX4_foundBits_62 : decode cX4_foundBits 62 = .ok (.iload 6, 2) := by decide +kernel
theorem dX4_foundBits_64 : decode cX4_foundBits 64 = .ok (.if_icmp .ge 131, 3) := by decide +kernel
theorem dX4_foundBits_67 : decode cX4_foundBits 67 = .ok (.iload 5, 2) := by decide +kernel
theorem dX4_foundBits_69 : decode cX4_foundBits 69 = .ok (.iload 4, 2) := by decide +kernel
theorem dX4_foundBits_71 : decode cX4_foundBits 71 = .ok (.if_icmp .eq 124, 3) := by decide +kernel
theorem dX4_foundBits_74 : decode cX4_foundBits 74 = .ok (.aload_n 0, 1) := by decide +kernel
theorem dX4_foundBits_75 : decode cX4_foundBits 75 = .ok (.aload_n 1, 1) := by decide +kernel
theorem dX4_foundBits_76 : decode cX4_foundBits 76 = .ok (.iload_n 3, 1) := by decide +kernel
theorem dX4_foundBits_77 : decode cX4_foundBits 77 = .ok (.invokevirtual 41, 3) := by decide +kernel
theorem dX4_foundBits_80 : decode cX4_foundBits 80 = .ok (.iload_n 2, 1) := by decide +kernel
theorem dX4_foundBits_81 : decode cX4_foundBits 81 = .ok (.invokestatic 44, 3) := by decide +kernel
theorem dX4_foundBits_84 : decode cX4_foundBits 84 = .ok (.istore 8, 2) := by decide +kernel
theorem dX4_foundBits_86 : decode cX4_foundBits 86 = .ok (.iconst 2, 1) := by decide +kernel
theorem dX4_foundBits_87 : decode cX4_foundBits 87 = .ok (.aload_n 0, 1) := by decide +kernel
theorem dX4_foundBits_88 : decode cX4_foundBits 88 = .ok (.aload_n 1, 1) := by decide +kernel
theorem dX4_foundBits_89 : decode cX4_foundBits 89 = .ok (.iload_n 3, 1) := by decide +kernel
theorem dX4_foundBits_90 : decode cX4_foundBits 90 = .ok (.invokevirtual 50, 3) := by decide +kernel
theorem dX4_foundBits_93 : decode cX4_foundBits 93 = .ok (.imul, 1) := by decide +kernel
theorem dX4_foundBits_94 : decode cX4_foundBits 94 = .ok (.iload_n 2, 1) := by decide +kernel
theorem dX4_foundBits_95 : decode cX4_foundBits 95 = .ok (.invokestatic 44, 3) := by decide +kernel
theorem dX4_foundBits_98 : decode cX4_foundBits 98 = .ok (.istore 9, 2) := by decide +kernel
theorem dX4_foundBits_100 : decode cX4_foundBits 100 = .ok (.aload_n 0, 1) := by decide +kernel
theorem dX4_foundBits_101 : decode cX4_foundBits 101 = .ok (.getfield 15, 3) := by decide +kernel
theorem dX4_foundBits_104 : decode cX4_foundBits 104 = .ok (.bipush 16, 2) := by decide +kernel
theorem dX4_foundBits_106 : decode cX4_foundBits 106 = .ok (.iload 8, 2) := by decide +kernel
theorem dX4_foundBits_108 : decode cX4_foundBits 108 = .ok (.imul, 1) := by decide +kernel
theorem dX4_foundBits_109 : decode cX4_foundBits 109 = .ok (.iload 9, 2) := by decide +kernel
theorem dX4_foundBits_111 : decode cX4_foundBits 111 = .ok (.iadd, 1) := by decide +kernel
theorem dX4_foundBits_112 : decode cX4_foundBits 112 = .ok (.baload, 1) := by decide +kernel
theorem dX4_foundBits_113 : decode cX4_foundBits 113 = .ok (.ifCond .ne 70, 3) := by decide +kernel
theorem dX4_foundBits_116 : decode cX4_foundBits 116 = .ok (.aload_n 0, 1) := by decide +kernel
theorem dX4_foundBits_117 : decode cX4_foundBits 117 = .ok (.getfield 15, 3) := by decide +kernel
theorem dX4_foundBits_120 : decode cX4_foundBits 120 = .ok (.bipush 16, 2) := by decide +kernel
theorem dX4_foundBits_122 : decode cX4_foundBits 122 = .ok (.iload 8, 2) := by decide +kernel
theorem dX4_foundBits_124 : decode cX4_foundBits 124 = .ok (.imul, 1) := by decide +kernel
theorem dX4_foundBits_125 : decode cX4_foundBits 125 = .ok (.iload 9, 2) := by decide +kernel
theorem dX4_foundBits_127 : decode cX4_foundBits 127 = .ok (.iadd, 1) := by decide +kernel
theorem dX4_foundBits_128 : decode cX4_foundBits 128 = .ok (.iconst 1, 1) := by decide +kernel
theorem dX4_foundBits_129 : decode cX4_foundBits 129 = .ok (.bastore, 1) := by decide +kernel
theorem dX4_foundBits_130 : decode cX4_foundBits 130 = .ok (.iconst 0, 1) := by decide +kernel
theorem dX4_foundBits_131 : decode cX4_foundBits 131 = .ok (.istore 10, 2) := by decide +kernel
theorem dX4_foundBits_133 : decode cX4_foundBits 133 = .ok (.iload 10, 2) := by decide +kernel
theorem dX4_foundBits_135 : decode cX4_foundBits 135 = .ok (.iload_n 2, 1) := by decide +kernel
theorem dX4_foundBits_136 : decode cX4_foundBits 136 = .ok (.if_icmp .ge 47, 3) := by decide +kernel
theorem dX4_foundBits_139 : decode cX4_foundBits 139 = .ok (.aload_n 1, 1) := by decide +kernel
theorem dX4_foundBits_140 : decode cX4_foundBits 140 = .ok (.getfield 53, 3) := by decide +kernel
theorem dX4_foundBits_143 : decode cX4_foundBits 143 = .ok (.iconst 4, 1) := by decide +kernel
theorem dX4_foundBits_144 : decode cX4_foundBits 144 = .ok (.iload_n 3, 1) := by decide +kernel
theorem dX4_foundBits_145 : decode cX4_foundBits 145 = .ok (.imul, 1) := by decide +kernel
theorem dX4_foundBits_146 : decode cX4_foundBits 146 = .ok (.iload_n 3, 1) := by decide +kernel
theorem dX4_foundBits_147 : decode cX4_foundBits 147 = .ok (.iadd, 1) := by decide +kernel
theorem dX4_foundBits_148 : decode cX4_foundBits 148 = .ok (.iaload, 1) := by decide +kernel
theorem dX4_foundBits_149 : decode cX4_foundBits 149 = .ok (.istore 11, 2) := by decide +kernel
theorem dX4_foundBits_151 : decode cX4_foundBits 151 = .ok (.iload 5, 2) := by decide +kernel
theorem dX4_foundBits_153 : decode cX4_foundBits 153 = .ok (.iconst 1, 1) := by decide +kernel
theorem dX4_foundBits_154 : decode cX4_foundBits 154 = .ok (.iload 8, 2) := by decide +kernel
theorem dX4_foundBits_156 : decode cX4_foundBits 156 = .ok (.iload 9, 2) := by decide +kernel
theorem dX4_foundBits_158 : decode cX4_foundBits 158 = .ok (.iload 10, 2) := by decide +kernel
theorem dX4_foundBits_160 : decode cX4_foundBits 160 = .ok (.imul, 1) := by decide +kernel
theorem dX4_foundBits_161 : decode cX4_foundBits 161 = .ok (.iadd, 1) := by decide +kernel
theorem dX4_foundBits_162 : decode cX4_foundBits 162 = .ok (.iload 11, 2) := by decide +kernel
theorem dX4_foundBits_164 : decode cX4_foundBits 164 = .ok (.iload 10, 2) := by decide +kernel
theorem dX4_foundBits_166 : decode cX4_foundBits 166 = .ok (.imul, 1) := by decide +kernel
theorem dX4_foundBits_167 : decode cX4_foundBits 167 = .ok (.iload 10, 2) := by decide +kernel
theorem dX4_foundBits_169 : decode cX4_foundBits 169 = .ok (.imul, 1) := by decide +kernel
theorem dX4_foundBits_170 : decode cX4_foundBits 170 = .ok (.iadd, 1) := by decide +kernel
theorem dX4_foundBits_171 : decode cX4_foundBits 171 = .ok (.iload_n 2, 1) := by decide +kernel
theorem dX4_foundBits_172 : decode cX4_foundBits 172 = .ok (.irem, 1) := by decide +kernel
theorem dX4_foundBits_173 : decode cX4_foundBits 173 = .ok (.ishl, 1) := by decide +kernel
theorem dX4_foundBits_174 : decode cX4_foundBits 174 = .ok (.ior, 1) := by decide +kernel
theorem dX4_foundBits_175 : decode cX4_foundBits 175 = .ok (.istore 5, 2) := by decide +kernel
theorem dX4_foundBits_177 : decode cX4_foundBits 177 = .ok (.iinc 10 1, 3) := by decide +kernel
theorem dX4_foundBits_180 : decode cX4_foundBits 180 = .ok (.goto (-47), 3) := by decide +kernel
theorem dX4_foundBits_183 : decode cX4_foundBits 183 = .ok (.aload_n 0, 1) := by decide +kernel
theorem dX4_foundBits_184 : decode cX4_foundBits 184 = .ok (.iload_n 3, 1) := by decide +kernel
theorem dX4_foundBits_185 : decode cX4_foundBits 185 = .ok (.iload_n 2, 1) := by decide +kernel
theorem dX4_foundBits_186 : decode cX4_foundBits 186 = .ok (.invokevirtual 56, 3) := by decide +kernel
theorem dX4_foundBits_189 : decode cX4_foundBits 189 = .ok (.iinc 7 1, 3) := by decide +kernel
theorem dX4_foundBits_192 : decode cX4_foundBits 192 = .ok (.goto (-132), 3) := by decide +kernel
theorem dX4_foundBits_195 : decode cX4_foundBits 195 = .ok (.iload 5, 2) := by decide +kernel
theorem dX4_foundBits_197 : decode cX4_foundBits 197 = .ok (.ireturn, 1) := by decide +kernel
abbrev MX4_worthAhead : ZM := (yX4_worthAhead, cX4_worthAhead, 6, (Option.some FieldType.int), 0, 0)
theorem dX4_worthAhead_0 : decode cX4_worthAhead 0 = .ok (.iconst 0, 1) := by decide +kernel
theorem dX4_worthAhead_1 : decode cX4_worthAhead 1 = .ok (.istore_n 3, 1) := by decide +kernel
theorem dX4_worthAhead_2 : decode cX4_worthAhead 2 = .ok (.iconst 0, 1) := by decide +kernel
theorem dX4_worthAhead_3 : decode cX4_worthAhead 3 = .ok (.istore 4, 2) := by decide +kernel
theorem dX4_worthAhead_5 : decode cX4_worthAhead 5 = .ok (.iload 4, 2) := by decide +kernel
theorem dX4_worthAhead_7 : decode cX4_worthAhead 7 = .ok (.iload_n 2, 1) := by decide +kernel
theorem dX4_worthAhead_8 : decode cX4_worthAhead 8 = .ok (.if_icmp .ge 55, 3) := by decide +kernel
theorem dX4_worthAhead_11 : decode cX4_worthAhead 11 = .ok (.iconst 0, 1) := by decide +kernel
theorem dX4_worthAhead_12 : decode cX4_worthAhead 12 = .ok (.istore 5, 2) := by decide +kernel
theorem dX4_worthAhead_14 : decode cX4_worthAhead 14 = .ok (.iload 5, 2) := by decide +kernel
theorem dX4_worthAhead_16 : decode cX4_worthAhead 16 = .ok (.iload_n 2, 1) := by decide +kernel
theorem dX4_worthAhead_17 : decode cX4_worthAhead 17 = .ok (.if_icmp .ge 40, 3) := by decide +kernel
theorem dX4_worthAhead_20 : decode cX4_worthAhead 20 = .ok (.iload_n 3, 1) := by decide +kernel
theorem dX4_worthAhead_21 : decode cX4_worthAhead 21 = .ok (.aload_n 1, 1) := by decide +kernel
theorem dX4_worthAhead_22 : decode cX4_worthAhead 22 = .ok (.getfield 53, 3) := by decide +kernel
theorem dX4_worthAhead_25 : decode cX4_worthAhead 25 = .ok (.iconst 4, 1) := by decide +kernel
theorem dX4_worthAhead_26 : decode cX4_worthAhead 26 = .ok (.iload 4, 2) := by decide +kernel
theorem dX4_worthAhead_28 : decode cX4_worthAhead 28 = .ok (.imul, 1) := by decide +kernel
theorem dX4_worthAhead_29 : decode cX4_worthAhead 29 = .ok (.iload 5, 2) := by decide +kernel
theorem dX4_worthAhead_31 : decode cX4_worthAhead 31 = .ok (.iadd, 1) := by decide +kernel
theorem dX4_worthAhead_32 : decode cX4_worthAhead 32 = .ok (.iaload, 1) := by decide +kernel
theorem dX4_worthAhead_33 : decode cX4_worthAhead 33 = .ok (.aload_n 0, 1) := by decide +kernel
theorem dX4_worthAhead_34 : decode cX4_worthAhead 34 = .ok (.getfield 9, 3) := by decide +kernel
theorem dX4_worthAhead_37 : decode cX4_worthAhead 37 = .ok (.iload 4, 2) := by decide +kernel
theorem dX4_worthAhead_39 : decode cX4_worthAhead 39 = .ok (.iaload, 1) := by decide +kernel
theorem dX4_worthAhead_40 : decode cX4_worthAhead 40 = .ok (.imul, 1) := by decide +kernel
theorem dX4_worthAhead_41 : decode cX4_worthAhead 41 = .ok (.aload_n 0, 1) := by decide +kernel
theorem dX4_worthAhead_42 : decode cX4_worthAhead 42 = .ok (.getfield 9, 3) := by decide +kernel
theorem dX4_worthAhead_45 : decode cX4_worthAhead 45 = .ok (.iload 5, 2) := by decide +kernel
theorem dX4_worthAhead_47 : decode cX4_worthAhead 47 = .ok (.iaload, 1) := by decide +kernel
theorem dX4_worthAhead_48 : decode cX4_worthAhead 48 = .ok (.imul, 1) := by decide +kernel
theorem dX4_worthAhead_49 : decode cX4_worthAhead 49 = .ok (.iadd, 1) := by decide +kernel
theorem dX4_worthAhead_50 : decode cX4_worthAhead 50 = .ok (.istore_n 3, 1) := by decide +kernel
theorem dX4_worthAhead_51 : decode cX4_worthAhead 51 = .ok (.iinc 5 1, 3) := by decide +kernel
theorem dX4_worthAhead_54 : decode cX4_worthAhead 54 = .ok (.goto (-40), 3) := by decide +kernel
theorem dX4_worthAhead_57 : decode cX4_worthAhead 57 = .ok (.iinc 4 1, 3) := by decide +kernel
theorem dX4_worthAhead_60 : decode cX4_worthAhead 60 = .ok (.goto (-55), 3) := by decide +kernel
theorem dX4_worthAhead_63 : decode cX4_worthAhead 63 = .ok (.iload_n 3, 1) := by decide +kernel
theorem dX4_worthAhead_64 : decode cX4_worthAhead 64 = .ok (.ireturn, 1) := by decide +kernel
abbrev MX4_slopeOf : ZM := (yX4_slopeOf, cX4_slopeOf, 5, (Option.some FieldType.int), 0, 0)
theorem dX4_slopeOf_0 : decode cX4_slopeOf 0 = .ok (.iconst 0, 1) := by decide +kernel
theorem dX4_slopeOf_1 : decode cX4_slopeOf 1 = .ok (.istore_n 3, 1) := by decide +kernel
theorem dX4_slopeOf_2 : decode cX4_slopeOf 2 = .ok (.iconst 0, 1) := by decide +kernel
theorem dX4_slopeOf_3 : decode cX4_slopeOf 3 = .ok (.istore 4, 2) := by decide +kernel
theorem dX4_slopeOf_5 : decode cX4_slopeOf 5 = .ok (.iload 4, 2) := by decide +kernel
theorem dX4_slopeOf_7 : decode cX4_slopeOf 7 = .ok (.iload_n 2, 1) := by decide +kernel
theorem dX4_slopeOf_8 : decode cX4_slopeOf 8 = .ok (.if_icmp .ge 31, 3) := by decide +kernel
theorem dX4_slopeOf_11 : decode cX4_slopeOf 11 = .ok (.iload_n 3, 1) := by decide +kernel
theorem dX4_slopeOf_12 : decode cX4_slopeOf 12 = .ok (.aload_n 1, 1) := by decide +kernel
theorem dX4_slopeOf_13 : decode cX4_slopeOf 13 = .ok (.getfield 53, 3) := by decide +kernel
theorem dX4_slopeOf_16 : decode cX4_slopeOf 16 = .ok (.iconst 4, 1) := by decide +kernel
theorem dX4_slopeOf_17 : decode cX4_slopeOf 17 = .ok (.iload_n 2, 1) := by decide +kernel
theorem dX4_slopeOf_18 : decode cX4_slopeOf 18 = .ok (.imul, 1) := by decide +kernel
theorem dX4_slopeOf_19 : decode cX4_slopeOf 19 = .ok (.iload 4, 2) := by decide +kernel
theorem dX4_slopeOf_21 : decode cX4_slopeOf 21 = .ok (.iadd, 1) := by decide +kernel
theorem dX4_slopeOf_22 : decode cX4_slopeOf 22 = .ok (.iaload, 1) := by decide +kernel
theorem dX4_slopeOf_23 : decode cX4_slopeOf 23 = .ok (.aload_n 0, 1) := by decide +kernel
theorem dX4_slopeOf_24 : decode cX4_slopeOf 24 = .ok (.getfield 9, 3) := by decide +kernel
theorem dX4_slopeOf_27 : decode cX4_slopeOf 27 = .ok (.iload 4, 2) := by decide +kernel
theorem dX4_slopeOf_29 : decode cX4_slopeOf 29 = .ok (.iaload, 1) := by decide +kernel
theorem dX4_slopeOf_30 : decode cX4_slopeOf 30 = .ok (.imul, 1) := by decide +kernel
theorem dX4_slopeOf_31 : decode cX4_slopeOf 31 = .ok (.iadd, 1) := by decide +kernel
theorem dX4_slopeOf_32 : decode cX4_slopeOf 32 = .ok (.istore_n 3, 1) := by decide +kernel
theorem dX4_slopeOf_33 : decode cX4_slopeOf 33 = .ok (.iinc 4 1, 3) := by decide +kernel
theorem dX4_slopeOf_36 : decode cX4_slopeOf 36 = .ok (.goto (-31), 3) := by decide +kernel
theorem dX4_slopeOf_39 : decode cX4_slopeOf 39 = .ok (.iload_n 3, 1) := by decide +kernel
theorem dX4_slopeOf_40 : decode cX4_slopeOf 40 = .ok (.ireturn, 1) := by decide +kernel
abbrev MX4_countOn : ZM := (yX4_countOn, cX4_countOn, 4, (Option.none : Option FieldType), 0, 0)
theorem dX4_countOn_0 : decode cX4_countOn 0 = .ok (.iconst 0, 1) := by decide +kernel
theorem dX4_countOn_1 : decode cX4_countOn 1 = .ok (.istore_n 3, 1) := by decide +kernel
theorem dX4_countOn_2 : decode cX4_countOn 2 = .ok (.iload_n 3, 1) := by decide +kernel
theorem dX4_countOn_3 : decode cX4_countOn 3 = .ok (.iload_n 1, 1) := by decide +kernel
theorem dX4_countOn_4 : decode cX4_countOn 4 = .ok (.if_icmp .ge 37, 3) := by decide +kernel
theorem dX4_countOn_7 : decode cX4_countOn 7 = .ok (.aload_n 0, 1) := by decide +kernel
theorem dX4_countOn_8 : decode cX4_countOn 8 = .ok (.getfield 9, 3) := by decide +kernel
theorem dX4_countOn_11 : decode cX4_countOn 11 = .ok (.iload_n 3, 1) := by decide +kernel
theorem dX4_countOn_12 : decode cX4_countOn 12 = .ok (.dup2, 1) := by decide +kernel
theorem dX4_countOn_13 : decode cX4_countOn 13 = .ok (.iaload, 1) := by decide +kernel
theorem dX4_countOn_14 : decode cX4_countOn 14 = .ok (.iconst 1, 1) := by decide +kernel
theorem dX4_countOn_15 : decode cX4_countOn 15 = .ok (.iadd, 1) := by decide +kernel
theorem dX4_countOn_16 : decode cX4_countOn 16 = .ok (.iastore, 1) := by decide +kernel
theorem dX4_countOn_17 : decode cX4_countOn 17 = .ok (.aload_n 0, 1) := by decide +kernel
theorem dX4_countOn_18 : decode cX4_countOn 18 = .ok (.getfield 9, 3) := by decide +kernel
theorem dX4_countOn_21 : decode cX4_countOn 21 = .ok (.iload_n 3, 1) := by decide +kernel
theorem dX4_countOn_22 : decode cX4_countOn 22 = .ok (.iaload, 1) := by decide +kernel
theorem dX4_countOn_23 : decode cX4_countOn 23 = .ok (.iload_n 2, 1) := by decide +kernel
theorem dX4_countOn_24 : decode cX4_countOn 24 = .ok (.if_icmp .ge 4, 3) := by decide +kernel
theorem dX4_countOn_27 : decode cX4_countOn 27 = .ok (.return_, 1) := by decide +kernel
theorem dX4_countOn_28 : decode cX4_countOn 28 = .ok (.aload_n 0, 1) := by decide +kernel
theorem dX4_countOn_29 : decode cX4_countOn 29 = .ok (.getfield 9, 3) := by decide +kernel
theorem dX4_countOn_32 : decode cX4_countOn 32 = .ok (.iload_n 3, 1) := by decide +kernel
theorem dX4_countOn_33 : decode cX4_countOn 33 = .ok (.iconst 0, 1) := by decide +kernel
theorem dX4_countOn_34 : decode cX4_countOn 34 = .ok (.iastore, 1) := by decide +kernel
theorem dX4_countOn_35 : decode cX4_countOn 35 = .ok (.iinc 3 1, 3) := by decide +kernel
theorem dX4_countOn_38 : decode cX4_countOn 38 = .ok (.goto (-36), 3) := by decide +kernel
theorem dX4_countOn_41 : decode cX4_countOn 41 = .ok (.return_, 1) := by decide +kernel
abbrev MX5_init : ZM := (yX5_init, cX5_init, 1, (Option.none : Option FieldType), 1, 40)
theorem dX5_init_0 : decode cX5_init 0 = .ok (.aload_n 0, 1) := by decide +kernel
theorem dX5_init_1 : decode cX5_init 1 = .ok (.invokespecial 3, 3) := by decide +kernel
theorem dX5_init_4 : decode cX5_init 4 = .ok (.aload_n 0, 1) := by decide +kernel
theorem dX5_init_5 : decode cX5_init 5 = .ok (.iconst (-1), 1) := by decide +kernel
theorem dX5_init_6 : decode cX5_init 6 = .ok (.putfield 11, 3) := by decide +kernel
theorem dX5_init_9 : decode cX5_init 9 = .ok (.aload_n 0, 1) := by decide +kernel
theorem dX5_init_10 : decode cX5_init 10 = .ok (.bipush 40, 2) := by decide +kernel
theorem dX5_init_12 : decode cX5_init 12 = .ok (.newarray .int, 2) := by decide +kernel
theorem dX5_init_14 : decode cX5_init 14 = .ok (.putfield 15, 3) := by decide +kernel
theorem dX5_init_17 : decode cX5_init 17 = .ok (.return_, 1) := by decide +kernel
abbrev MX5_isMissing : ZM := (yX5_isMissing, cX5_isMissing, 1, (Option.some FieldType.boolean), 0, 0)
theorem dX5_isMissing_0 : decode cX5_isMissing 0 = .ok (.aload_n 0, 1) := by decide +kernel
theorem dX5_isMissing_1 : decode cX5_isMissing 1 = .ok (.getfield 11, 3) := by decide +kernel
theorem dX5_isMissing_4 : decode cX5_isMissing 4 = .ok (.iconst (-1), 1) := by decide +kernel
theorem dX5_isMissing_5 : decode cX5_isMissing 5 = .ok (.if_icmp .ne 7, 3) := by decide +kernel
theorem dX5_isMissing_8 : decode cX5_isMissing 8 = .ok (.iconst 1, 1) := by decide +kernel
theorem dX5_isMissing_9 : decode cX5_isMissing 9 = .ok (.goto 4, 3) := by decide +kernel
theorem dX5_isMissing_12 : decode cX5_isMissing 12 = .ok (.iconst 0, 1) := by decide +kernel
theorem dX5_isMissing_13 : decode cX5_isMissing 13 = .ok (.ireturn, 1) := by decide +kernel
abbrev MX5_become : ZM := (yX5_become, cX5_become, 3, (Option.none : Option FieldType), 1, 23)
theorem dX5_become_0 : decode cX5_become 0 = .ok (.aload_n 0, 1) := by decide +kernel
theorem dX5_become_1 : decode cX5_become 1 = .ok (.iload_n 1, 1) := by decide +kernel
theorem dX5_become_2 : decode cX5_become 2 = .ok (.putfield 11, 3) := by decide +kernel
theorem dX5_become_5 : decode cX5_become 5 = .ok (.aload_n 0, 1) := by decide +kernel
theorem dX5_become_6 : decode cX5_become 6 = .ok (.iload_n 2, 1) := by decide +kernel
theorem dX5_become_7 : decode cX5_become 7 = .ok (.putfield 19, 3) := by decide +kernel
theorem dX5_become_10 : decode cX5_become 10 = .ok (.aload_n 0, 1) := by decide +kernel
theorem dX5_become_11 : decode cX5_become 11 = .ok (.getfield 15, 3) := by decide +kernel
theorem dX5_become_14 : decode cX5_become 14 = .ok (.iconst 0, 1) := by decide +kernel
theorem dX5_become_15 : decode cX5_become 15 = .ok (.invokestatic 22, 3) := by decide +kernel
theorem dX5_become_18 : decode cX5_become 18 = .ok (.return_, 1) := by decide +kernel
abbrev MX5_has : ZM := (yX5_has, cX5_has, 3, (Option.some FieldType.boolean), 0, 0)
theorem dX5_has_0 : decode cX5_has 0 = .ok (.iload_n 2, 1) := by decide +kernel
theorem dX5_has_1 : decode cX5_has 1 = .ok (.ifCond .lt 29, 3) := by decide +kernel
theorem dX5_has_4 : decode cX5_has 4 = .ok (.iload_n 2, 1) := by decide +kernel
theorem dX5_has_5 : decode cX5_has 5 = .ok (.aload_n 0, 1) := by decide +kernel
theorem dX5_has_6 : decode cX5_has 6 = .ok (.getfield 19, 3) := by decide +kernel
theorem dX5_has_9 : decode cX5_has 9 = .ok (.if_icmp .gt 21, 3) := by decide +kernel
theorem dX5_has_12 : decode cX5_has 12 = .ok (.iload_n 1, 1) := by decide +kernel
theorem dX5_has_13 : decode cX5_has 13 = .ok (.ifCond .lt 17, 3) := by decide +kernel
theorem dX5_has_16 : decode cX5_has 16 = .ok (.iload_n 1, 1) := by decide +kernel
theorem dX5_has_17 : decode cX5_has 17 = .ok (.aload_n 0, 1) := by decide +kernel
theorem dX5_has_18 : decode cX5_has 18 = .ok (.getfield 19, 3) := by decide +kernel
theorem dX5_has_21 : decode cX5_has 21 = .ok (.iload_n 2, 1) := by decide +kernel
theorem dX5_has_22 : decode cX5_has 22 = .ok (.isub, 1) := by decide +kernel
theorem dX5_has_23 : decode cX5_has 23 = .ok (.if_icmp .gt 7, 3) := by decide +kernel
theorem dX5_has_26 : decode cX5_has 26 = .ok (.iconst 1, 1) := by decide +kernel
theorem dX5_has_27 : decode cX5_has 27 = .ok (.goto 4, 3) := by decide +kernel
theorem dX5_has_30 : decode cX5_has 30 = .ok (.iconst 0, 1) := by decide +kernel
theorem dX5_has_31 : decode cX5_has 31 = .ok (.ireturn, 1) := by decide +kernel
abbrev MX5_put : ZM := (yX5_put, cX5_put, 3, (Option.none : Option FieldType), 0, 0)
theorem dX5_put_0 : decode cX5_put 0 = .ok (.aload_n 0, 1) := by decide +kernel
theorem dX5_put_1 : decode cX5_put 1 = .ok (.getfield 15, 3) := by decide +kernel
theorem dX5_put_4 : decode cX5_put 4 = .ok (.iload_n 1, 1) := by decide +kernel
theorem dX5_put_5 : decode cX5_put 5 = .ok (.aload_n 0, 1) := by decide +kernel
theorem dX5_put_6 : decode cX5_put 6 = .ok (.getfield 11, 3) := by decide +kernel
theorem dX5_put_9 : decode cX5_put 9 = .ok (.ifCond .ne 8, 3) := by decide +kernel
theorem dX5_put_12 : decode cX5_put 12 = .ok (.iload_n 2, 1) := by decide +kernel
theorem dX5_put_13 : decode cX5_put 13 = .ok (.i2b, 1) := by decide +kernel
theorem dX5_put_14 : decode cX5_put 14 = .ok (.goto 4, 3) := by decide +kernel
theorem dX5_put_17 : decode cX5_put 17 = .ok (.iload_n 2, 1) := by decide +kernel
theorem dX5_put_18 : decode cX5_put 18 = .ok (.iastore, 1) := by decide +kernel
theorem dX5_put_19 : decode cX5_put 19 = .ok (.return_, 1) := by decide +kernel
abbrev MX6_init : ZM := (yX6_init, cX6_init, 6, (Option.none : Option FieldType), 3, 80)
theorem dX6_init_0 : decode cX6_init 0 = .ok (.aload_n 0, 1) := by decide +kernel
theorem dX6_init_1 : decode cX6_init 1 = .ok (.invokespecial 3, 3) := by decide +kernel
theorem dX6_init_4 : decode cX6_init 4 = .ok (.aload_n 0, 1) := by decide +kernel
theorem dX6_init_5 : decode cX6_init 5 = .ok (.bipush 101, 2) := by decide +kernel
theorem dX6_init_7 : decode cX6_init 7 = .ok (.newarray .int, 2) := by decide +kernel
theorem dX6_init_9 : decode cX6_init 9 = .ok (.putfield 9, 3) := by decide +kernel
theorem dX6_init_12 : decode cX6_init 12 = .ok (.aload_n 1, 1) := by decide +kernel
theorem dX6_init_13 : decode cX6_init 13 = .ok (.getfield 15, 3) := by decide +kernel
theorem dX6_init_16 : decode cX6_init 16 = .ok (.istore_n 3, 1) := by decide +kernel
theorem dX6_init_17 : decode cX6_init 17 = .ok (.aload_n 0, 1) := by decide +kernel
theorem dX6_init_18 : decode cX6_init 18 = .ok (.iload_n 3, 1) := by decide +kernel
theorem dX6_init_19 : decode cX6_init 19 = .ok (.bipush 101, 2) := by decide +kernel
theorem dX6_init_21 : decode cX6_init 21 = .ok (.imul, 1) := by decide +kernel
theorem dX6_init_22 : decode cX6_init 22 = .ok (.newarray .int, 2) := by decide +kernel
theorem dX6_init_24 : decode cX6_init 24 = .ok (.putfield 21, 3) := by decide +kernel
theorem dX6_init_27 : decode cX6_init 27 = .ok (.aload_n 2, 1) := by decide +kernel
theorem dX6_init_28 : decode cX6_init 28 = .ok (.iload_n 3, 1) := by decide +kernel
theorem dX6_init_29 : decode cX6_init 29 = .ok (.aload_n 1, 1) := by decide +kernel
theorem dX6_init_30 : decode cX6_init 30 = .ok (.getfield 24, 3) := by decide +kernel
theorem dX6_init_33 : decode cX6_init 33 = .ok (.bipush 100, 2) := by decide +kernel
theorem dX6_init_35 : decode cX6_init 35 = .ok (.invokevirtual 27, 3) := by decide +kernel
theorem dX6_init_38 : decode cX6_init 38 = .ok (.iconst 0, 1) := by decide +kernel
theorem dX6_init_39 : decode cX6_init 39 = .ok (.istore 4, 2) := by decide +kernel
theorem dX6_init_41 : decode cX6_init 41 = .ok (.iload 4, 2) := by decide +kernel
theorem dX6_init_43 : decode cX6_init 43 = .ok (.ldc 33, 2) := by decide +kernel
theorem dX6_init_45 : decode cX6_init 45 = .ok (.if_icmp .ge 81, 3) := by decide +kernel
theorem dX6_init_48 : decode cX6_init 48 = .ok (.aload_n 2, 1) := by decide +kernel
theorem dX6_init_49 : decode cX6_init 49 = .ok (.invokevirtual 34, 3) := by decide +kernel
theorem dX6_init_52 : decode cX6_init 52 = .ok (.ifCond .eq 74, 3) := by decide +kernel
theorem dX6_init_55 : decode cX6_init 55 = .ok (.aload_n 2, 1) := by decide +kernel
theorem dX6_init_56 : decode cX6_init 56 = .ok (.invokevirtual 38, 3) := by decide +kernel
theorem dX6_init_59 : decode cX6_init 59 = .ok (.istore 5, 2) := by decide +kernel
theorem dX6_init_61 : decode cX6_init 61 = .ok (.iload 5, 2) := by decide +kernel
theorem dX6_init_63 : decode cX6_init 63 = .ok (.ifCond .lt 57, 3) := by decide +kernel
theorem dX6_init_66 : decode cX6_init 66 = .ok (.iload 5, 2) := by decide +kernel
theorem dX6_init_68 : decode cX6_init 68 = .ok (.bipush 100, 2) := by decide +kernel
theorem dX6_init_70 : decode cX6_init 70 = .ok (.if_icmp .gt 50, 3) := by decide +kernel
theorem dX6_init_73 : decode cX6_init 73 = .ok (.aload_n 0, 1) := by decide +kernel
theorem dX6_init_74 : decode cX6_init 74 = .ok (.getfield 9, 3) := by decide +kernel
theorem dX6_init_77 : decode cX6_init 77 = .ok (.iload 5, 2) := by decide +kernel
theorem dX6_init_79 : decode cX6_init 79 = .ok (.iaload, 1) := by decide +kernel
theorem dX6_init_80 : decode cX6_init 80 = .ok (.ifCond .ne 20, 3) := by decide +kernel
theorem dX6_init_83 : decode cX6_init 83 = .ok (.aload_n 2, 1) := by decide +kernel
theorem dX6_init_84 : decode cX6_init 84 = .ok (.getfield 42, 3) := by decide +kernel
theorem dX6_init_87 : decode cX6_init 87 = .ok (.iconst 0, 1) := by decide +kernel
theorem dX6_init_88 : decode cX6_init 88 = .ok (.aload_n 0, 1) := by decide +kernel
theorem dX6_init_89 : decode cX6_init 89 = .ok (.getfield 21, 3) := by decide +kernel
theorem dX6_init_92 : decode cX6_init 92 = .ok (.iload_n 3, 1) := by decide +kernel
theorem dX6_init_93 : decode cX6_init 93 = .ok (.iload 5, 2) := by decide +kernel
theorem dX6_init_95 : decode cX6_init 95 = .ok (.imul, 1) := by decide +kernel
theorem dX6_init_96 : decode cX6_init 96 = .ok (.iload_n 3, 1) := by decide +kernel
theorem dX6_init_97 : decode cX6_init 97 = .ok (.invokestatic 45, 3) := by decide +kernel
theorem dX6_init_100 : decode cX6_init 100 = .ok (.aload_n 0, 1) := by decide +kernel
theorem dX6_init_101 : decode cX6_init 101 = .ok (.getfield 9, 3) := by decide +kernel
theorem dX6_init_104 : decode cX6_init 104 = .ok (.iload 5, 2) := by decide +kernel
theorem dX6_init_106 : decode cX6_init 106 = .ok (.dup2, 1) := by decide +kernel
theorem dX6_init_107 : decode cX6_init 107 = .ok (.iaload, 1) := by decide +kernel
theorem dX6_init_108 : decode cX6_init 108 = .ok (.iload 5, 2) := by decide +kernel
theorem dX6_init_110 : decode cX6_init 110 = .ok (.ifCond .ne 7, 3) := by decide +kernel
theorem dX6_init_113 : decode cX6_init 113 = .ok (.iconst 1, 1) := by decide +kernel
theorem dX6_init_114 : decode cX6_init 114 = .ok (.goto 4, 3) := by decide +kernel
theorem dX6_init_117 : decode cX6_init 117 = .ok (.iconst 2, 1) := by decide +kernel
theorem dX6_init_118 : decode cX6_init 118 = .ok (.iadd, 1) := by decide +kernel
theorem dX6_init_119 : decode cX6_init 119 = .ok (.iastore, 1) := by decide +kernel
theorem dX6_init_120 : decode cX6_init 120 = .ok (.iinc 4 1, 3) := by decide +kernel
theorem dX6_init_123 : decode cX6_init 123 = .ok (.goto (-82), 3) := by decide +kernel
theorem dX6_init_126 : decode cX6_init 126 = .ok (.return_, 1) := by decide +kernel
abbrev MX6_firstLacking : ZM := (yX6_firstLacking, cX6_firstLacking, 2, (Option.some FieldType.int), 0, 0)
theorem dX6_firstLacking_0 : decode cX6_firstLacking 0 = .ok (.iconst 1, 1) := by decide +kernel
theorem dX6_firstLacking_1 : decode cX6_firstLacking 1 = .ok (.istore_n 1, 1) := by decide +kernel
theorem dX6_firstLacking_2 : decode cX6_firstLacking 2 = .ok (.iload_n 1, 1) := by decide +kernel
theorem dX6_firstLacking_3 : decode cX6_firstLacking 3 = .ok (.bipush 100, 2) := by decide +kernel
theorem dX6_firstLacking_5 : decode cX6_firstLacking 5 = .ok (.if_icmp .gt 20, 3) := by decide +kernel
theorem dX6_firstLacking_8 : decode cX6_firstLacking 8 = .ok (.aload_n 0, 1) := by decide +kernel
theorem dX6_firstLacking_9 : decode cX6_firstLacking 9 = .ok (.getfield 9, 3) := by decide +kernel
theorem dX6_firstLacking_12 : decode cX6_firstLacking 12 = .ok (.iload_n 1, 1) := by decide +kernel
theorem dX6_firstLacking_13 : decode cX6_firstLacking 13 = .ok (.iaload, 1) := by decide +kernel
theorem dX6_firstLacking_14 : decode cX6_firstLacking 14 = .ok (.ifCond .ne 5, 3) := by decide +kernel
theorem dX6_firstLacking_17 : decode cX6_firstLacking 17 = .ok (.iload_n 1, 1) := by decide +kernel
theorem dX6_firstLacking_18 : decode cX6_firstLacking 18 = .ok (.ireturn, 1) := by decide +kernel
theorem dX6_firstLacking_19 : decode cX6_firstLacking 19 = .ok (.iinc 1 1, 3) := by decide +kernel
theorem dX6_firstLacking_22 : decode cX6_firstLacking 22 = .ok (.goto (-20), 3) := by decide +kernel
theorem dX6_firstLacking_25 : decode cX6_firstLacking 25 = .ok (.iconst 0, 1) := by decide +kernel
theorem dX6_firstLacking_26 : decode cX6_firstLacking 26 = .ok (.ireturn, 1) := by decide +kernel
abbrev MX7_init : ZM := (yX7_init, cX7_init, 1, (Option.none : Option FieldType), 1, 40)
theorem dX7_init_0 : decode cX7_init 0 = .ok (.aload_n 0, 1) := by decide +kernel
theorem dX7_init_1 : decode cX7_init 1 = .ok (.invokespecial 3, 3) := by decide +kernel
theorem dX7_init_4 : decode cX7_init 4 = .ok (.aload_n 0, 1) := by decide +kernel
theorem dX7_init_5 : decode cX7_init 5 = .ok (.bipush 30, 2) := by decide +kernel
theorem dX7_init_7 : decode cX7_init 7 = .ok (.anewarray 9, 3) := by decide +kernel
theorem dX7_init_10 : decode cX7_init 10 = .ok (.putfield 11, 3) := by decide +kernel
theorem dX7_init_13 : decode cX7_init 13 = .ok (.aload_n 0, 1) := by decide +kernel
theorem dX7_init_14 : decode cX7_init 14 = .ok (.bipush 30, 2) := by decide +kernel
theorem dX7_init_16 : decode cX7_init 16 = .ok (.newarray .int, 2) := by decide +kernel
theorem dX7_init_18 : decode cX7_init 18 = .ok (.putfield 17, 3) := by decide +kernel
theorem dX7_init_21 : decode cX7_init 21 = .ok (.aload_n 0, 1) := by decide +kernel
theorem dX7_init_22 : decode cX7_init 22 = .ok (.bipush 30, 2) := by decide +kernel
theorem dX7_init_24 : decode cX7_init 24 = .ok (.newarray .int, 2) := by decide +kernel
theorem dX7_init_26 : decode cX7_init 26 = .ok (.putfield 21, 3) := by decide +kernel
theorem dX7_init_29 : decode cX7_init 29 = .ok (.aload_n 0, 1) := by decide +kernel
theorem dX7_init_30 : decode cX7_init 30 = .ok (.bipush 30, 2) := by decide +kernel
theorem dX7_init_32 : decode cX7_init 32 = .ok (.newarray .int, 2) := by decide +kernel
theorem dX7_init_34 : decode cX7_init 34 = .ok (.putfield 24, 3) := by decide +kernel
theorem dX7_init_37 : decode cX7_init 37 = .ok (.return_, 1) := by decide +kernel
abbrev MX7_isNode : ZM := (yX7_isNode, cX7_isNode, 2, (Option.some FieldType.boolean), 0, 0)
theorem dX7_isNode_0 : decode cX7_isNode 0 = .ok (.iload_n 1, 1) := by decide +kernel
theorem dX7_isNode_1 : decode cX7_isNode 1 = .ok (.ifCond .lt 15, 3) := by decide +kernel
theorem dX7_isNode_4 : decode cX7_isNode 4 = .ok (.iload_n 1, 1) := by decide +kernel
theorem dX7_isNode_5 : decode cX7_isNode 5 = .ok (.aload_n 0, 1) := by decide +kernel
theorem dX7_isNode_6 : decode cX7_isNode 6 = .ok (.getfield 27, 3) := by decide +kernel
theorem dX7_isNode_9 : decode cX7_isNode 9 = .ok (.if_icmp .ge 7, 3) := by decide +kernel
theorem dX7_isNode_12 : decode cX7_isNode 12 = .ok (.iconst 1, 1) := by decide +kernel
theorem dX7_isNode_13 : decode cX7_isNode 13 = .ok (.goto 4, 3) := by decide +kernel
theorem dX7_isNode_16 : decode cX7_isNode 16 = .ok (.iconst 0, 1) := by decide +kernel
theorem dX7_isNode_17 : decode cX7_isNode 17 = .ok (.ireturn, 1) := by decide +kernel
abbrev MX7_become : ZM := (yX7_become, cX7_become, 3, (Option.none : Option FieldType), 0, 0)
theorem dX7_become_0 : decode cX7_become 0 = .ok (.iconst 0, 1) := by decide +kernel
theorem dX7_become_1 : decode cX7_become 1 = .ok (.istore_n 2, 1) := by decide +kernel
theorem dX7_become_2 : decode cX7_become 2 = .ok (.iload_n 2, 1) := by decide +kernel
theorem dX7_become_3 : decode cX7_become 3 = .ok (.bipush 30, 2) := by decide +kernel
theorem dX7_become_5 : decode cX7_become 5 = .ok (.if_icmp .ge 45, 3) := by decide +kernel
theorem dX7_become_8 : decode cX7_become 8 = .ok (.aload_n 0, 1) := by decide +kernel
theorem dX7_become_9 : decode cX7_become 9 = .ok (.getfield 11, 3) := by decide +kernel
theorem dX7_become_12 : decode cX7_become 12 = .ok (.iload_n 2, 1) := by decide +kernel
theorem dX7_become_13 : decode cX7_become 13 = .ok (.aload_n 1, 1) := by decide +kernel
theorem dX7_become_14 : decode cX7_become 14 = .ok (.getfield 11, 3) := by decide +kernel
theorem dX7_become_17 : decode cX7_become 17 = .ok (.iload_n 2, 1) := by decide +kernel
theorem dX7_become_18 : decode cX7_become 18 = .ok (.aaload, 1) := by decide +kernel
theorem dX7_become_19 : decode cX7_become 19 = .ok (.aastore, 1) := by decide +kernel
theorem dX7_become_20 : decode cX7_become 20 = .ok (.aload_n 0, 1) := by decide +kernel
theorem dX7_become_21 : decode cX7_become 21 = .ok (.getfield 17, 3) := by decide +kernel
theorem dX7_become_24 : decode cX7_become 24 = .ok (.iload_n 2, 1) := by decide +kernel
theorem dX7_become_25 : decode cX7_become 25 = .ok (.aload_n 1, 1) := by decide +kernel
theorem dX7_become_26 : decode cX7_become 26 = .ok (.getfield 17, 3) := by decide +kernel
theorem dX7_become_29 : decode cX7_become 29 = .ok (.iload_n 2, 1) := by decide +kernel
theorem dX7_become_30 : decode cX7_become 30 = .ok (.iaload, 1) := by decide +kernel
theorem dX7_become_31 : decode cX7_become 31 = .ok (.iastore, 1) := by decide +kernel
theorem dX7_become_32 : decode cX7_become 32 = .ok (.aload_n 0, 1) := by decide +kernel
theorem dX7_become_33 : decode cX7_become 33 = .ok (.getfield 21, 3) := by decide +kernel
theorem dX7_become_36 : decode cX7_become 36 = .ok (.iload_n 2, 1) := by decide +kernel
theorem dX7_become_37 : decode cX7_become 37 = .ok (.aload_n 1, 1) := by decide +kernel
theorem dX7_become_38 : decode cX7_become 38 = .ok (.getfield 21, 3) := by decide +kernel
theorem dX7_become_41 : decode cX7_become 41 = .ok (.iload_n 2, 1) := by decide +kernel
theorem dX7_become_42 : decode cX7_become 42 = .ok (.iaload, 1) := by decide +kernel
theorem dX7_become_43 : decode cX7_become 43 = .ok (.iastore, 1) := by decide +kernel
theorem dX7_become_44 : decode cX7_become 44 = .ok (.iinc 2 1, 3) := by decide +kernel
theorem dX7_become_47 : decode cX7_become 47 = .ok (.goto (-45), 3) := by decide +kernel
theorem dX7_become_50 : decode cX7_become 50 = .ok (.aload_n 0, 1) := by decide +kernel
theorem dX7_become_51 : decode cX7_become 51 = .ok (.aload_n 1, 1) := by decide +kernel
theorem dX7_become_52 : decode cX7_become 52 = .ok (.getfield 27, 3) := by decide +kernel
theorem dX7_become_55 : decode cX7_become 55 = .ok (.putfield 27, 3) := by decide +kernel
theorem dX7_become_58 : decode cX7_become 58 = .ok (.return_, 1) := by decide +kernel
abbrev MX7_truncate : ZM := (yX7_truncate, cX7_truncate, 3, (Option.none : Option FieldType), 0, 0)
theorem dX7_truncate_0 : decode cX7_truncate 0 = .ok (.iload_n 1, 1) := by decide +kernel
theorem dX7_truncate_1 : decode cX7_truncate 1 = .ok (.istore_n 2, 1) := by decide +kernel
theorem dX7_truncate_2 : decode cX7_truncate 2 = .ok (.iload_n 2, 1) := by decide +kernel
theorem dX7_truncate_3 : decode cX7_truncate 3 = .ok (.bipush 30, 2) := by decide +kernel
theorem dX7_truncate_5 : decode cX7_truncate 5 = .ok (.if_icmp .ge 16, 3) := by decide +kernel
theorem dX7_truncate_8 : decode cX7_truncate 8 = .ok (.aload_n 0, 1) := by decide +kernel
theorem dX7_truncate_9 : decode cX7_truncate 9 = .ok (.getfield 11, 3) := by decide +kernel
theorem dX7_truncate_12 : decode cX7_truncate 12 = .ok (.iload_n 2, 1) := by decide +kernel
theorem dX7_truncate_13 : decode cX7_truncate 13 = .ok (.aconst_null, 1) := by decide +kernel
theorem dX7_truncate_14 : decode cX7_truncate 14 = .ok (.aastore, 1) := by decide +kernel
theorem dX7_truncate_15 : decode cX7_truncate 15 = .ok (.iinc 2 1, 3) := by decide +kernel
theorem dX7_truncate_18 : decode cX7_truncate 18 = .ok (.goto (-16), 3) := by decide +kernel
theorem dX7_truncate_21 : decode cX7_truncate 21 = .ok (.aload_n 0, 1) := by decide +kernel
theorem dX7_truncate_22 : decode cX7_truncate 22 = .ok (.iload_n 1, 1) := by decide +kernel
theorem dX7_truncate_23 : decode cX7_truncate 23 = .ok (.putfield 27, 3) := by decide +kernel
theorem dX7_truncate_26 : decode cX7_truncate 26 = .ok (.return_, 1) := by decide +kernel
abbrev MX7_add : ZM := (yX7_add, cX7_add, 4, (Option.some FieldType.int), 0, 0)
theorem dX7_add_0 : decode cX7_add 0 = .ok (.aload_n 0, 1) := by decide +kernel
theorem dX7_add_1 : decode cX7_add 1 = .ok (.getfield 27, 3) := by decide +kernel
theorem dX7_add_4 : decode cX7_add 4 = .ok (.bipush 30, 2) := by decide +kernel
theorem dX7_add_6 : decode cX7_add 6 = .ok (.if_icmp .lt 6, 3) := by decide +kernel
theorem dX7_add_9 : decode cX7_add 9 = .ok (.bipush (-4), 2) := by decide +kernel
theorem dX7_add_11 : decode cX7_add 11 = .ok (.ireturn, 1) := by decide +kernel
theorem dX7_add_12 : decode cX7_add 12 = .ok (.aload_n 0, 1) := by decide +kernel
theorem dX7_add_13 : decode cX7_add 13 = .ok (.getfield 11, 3) := by decide +kernel
theorem dX7_add_16 : decode cX7_add 16 = .ok (.aload_n 0, 1) := by decide +kernel
theorem dX7_add_17 : decode cX7_add 17 = .ok (.getfield 27, 3) := by decide +kernel
theorem dX7_add_20 : decode cX7_add 20 = .ok (.aload_n 1, 1) := by decide +kernel
theorem dX7_add_21 : decode cX7_add 21 = .ok (.aastore, 1) := by decide +kernel
theorem dX7_add_22 : decode cX7_add 22 = .ok (.aload_n 0, 1) := by decide +kernel
theorem dX7_add_23 : decode cX7_add 23 = .ok (.getfield 17, 3) := by decide +kernel
theorem dX7_add_26 : decode cX7_add 26 = .ok (.aload_n 0, 1) := by decide +kernel
theorem dX7_add_27 : decode cX7_add 27 = .ok (.getfield 27, 3) := by decide +kernel
theorem dX7_add_30 : decode cX7_add 30 = .ok (.iload_n 2, 1) := by decide +kernel
theorem dX7_add_31 : decode cX7_add 31 = .ok (.iastore, 1) := by decide +kernel
theorem dX7_add_32 : decode cX7_add 32 = .ok (.aload_n 0, 1) := by decide +kernel
theorem dX7_add_33 : decode cX7_add 33 = .ok (.getfield 21, 3) := by decide +kernel
theorem dX7_add_36 : decode cX7_add 36 = .ok (.aload_n 0, 1) := by decide +kernel
theorem dX7_add_37 : decode cX7_add 37 = .ok (.getfield 27, 3) := by decide +kernel
theorem dX7_add_40 : decode cX7_add 40 = .ok (.iload_n 3, 1) := by decide +kernel
theorem dX7_add_41 : decode cX7_add 41 = .ok (.iastore, 1) := by decide +kernel
theorem dX7_add_42 : decode cX7_add 42 = .ok (.aload_n 0, 1) := by decide +kernel
theorem dX7_add_43 : decode cX7_add 43 = .ok (.dup, 1) := by decide +kernel
theorem dX7_add_44 : decode cX7_add 44 = .ok (.getfield 27, 3) := by decide +kernel
theorem dX7_add_47 : decode cX7_add 47 = .ok (.iconst 1, 1) := by decide +kernel
theorem dX7_add_48 : decode cX7_add 48 = .ok (.iadd, 1) := by decide +kernel
theorem dX7_add_49 : decode cX7_add 49 = .ok (.putfield 27, 3) := by decide +kernel
theorem dX7_add_52 : decode cX7_add 52 = .ok (.aload_n 0, 1) := by decide +kernel
theorem dX7_add_53 : decode cX7_add 53 = .ok (.getfield 27, 3) := by decide +kernel
theorem dX7_add_56 : decode cX7_add 56 = .ok (.iconst 1, 1) := by decide +kernel
theorem dX7_add_57 : decode cX7_add 57 = .ok (.isub, 1) := by decide +kernel
theorem dX7_add_58 : decode cX7_add 58 = .ok (.ireturn, 1) := by decide +kernel
abbrev MX7_under : ZM := (yX7_under, cX7_under, 4, (Option.some FieldType.int), 0, 0)
theorem dX7_under_0 : decode cX7_under 0 = .ok (.iconst 0, 1) := by decide +kernel
theorem dX7_under_1 : decode cX7_under 1 = .ok (.istore_n 2, 1) := by decide +kernel
theorem dX7_under_2 : decode cX7_under 2 = .ok (.iload_n 1, 1) := by decide +kernel
theorem dX7_under_3 : decode cX7_under 3 = .ok (.iconst 1, 1) := by decide +kernel
theorem dX7_under_4 : decode cX7_under 4 = .ok (.iadd, 1) := by decide +kernel
theorem dX7_under_5 : decode cX7_under 5 = .ok (.istore_n 3, 1) := by decide +kernel
theorem dX7_under_6 : decode cX7_under 6 = .ok (.iload_n 3, 1) := by decide +kernel
theorem dX7_under_7 : decode cX7_under 7 = .ok (.aload_n 0, 1) := by decide +kernel
theorem dX7_under_8 : decode cX7_under 8 = .ok (.getfield 27, 3) := by decide +kernel
theorem dX7_under_11 : decode cX7_under 11 = .ok (.if_icmp .ge 22, 3) := by decide +kernel
theorem dX7_under_14 : decode cX7_under 14 = .ok (.aload_n 0, 1) := by decide +kernel
theorem dX7_under_15 : decode cX7_under 15 = .ok (.getfield 17, 3) := by decide +kernel
theorem dX7_under_18 : decode cX7_under 18 = .ok (.iload_n 3, 1) := by decide +kernel
theorem dX7_under_19 : decode cX7_under 19 = .ok (.iaload, 1) := by decide +kernel
theorem dX7_under_20 : decode cX7_under 20 = .ok (.iload_n 1, 1) := by decide +kernel
theorem dX7_under_21 : decode cX7_under 21 = .ok (.if_icmp .ne 6, 3) := by decide +kernel
theorem dX7_under_24 : decode cX7_under 24 = .ok (.iinc 2 1, 3) := by decide +kernel
theorem dX7_under_27 : decode cX7_under 27 = .ok (.iinc 3 1, 3) := by decide +kernel
theorem dX7_under_30 : decode cX7_under 30 = .ok (.goto (-24), 3) := by decide +kernel
theorem dX7_under_33 : decode cX7_under 33 = .ok (.iload_n 2, 1) := by decide +kernel
theorem dX7_under_34 : decode cX7_under 34 = .ok (.ireturn, 1) := by decide +kernel
abbrev MX7_isWithin : ZM := (yX7_isWithin, cX7_isWithin, 5, (Option.some FieldType.boolean), 0, 0)
theorem dX7_isWithin_0 : decode cX7_isWithin 0 = .ok (.iload_n 1, 1) := by decide +kernel
theorem dX7_isWithin_1 : decode cX7_isWithin 1 = .ok (.istore_n 3, 1) := by decide +kernel
theorem dX7_isWithin_2 : decode cX7_isWithin 2 = .ok (.iconst 0, 1) := by decide +kernel
theorem dX7_isWithin_3 : decode cX7_isWithin 3 = .ok (.istore 4, 2) := by decide +kernel
theorem dX7_isWithin_5 : decode cX7_isWithin 5 = .ok (.iload 4, 2) := by decide +kernel
theorem dX7_isWithin_7 : decode cX7_isWithin 7 = .ok (.bipush 30, 2) := by decide +kernel
theorem dX7_isWithin_9 : decode cX7_isWithin 9 = .ok (.if_icmp .ge 21, 3) := by decide +kernel
theorem dX7_isWithin_12 : decode cX7_isWithin 12 = .ok (.iload_n 3, 1) := by decide +kernel
theorem dX7_isWithin_13 : decode cX7_isWithin 13 = .ok (.iload_n 2, 1) := by decide +kernel
theorem dX7_isWithin_14 : decode cX7_isWithin 14 = .ok (.if_icmp .le 16, 3) := by decide +kernel
theorem dX7_isWithin_17 : decode cX7_isWithin 17 = .ok (.aload_n 0, 1) := by decide +kernel
theorem dX7_isWithin_18 : decode cX7_isWithin 18 = .ok (.getfield 17, 3) := by decide +kernel
theorem dX7_isWithin_21 : decode cX7_isWithin 21 = .ok (.iload_n 3, 1) := by decide +kernel
theorem dX7_isWithin_22 : decode cX7_isWithin 22 = .ok (.iaload, 1) := by decide +kernel
theorem dX7_isWithin_23 : decode cX7_isWithin 23 = .ok (.istore_n 3, 1) := by decide +kernel
theorem dX7_isWithin_24 : decode cX7_isWithin 24 = .ok (.iinc 4 1, 3) := by decide +kernel
theorem dX7_isWithin_27 : decode cX7_isWithin 27 = .ok (.goto (-22), 3) := by decide +kernel
theorem dX7_isWithin_30 : decode cX7_isWithin 30 = .ok (.iload_n 3, 1) := by decide +kernel
theorem dX7_isWithin_31 : decode cX7_isWithin 31 = .ok (.iload_n 2, 1) := by decide +kernel
theorem dX7_isWithin_32 : decode cX7_isWithin 32 = .ok (.if_icmp .ne 7, 3) := by decide +kernel
theorem dX7_isWithin_35 : decode cX7_isWithin 35 = .ok (.iconst 1, 1) := by decide +kernel
theorem dX7_isWithin_36 : decode cX7_isWithin 36 = .ok (.goto 4, 3) := by decide +kernel
theorem dX7_isWithin_39 : decode cX7_isWithin 39 = .ok (.iconst 0, 1) := by decide +kernel
theorem dX7_isWithin_40 : decode cX7_isWithin 40 = .ok (.ireturn, 1) := by decide +kernel
abbrev MX7_heightOf : ZM := (yX7_heightOf, cX7_heightOf, 3, (Option.some FieldType.int), 1, 23)
theorem dX7_heightOf_0 : decode cX7_heightOf 0 = .ok (.aload_n 0, 1) := by decide +kernel
theorem dX7_heightOf_1 : decode cX7_heightOf 1 = .ok (.getfield 24, 3) := by decide +kernel
theorem dX7_heightOf_4 : decode cX7_heightOf 4 = .ok (.iconst 0, 1) := by decide +kernel
theorem dX7_heightOf_5 : decode cX7_heightOf 5 = .ok (.invokestatic 31, 3) := by decide +kernel
theorem dX7_heightOf_8 : decode cX7_heightOf 8 = .ok (.aload_n 0, 1) := by decide +kernel
theorem dX7_heightOf_9 : decode cX7_heightOf 9 = .ok (.getfield 27, 3) := by decide +kernel
theorem dX7_heightOf_12 : decode cX7_heightOf 12 = .ok (.iconst 1, 1) := by decide +kernel
theorem dX7_heightOf_13 : decode cX7_heightOf 13 = .ok (.isub, 1) := by decide +kernel
theorem dX7_heightOf_14 : decode cX7_heightOf 14 = .ok (.istore_n 2, 1) := by decide +kernel
theorem dX7_heightOf_15 : decode cX7_heightOf 15 = .ok (.iload_n 2, 1) := by decide +kernel
theorem dX7_heightOf_16 : decode cX7_heightOf 16 = .ok (.iload_n 1, 1) := by decide +kernel
theorem dX7_heightOf_17 : decode cX7_heightOf 17 = .ok (.if_icmp .le 51, 3) := by decide +kernel
theorem dX7_heightOf_20 : decode cX7_heightOf 20 = .ok (.aload_n 0, 1) := by decide +kernel
theorem dX7_heightOf_21 : decode cX7_heightOf 21 = .ok (.getfield 17, 3) := by decide +kernel
theorem dX7_heightOf_24 : decode cX7_heightOf 24 = .ok (.iload_n 2, 1) := by decide +kernel
theorem dX7_heightOf_25 : decode cX7_heightOf 25 = .ok (.iaload, 1) := by decide +kernel
theorem dX7_heightOf_26 : decode cX7_heightOf 26 = .ok (.ifCond .lt 36, 3) := by decide +kernel
theorem dX7_heightOf_29 : decode cX7_heightOf 29 = .ok (.aload_n 0, 1) := by decide +kernel
theorem dX7_heightOf_30 : decode cX7_heightOf 30 = .ok (.getfield 24, 3) := by decide +kernel
theorem dX7_heightOf_33 : decode cX7_heightOf 33 = .ok (.aload_n 0, 1) := by decide +kernel
theorem dX7_heightOf_34 : decode cX7_heightOf 34 = .ok (.getfield 17, 3) := by decide +kernel
theorem dX7_heightOf_37 : decode cX7_heightOf 37 = .ok (.iload_n 2, 1) := by decide +kernel
theorem dX7_heightOf_38 : decode cX7_heightOf 38 = .ok (.iaload, 1) := by decide +kernel
theorem dX7_heightOf_39 : decode cX7_heightOf 39 = .ok (.aload_n 0, 1) := by decide +kernel
theorem dX7_heightOf_40 : decode cX7_heightOf 40 = .ok (.getfield 24, 3) := by decide +kernel
theorem dX7_heightOf_43 : decode cX7_heightOf 43 = .ok (.aload_n 0, 1) := by decide +kernel
theorem dX7_heightOf_44 : decode cX7_heightOf 44 = .ok (.getfield 17, 3) := by decide +kernel
theorem dX7_heightOf_47 : decode cX7_heightOf 47 = .ok (.iload_n 2, 1) := by decide +kernel
theorem dX7_heightOf_48 : decode cX7_heightOf 48 = .ok (.iaload, 1) := by decide +kernel
theorem dX7_heightOf_49 : decode cX7_heightOf 49 = .ok (.iaload, 1) := by decide +kernel
theorem dX7_heightOf_50 : decode cX7_heightOf 50 = .ok (.aload_n 0, 1) := by decide +kernel
theorem dX7_heightOf_51 : decode cX7_heightOf 51 = .ok (.getfield 24, 3) := by decide +kernel
theorem dX7_heightOf_54 : decode cX7_heightOf 54 = .ok (.iload_n 2, 1) := by decide +kernel
theorem dX7_heightOf_55 : decode cX7_heightOf 55 = .ok (.iaload, 1) := by decide +kernel
theorem dX7_heightOf_56 : decode cX7_heightOf 56 = .ok (.iconst 1, 1) := by decide +kernel
theorem dX7_heightOf_57 : decode cX7_heightOf 57 = .ok (.iadd, 1) := by decide +kernel
theorem dX7_heightOf_58 : decode cX7_heightOf 58 = .ok (.invokestatic 37, 3) := by decide +kernel
theorem dX7_heightOf_61 : decode cX7_heightOf 61 = .ok (.iastore, 1) := by decide +kernel
theorem dX7_heightOf_62 : decode cX7_heightOf 62 = .ok (.iinc 2 (-1), 3) := by decide +kernel
theorem dX7_heightOf_65 : decode cX7_heightOf 65 = .ok (.goto (-50), 3) := by decide +kernel
theorem dX7_heightOf_68 : decode cX7_heightOf 68 = .ok (.aload_n 0, 1) := by decide +kernel
theorem dX7_heightOf_69 : decode cX7_heightOf 69 = .ok (.getfield 24, 3) := by decide +kernel
theorem dX7_heightOf_72 : decode cX7_heightOf 72 = .ok (.iload_n 1, 1) := by decide +kernel
theorem dX7_heightOf_73 : decode cX7_heightOf 73 = .ok (.iaload, 1) := by decide +kernel
theorem dX7_heightOf_74 : decode cX7_heightOf 74 = .ok (.ireturn, 1) := by decide +kernel
abbrev MX7_leavesOf : ZM := (yX7_leavesOf, cX7_leavesOf, 4, (Option.some FieldType.int), 1, 24)
theorem dX7_leavesOf_0 : decode cX7_leavesOf 0 = .ok (.iconst 0, 1) := by decide +kernel
theorem dX7_leavesOf_1 : decode cX7_leavesOf 1 = .ok (.istore_n 2, 1) := by decide +kernel
theorem dX7_leavesOf_2 : decode cX7_leavesOf 2 = .ok (.iload_n 1, 1) := by decide +kernel
theorem dX7_leavesOf_3 : decode cX7_leavesOf 3 = .ok (.istore_n 3, 1) := by decide +kernel
theorem dX7_leavesOf_4 : decode cX7_leavesOf 4 = .ok (.iload_n 3, 1) := by decide +kernel
theorem dX7_leavesOf_5 : decode cX7_leavesOf 5 = .ok (.aload_n 0, 1) := by decide +kernel
theorem dX7_leavesOf_6 : decode cX7_leavesOf 6 = .ok (.getfield 27, 3) := by decide +kernel
theorem dX7_leavesOf_9 : decode cX7_leavesOf 9 = .ok (.if_icmp .ge 29, 3) := by decide +kernel
theorem dX7_leavesOf_12 : decode cX7_leavesOf 12 = .ok (.aload_n 0, 1) := by decide +kernel
theorem dX7_leavesOf_13 : decode cX7_leavesOf 13 = .ok (.iload_n 3, 1) := by decide +kernel
theorem dX7_leavesOf_14 : decode cX7_leavesOf 14 = .ok (.iload_n 1, 1) := by decide +kernel
theorem dX7_leavesOf_15 : decode cX7_leavesOf 15 = .ok (.invokevirtual 43, 3) := by decide +kernel
theorem dX7_leavesOf_18 : decode cX7_leavesOf 18 = .ok (.ifCond .eq 14, 3) := by decide +kernel
theorem dX7_leavesOf_21 : decode cX7_leavesOf 21 = .ok (.aload_n 0, 1) := by decide +kernel
theorem dX7_leavesOf_22 : decode cX7_leavesOf 22 = .ok (.iload_n 3, 1) := by decide +kernel
theorem dX7_leavesOf_23 : decode cX7_leavesOf 23 = .ok (.invokevirtual 47, 3) := by decide +kernel
theorem dX7_leavesOf_26 : decode cX7_leavesOf 26 = .ok (.ifCond .ne 6, 3) := by decide +kernel
theorem dX7_leavesOf_29 : decode cX7_leavesOf 29 = .ok (.iinc 2 1, 3) := by decide +kernel
theorem dX7_leavesOf_32 : decode cX7_leavesOf 32 = .ok (.iinc 3 1, 3) := by decide +kernel
theorem dX7_leavesOf_35 : decode cX7_leavesOf 35 = .ok (.goto (-31), 3) := by decide +kernel
theorem dX7_leavesOf_38 : decode cX7_leavesOf 38 = .ok (.iload_n 2, 1) := by decide +kernel
theorem dX7_leavesOf_39 : decode cX7_leavesOf 39 = .ok (.ireturn, 1) := by decide +kernel
abbrev MX7_firstUnder : ZM := (yX7_firstUnder, cX7_firstUnder, 4, (Option.some FieldType.int), 0, 0)
theorem dX7_firstUnder_0 : decode cX7_firstUnder 0 = .ok (.iload_n 2, 1) := by decide +kernel
theorem dX7_firstUnder_1 : decode cX7_firstUnder 1 = .ok (.istore_n 3, 1) := by decide +kernel
theorem dX7_firstUnder_2 : decode cX7_firstUnder 2 = .ok (.iload_n 3, 1) := by decide +kernel
theorem dX7_firstUnder_3 : decode cX7_firstUnder 3 = .ok (.aload_n 0, 1) := by decide +kernel
theorem dX7_firstUnder_4 : decode cX7_firstUnder 4 = .ok (.getfield 27, 3) := by decide +kernel
theorem dX7_firstUnder_7 : decode cX7_firstUnder 7 = .ok (.if_icmp .ge 21, 3) := by decide +kernel
theorem dX7_firstUnder_10 : decode cX7_firstUnder 10 = .ok (.aload_n 0, 1) := by decide +kernel
theorem dX7_firstUnder_11 : decode cX7_firstUnder 11 = .ok (.getfield 17, 3) := by decide +kernel
theorem dX7_firstUnder_14 : decode cX7_firstUnder 14 = .ok (.iload_n 3, 1) := by decide +kernel
theorem dX7_firstUnder_15 : decode cX7_firstUnder 15 = .ok (.iaload, 1) := by decide +kernel
theorem dX7_firstUnder_16 : decode cX7_firstUnder 16 = .ok (.iload_n 1, 1) := by decide +kernel
theorem dX7_firstUnder_17 : decode cX7_firstUnder 17 = .ok (.if_icmp .ne 5, 3) := by decide +kernel
theorem dX7_firstUnder_20 : decode cX7_firstUnder 20 = .ok (.iload_n 3, 1) := by decide +kernel
theorem dX7_firstUnder_21 : decode cX7_firstUnder 21 = .ok (.ireturn, 1) := by decide +kernel
theorem dX7_firstUnder_22 : decode cX7_firstUnder 22 = .ok (.iinc 3 1, 3) := by decide +kernel
theorem dX7_firstUnder_25 : decode cX7_firstUnder 25 = .ok (.goto (-23), 3) := by decide +kernel
theorem dX7_firstUnder_28 : decode cX7_firstUnder 28 = .ok (.bipush (-2), 2) := by decide +kernel
theorem dX7_firstUnder_30 : decode cX7_firstUnder 30 = .ok (.ireturn, 1) := by decide +kernel
abbrev MX7_following : ZM := (yX7_following, cX7_following, 5, (Option.some FieldType.int), 1, 23)
theorem dX7_following_0 : decode cX7_following 0 = .ok (.aload_n 0, 1) := by decide +kernel
theorem dX7_following_1 : decode cX7_following 1 = .ok (.iload_n 1, 1) := by decide +kernel
theorem dX7_following_2 : decode cX7_following 2 = .ok (.iload_n 1, 1) := by decide +kernel
theorem dX7_following_3 : decode cX7_following 3 = .ok (.iconst 1, 1) := by decide +kernel
theorem dX7_following_4 : decode cX7_following 4 = .ok (.iadd, 1) := by decide +kernel
theorem dX7_following_5 : decode cX7_following 5 = .ok (.invokevirtual 51, 3) := by decide +kernel
theorem dX7_following_8 : decode cX7_following 8 = .ok (.istore_n 2, 1) := by decide +kernel
theorem dX7_following_9 : decode cX7_following 9 = .ok (.iload_n 1, 1) := by decide +kernel
theorem dX7_following_10 : decode cX7_following 10 = .ok (.istore_n 3, 1) := by decide +kernel
theorem dX7_following_11 : decode cX7_following 11 = .ok (.iconst 0, 1) := by decide +kernel
theorem dX7_following_12 : decode cX7_following 12 = .ok (.istore 4, 2) := by decide +kernel
theorem dX7_following_14 : decode cX7_following 14 = .ok (.iload 4, 2) := by decide +kernel
theorem dX7_following_16 : decode cX7_following 16 = .ok (.bipush 30, 2) := by decide +kernel
theorem dX7_following_18 : decode cX7_following 18 = .ok (.if_icmp .ge 40, 3) := by decide +kernel
theorem dX7_following_21 : decode cX7_following 21 = .ok (.iload_n 2, 1) := by decide +kernel
theorem dX7_following_22 : decode cX7_following 22 = .ok (.bipush (-2), 2) := by decide +kernel
theorem dX7_following_24 : decode cX7_following 24 = .ok (.if_icmp .ne 34, 3) := by decide +kernel
theorem dX7_following_27 : decode cX7_following 27 = .ok (.iload_n 3, 1) := by decide +kernel
theorem dX7_following_28 : decode cX7_following 28 = .ok (.ifCond .le 30, 3) := by decide +kernel
theorem dX7_following_31 : decode cX7_following 31 = .ok (.aload_n 0, 1) := by decide +kernel
theorem dX7_following_32 : decode cX7_following 32 = .ok (.aload_n 0, 1) := by decide +kernel
theorem dX7_following_33 : decode cX7_following 33 = .ok (.getfield 17, 3) := by decide +kernel
theorem dX7_following_36 : decode cX7_following 36 = .ok (.iload_n 3, 1) := by decide +kernel
theorem dX7_following_37 : decode cX7_following 37 = .ok (.iaload, 1) := by decide +kernel
theorem dX7_following_38 : decode cX7_following 38 = .ok (.iload_n 3, 1) := by decide +kernel
theorem dX7_following_39 : decode cX7_following 39 = .ok (.iconst 1, 1) := by decide +kernel
theorem dX7_following_40 : decode cX7_following 40 = .ok (.iadd, 1) := by decide +kernel
theorem dX7_following_41 : decode cX7_following 41 = .ok (.invokevirtual 51, 3) := by decide +kernel
theorem dX7_following_44 : decode cX7_following 44 = .ok (.istore_n 2, 1) := by decide +kernel
theorem dX7_following_45 : decode cX7_following 45 = .ok (.aload_n 0, 1) := by decide +kernel
theorem dX7_following_46 : decode cX7_following 46 = .ok (.getfield 17, 3) := by decide +kernel
theorem dX7_following_49 : decode cX7_following 49 = .ok (.iload_n 3, 1) := by decide +kernel
theorem dX7_following_50 : decode cX7_following 50 = .ok (.iaload, 1) := by decide +kernel
theorem dX7_following_51 : decode cX7_following 51 = .ok (.istore_n 3, 1) := by decide +kernel
theorem dX7_following_52 : decode cX7_following 52 = .ok (.iinc 4 1, 3) := by decide +kernel
theorem dX7_following_55 : decode cX7_following 55 = .ok (.goto (-41), 3) := by decide +kernel
theorem dX7_following_58 : decode cX7_following 58 = .ok (.iload_n 2, 1) := by decide +kernel
theorem dX7_following_59 : decode cX7_following 59 = .ok (.bipush (-2), 2) := by decide +kernel
theorem dX7_following_61 : decode cX7_following 61 = .ok (.if_icmp .ne 7, 3) := by decide +kernel
theorem dX7_following_64 : decode cX7_following 64 = .ok (.iconst 0, 1) := by decide +kernel
theorem dX7_following_65 : decode cX7_following 65 = .ok (.goto 4, 3) := by decide +kernel
theorem dX7_following_68 : decode cX7_following 68 = .ok (.iload_n 2, 1) := by decide +kernel
theorem dX7_following_69 : decode cX7_following 69 = .ok (.ireturn, 1) := by decide +kernel
abbrev MX7_remove : ZM := (yX7_remove, cX7_remove, 6, (Option.none : Option FieldType), 1, 22)
theorem dX7_remove_0 : decode cX7_remove 0 = .ok (.iload_n 1, 1) := by decide +kernel
theorem dX7_remove_1 : decode cX7_remove 1 = .ok (.istore_n 2, 1) := by decide +kernel
theorem dX7_remove_2 : decode cX7_remove 2 = .ok (.aload_n 0, 1) := by decide +kernel
theorem dX7_remove_3 : decode cX7_remove 3 = .ok (.getfield 24, 3) := by decide +kernel
theorem dX7_remove_6 : decode cX7_remove 6 = .ok (.astore_n 3, 1) := by decide +kernel
theorem dX7_remove_7 : decode cX7_remove 7 = .ok (.iconst 0, 1) := by decide +kernel
theorem dX7_remove_8 : decode cX7_remove 8 = .ok (.istore 4, 2) := by decide +kernel
theorem dX7_remove_10 : decode cX7_remove 10 = .ok (.iload 4, 2) := by decide +kernel
theorem dX7_remove_12 : decode cX7_remove 12 = .ok (.iload_n 1, 1) := by decide +kernel
theorem dX7_remove_13 : decode cX7_remove 13 = .ok (.if_icmp .ge 15, 3) := by decide +kernel
theorem dX7_remove_16 : decode cX7_remove 16 = .ok (.aload_n 3, 1) := by decide +kernel
theorem dX7_remove_17 : decode cX7_remove 17 = .ok (.iload 4, 2) := by decide +kernel
theorem dX7_remove_19 : decode cX7_remove 19 = .ok (.iload 4, 2) := by decide +kernel
theorem dX7_remove_21 : decode cX7_remove 21 = .ok (.iastore, 1) := by decide +kernel
theorem dX7_remove_22 : decode cX7_remove 22 = .ok (.iinc 4 1, 3) := by decide +kernel
theorem dX7_remove_25 : decode cX7_remove 25 = .ok (.goto (-15), 3) := by decide +kernel
theorem dX7_remove_28 : decode cX7_remove 28 = .ok (.iload_n 1, 1) := by decide +kernel
theorem dX7_remove_29 : decode cX7_remove 29 = .ok (.istore 4, 2) := by decide +kernel
theorem dX7_remove_31 : decode cX7_remove 31 = .ok (.iload 4, 2) := by decide +kernel
theorem dX7_remove_33 : decode cX7_remove 33 = .ok (.aload_n 0, 1) := by decide +kernel
theorem dX7_remove_34 : decode cX7_remove 34 = .ok (.getfield 27, 3) := by decide +kernel
theorem dX7_remove_37 : decode cX7_remove 37 = .ok (.if_icmp .ge 100, 3) := by decide +kernel
theorem dX7_remove_40 : decode cX7_remove 40 = .ok (.iload 4, 2) := by decide +kernel
theorem dX7_remove_42 : decode cX7_remove 42 = .ok (.iload_n 1, 1) := by decide +kernel
theorem dX7_remove_43 : decode cX7_remove 43 = .ok (.if_icmp .eq 17, 3) := by decide +kernel
theorem dX7_remove_46 : decode cX7_remove 46 = .ok (.aload_n 3, 1) := by decide +kernel
theorem dX7_remove_47 : decode cX7_remove 47 = .ok (.aload_n 0, 1) := by decide +kernel
theorem dX7_remove_48 : decode cX7_remove 48 = .ok (.getfield 17, 3) := by decide +kernel
theorem dX7_remove_51 : decode cX7_remove 51 = .ok (.iload 4, 2) := by decide +kernel
theorem dX7_remove_53 : decode cX7_remove 53 = .ok (.iaload, 1) := by decide +kernel
theorem dX7_remove_54 : decode cX7_remove 54 = .ok (.iaload, 1) := by decide +kernel
theorem dX7_remove_55 : decode cX7_remove 55 = .ok (.bipush (-2), 2) := by decide +kernel
theorem dX7_remove_57 : decode cX7_remove 57 = .ok (.if_icmp .ne 7, 3) := by decide +kernel
theorem dX7_remove_60 : decode cX7_remove 60 = .ok (.iconst 1, 1) := by decide +kernel
theorem dX7_remove_61 : decode cX7_remove 61 = .ok (.goto 4, 3) := by decide +kernel
theorem dX7_remove_64 : decode cX7_remove 64 = .ok (.iconst 0, 1) := by decide +kernel
theorem dX7_remove_65 : decode cX7_remove 65 = .ok (.istore 5, 2) := by decide +kernel
theorem dX7_remove_67 : decode cX7_remove 67 = .ok (.aload_n 3, 1) := by decide +kernel
theorem dX7_remove_68 : decode cX7_remove 68 = .ok (.iload 4, 2) := by decide +kernel
theorem dX7_remove_70 : decode cX7_remove 70 = .ok (.iload 5, 2) := by decide +kernel
theorem dX7_remove_72 : decode cX7_remove 72 = .ok (.ifCond .eq 8, 3) := by decide +kernel
theorem dX7_remove_75 : decode cX7_remove 75 = .ok (.bipush (-2), 2) := by decide +kernel
theorem dX7_remove_77 : decode cX7_remove 77 = .ok (.goto 4, 3) := by decide +kernel
theorem dX7_remove_80 : decode cX7_remove 80 = .ok (.iload_n 2, 1) := by decide +kernel
theorem dX7_remove_81 : decode cX7_remove 81 = .ok (.iastore, 1) := by decide +kernel
theorem dX7_remove_82 : decode cX7_remove 82 = .ok (.iload 5, 2) := by decide +kernel
theorem dX7_remove_84 : decode cX7_remove 84 = .ok (.ifCond .ne 47, 3) := by decide +kernel
theorem dX7_remove_87 : decode cX7_remove 87 = .ok (.aload_n 0, 1) := by decide +kernel
theorem dX7_remove_88 : decode cX7_remove 88 = .ok (.getfield 11, 3) := by decide +kernel
theorem dX7_remove_91 : decode cX7_remove 91 = .ok (.iload_n 2, 1) := by decide +kernel
theorem dX7_remove_92 : decode cX7_remove 92 = .ok (.aload_n 0, 1) := by decide +kernel
theorem dX7_remove_93 : decode cX7_remove 93 = .ok (.getfield 11, 3) := by decide +kernel
theorem dX7_remove_96 : decode cX7_remove 96 = .ok (.iload 4, 2) := by decide +kernel
theorem dX7_remove_98 : decode cX7_remove 98 = .ok (.aaload, 1) := by decide +kernel
theorem dX7_remove_99 : decode cX7_remove 99 = .ok (.aastore, 1) := by decide +kernel
theorem dX7_remove_100 : decode cX7_remove 100 = .ok (.aload_n 0, 1) := by decide +kernel
theorem dX7_remove_101 : decode cX7_remove 101 = .ok (.getfield 21, 3) := by decide +kernel
theorem dX7_remove_104 : decode cX7_remove 104 = .ok (.iload_n 2, 1) := by decide +kernel
theorem dX7_remove_105 : decode cX7_remove 105 = .ok (.aload_n 0, 1) := by decide +kernel
theorem dX7_remove_106 : decode cX7_remove 106 = .ok (.getfield 21, 3) := by decide +kernel
theorem dX7_remove_109 : decode cX7_remove 109 = .ok (.iload 4, 2) := by decide +kernel
theorem dX7_remove_111 : decode cX7_remove 111 = .ok (.iaload, 1) := by decide +kernel
theorem dX7_remove_112 : decode cX7_remove 112 = .ok (.iastore, 1) := by decide +kernel
theorem dX7_remove_113 : decode cX7_remove 113 = .ok (.aload_n 0, 1) := by decide +kernel
theorem dX7_remove_114 : decode cX7_remove 114 = .ok (.getfield 17, 3) := by decide +kernel
theorem dX7_remove_117 : decode cX7_remove 117 = .ok (.iload_n 2, 1) := by decide +kernel
theorem dX7_remove_118 : decode cX7_remove 118 = .ok (.aload_n 3, 1) := by decide +kernel
theorem dX7_remove_119 : decode cX7_remove 119 = .ok (.aload_n 0, 1) := by decide +kernel
theorem dX7_remove_120 : decode cX7_remove 120 = .ok (.getfield 17, 3) := by decide +kernel
theorem dX7_remove_123 : decode cX7_remove 123 = .ok (.iload 4, 2) := by decide +kernel
theorem dX7_remove_125 : decode cX7_remove 125 = .ok (.iaload, 1) := by decide +kernel
theorem dX7_remove_126 : decode cX7_remove 126 = .ok (.iaload, 1) := by decide +kernel
theorem dX7_remove_127 : decode cX7_remove 127 = .ok (.iastore, 1) := by decide +kernel
theorem dX7_remove_128 : decode cX7_remove 128 = .ok (.iinc 2 1, 3) := by decide +kernel
theorem dX7_remove_131 : decode cX7_remove 131 = .ok (.iinc 4 1, 3) := by decide +kernel
theorem dX7_remove_134 : decode cX7_remove 134 = .ok (.goto (-103), 3) := by decide +kernel
theorem dX7_remove_137 : decode cX7_remove 137 = .ok (.aload_n 0, 1) := by decide +kernel
theorem dX7_remove_138 : decode cX7_remove 138 = .ok (.iload_n 2, 1) := by decide +kernel
theorem dX7_remove_139 : decode cX7_remove 139 = .ok (.invokevirtual 54, 3) := by decide +kernel
theorem dX7_remove_142 : decode cX7_remove 142 = .ok (.return_, 1) := by decide +kernel
