abbrev MX8_init : ZM := (yX8_init, cX8_init, 2, (Option.none : Option FieldType), 2, 60)
theorem dX8_init_0 : decode cX8_init 0 = .ok (.aload_n 0, 1) := by decide +kernel
theorem dX8_init_1 : decode cX8_init 1 = .ok (.invokespecial 3, 3) := by decide +kernel
theorem dX8_init_4 : decode cX8_init 4 = .ok (.aload_n 0, 1) := by decide +kernel
theorem dX8_init_5 : decode cX8_init 5 = .ok (.bipush 6, 2) := by decide +kernel
theorem dX8_init_7 : decode cX8_init 7 = .ok (.anewarray 11, 3) := by decide +kernel
theorem dX8_init_10 : decode cX8_init 10 = .ok (.putfield 13, 3) := by decide +kernel
theorem dX8_init_13 : decode cX8_init 13 = .ok (.aload_n 0, 1) := by decide +kernel
theorem dX8_init_14 : decode cX8_init 14 = .ok (.bipush 6, 2) := by decide +kernel
theorem dX8_init_16 : decode cX8_init 16 = .ok (.anewarray 11, 3) := by decide +kernel
theorem dX8_init_19 : decode cX8_init 19 = .ok (.putfield 17, 3) := by decide +kernel
theorem dX8_init_22 : decode cX8_init 22 = .ok (.aload_n 0, 1) := by decide +kernel
theorem dX8_init_23 : decode cX8_init 23 = .ok (.new 20, 3) := by decide +kernel
theorem dX8_init_26 : decode cX8_init 26 = .ok (.dup, 1) := by decide +kernel
theorem dX8_init_27 : decode cX8_init 27 = .ok (.invokespecial 22, 3) := by decide +kernel
theorem dX8_init_30 : decode cX8_init 30 = .ok (.putfield 23, 3) := by decide +kernel
theorem dX8_init_33 : decode cX8_init 33 = .ok (.aload_n 0, 1) := by decide +kernel
theorem dX8_init_34 : decode cX8_init 34 = .ok (.new 20, 3) := by decide +kernel
theorem dX8_init_37 : decode cX8_init 37 = .ok (.dup, 1) := by decide +kernel
theorem dX8_init_38 : decode cX8_init 38 = .ok (.invokespecial 22, 3) := by decide +kernel
theorem dX8_init_41 : decode cX8_init 41 = .ok (.putfield 27, 3) := by decide +kernel
theorem dX8_init_44 : decode cX8_init 44 = .ok (.aload_n 0, 1) := by decide +kernel
theorem dX8_init_45 : decode cX8_init 45 = .ok (.iconst 0, 1) := by decide +kernel
theorem dX8_init_46 : decode cX8_init 46 = .ok (.putfield 30, 3) := by decide +kernel
theorem dX8_init_49 : decode cX8_init 49 = .ok (.aload_n 0, 1) := by decide +kernel
theorem dX8_init_50 : decode cX8_init 50 = .ok (.iconst 4, 1) := by decide +kernel
theorem dX8_init_51 : decode cX8_init 51 = .ok (.anewarray 34, 3) := by decide +kernel
theorem dX8_init_54 : decode cX8_init 54 = .ok (.putfield 36, 3) := by decide +kernel
theorem dX8_init_57 : decode cX8_init 57 = .ok (.iconst 0, 1) := by decide +kernel
theorem dX8_init_58 : decode cX8_init 58 = .ok (.istore_n 1, 1) := by decide +kernel
theorem dX8_init_59 : decode cX8_init 59 = .ok (.iload_n 1, 1) := by decide +kernel
theorem dX8_init_60 : decode cX8_init 60 = .ok (.iconst 4, 1) := by decide +kernel
theorem dX8_init_61 : decode cX8_init 61 = .ok (.if_icmp .ge 22, 3) := by decide +kernel
theorem dX8_init_64 : decode cX8_init 64 = .ok (.aload_n 0, 1) := by decide +kernel
theorem dX8_init_65 : decode cX8_init 65 = .ok (.getfield 36, 3) := by decide +kernel
theorem dX8_init_68 : decode cX8_init 68 = .ok (.iload_n 1, 1) := by decide +kernel
theorem dX8_init_69 : decode cX8_init 69 = .ok (.new 34, 3) := by decide +kernel
theorem dX8_init_72 : decode cX8_init 72 = .ok (.dup, 1) := by decide +kernel
theorem dX8_init_73 : decode cX8_init 73 = .ok (.invokespecial 40, 3) := by decide +kernel
theorem dX8_init_76 : decode cX8_init 76 = .ok (.aastore, 1) := by decide +kernel
theorem dX8_init_77 : decode cX8_init 77 = .ok (.iinc 1 1, 3) := by decide +kernel
theorem dX8_init_80 : decode cX8_init 80 = .ok (.goto (-21), 3) := by decide +kernel
theorem dX8_init_83 : decode cX8_init 83 = .ok (.aload_n 0, 1) := by decide +kernel
theorem dX8_init_84 : decode cX8_init 84 = .ok (.new 41, 3) := by decide +kernel
theorem dX8_init_87 : decode cX8_init 87 = .ok (.dup, 1) := by decide +kernel
theorem dX8_init_88 : decode cX8_init 88 = .ok (.invokespecial 43, 3) := by decide +kernel
theorem dX8_init_91 : decode cX8_init 91 = .ok (.putfield 44, 3) := by decide +kernel
theorem dX8_init_94 : decode cX8_init 94 = .ok (.aload_n 0, 1) := by decide +kernel
theorem dX8_init_95 : decode cX8_init 95 = .ok (.new 48, 3) := by decide +kernel
theorem dX8_init_98 : decode cX8_init 98 = .ok (.dup, 1) := by decide +kernel
theorem dX8_init_99 : decode cX8_init 99 = .ok (.invokespecial 50, 3) := by decide +kernel
theorem dX8_init_102 : decode cX8_init 102 = .ok (.putfield 51, 3) := by decide +kernel
theorem dX8_init_105 : decode cX8_init 105 = .ok (.aload_n 0, 1) := by decide +kernel
theorem dX8_init_106 : decode cX8_init 106 = .ok (.new 55, 3) := by decide +kernel
theorem dX8_init_109 : decode cX8_init 109 = .ok (.dup, 1) := by decide +kernel
theorem dX8_init_110 : decode cX8_init 110 = .ok (.invokespecial 57, 3) := by decide +kernel
theorem dX8_init_113 : decode cX8_init 113 = .ok (.putfield 58, 3) := by decide +kernel
theorem dX8_init_116 : decode cX8_init 116 = .ok (.aload_n 0, 1) := by decide +kernel
theorem dX8_init_117 : decode cX8_init 117 = .ok (.new 62, 3) := by decide +kernel
theorem dX8_init_120 : decode cX8_init 120 = .ok (.dup, 1) := by decide +kernel
theorem dX8_init_121 : decode cX8_init 121 = .ok (.invokespecial 64, 3) := by decide +kernel
theorem dX8_init_124 : decode cX8_init 124 = .ok (.putfield 65, 3) := by decide +kernel
theorem dX8_init_127 : decode cX8_init 127 = .ok (.return_, 1) := by decide +kernel
abbrev MX8_single : ZM := (yX8_single, cX8_single, 3, (Option.some FieldType.int), 4, 106)
theorem dX8_single_0 : decode cX8_single 0 = .ok (.iload_n 1, 1) := by decide +kernel
theorem dX8_single_1 : decode cX8_single 1 = .ok (.invokestatic 69, 3) := by decide +kernel
theorem dX8_single_4 : decode cX8_single 4 = .ok (.ifCond .eq 14, 3) := by decide +kernel
theorem dX8_single_7 : decode cX8_single 7 = .ok (.iload_n 2, 1) := by decide +kernel
theorem dX8_single_8 : decode cX8_single 8 = .ok (.iconst 1, 1) := by decide +kernel
theorem dX8_single_9 : decode cX8_single 9 = .ok (.if_icmp .lt 9, 3) := by decide +kernel
theorem dX8_single_12 : decode cX8_single 12 = .ok (.iload_n 2, 1) := by decide +kernel
theorem dX8_single_13 : decode cX8_single 13 = .ok (.bipush 99, 2) := by decide +kernel
theorem dX8_single_15 : decode cX8_single 15 = .ok (.if_icmp .le 5, 3) := by decide +kernel
theorem dX8_single_18 : decode cX8_single 18 = .ok (.iconst (-1), 1) := by decide +kernel
theorem dX8_single_19 : decode cX8_single 19 = .ok (.ireturn, 1) := by decide +kernel
theorem dX8_single_20 : decode cX8_single 20 = .ok (.aload_n 0, 1) := by decide +kernel
theorem dX8_single_21 : decode cX8_single 21 = .ok (.getfield 44, 3) := by decide +kernel
theorem dX8_single_24 : decode cX8_single 24 = .ok (.iconst 1, 1) := by decide +kernel
theorem dX8_single_25 : decode cX8_single 25 = .ok (.invokevirtual 73, 3) := by decide +kernel
theorem dX8_single_28 : decode cX8_single 28 = .ok (.aload_n 0, 1) := by decide +kernel
theorem dX8_single_29 : decode cX8_single 29 = .ok (.getfield 44, 3) := by decide +kernel
theorem dX8_single_32 : decode cX8_single 32 = .ok (.iconst 0, 1) := by decide +kernel
theorem dX8_single_33 : decode cX8_single 33 = .ok (.iconst 0, 1) := by decide +kernel
theorem dX8_single_34 : decode cX8_single 34 = .ok (.iload_n 2, 1) := by decide +kernel
theorem dX8_single_35 : decode cX8_single 35 = .ok (.invokevirtual 77, 3) := by decide +kernel
theorem dX8_single_38 : decode cX8_single 38 = .ok (.aload_n 0, 1) := by decide +kernel
theorem dX8_single_39 : decode cX8_single 39 = .ok (.iload_n 1, 1) := by decide +kernel
theorem dX8_single_40 : decode cX8_single 40 = .ok (.invokevirtual 81, 3) := by decide +kernel
theorem dX8_single_43 : decode cX8_single 43 = .ok (.ifCond .eq 13, 3) := by decide +kernel
theorem dX8_single_46 : decode cX8_single 46 = .ok (.aload_n 0, 1) := by decide +kernel
theorem dX8_single_47 : decode cX8_single 47 = .ok (.getfield 44, 3) := by decide +kernel
theorem dX8_single_50 : decode cX8_single 50 = .ok (.getfield 84, 3) := by decide +kernel
theorem dX8_single_53 : decode cX8_single 53 = .ok (.goto 5, 3) := by decide +kernel
theorem dX8_single_56 : decode cX8_single 56 = .ok (.bipush (-5), 2) := by decide +kernel
theorem dX8_single_58 : decode cX8_single 58 = .ok (.ireturn, 1) := by decide +kernel
abbrev MX8_form : ZM := (yX8_form, cX8_form, 9, (Option.some FieldType.int), 4, 106)
theorem dX8_form_0 : decode cX8_form 0 = .ok (.iload_n 1, 1) := by decide +kernel
theorem dX8_form_1 : decode cX8_form 1 = .ok (.invokestatic 69, 3) := by decide +kernel
theorem dX8_form_4 : decode cX8_form 4 = .ok (.ifCond .eq 22, 3) := by decide +kernel
theorem dX8_form_7 : decode cX8_form 7 = .ok (.iload_n 2, 1) := by decide +kernel
theorem dX8_form_8 : decode cX8_form 8 = .ok (.invokestatic 88, 3) := by decide +kernel
theorem dX8_form_11 : decode cX8_form 11 = .ok (.ifCond .eq 15, 3) := by decide +kernel
theorem dX8_form_14 : decode cX8_form 14 = .ok (.iload 4, 2) := by decide +kernel
theorem dX8_form_16 : decode cX8_form 16 = .ok (.iconst 1, 1) := by decide +kernel
theorem dX8_form_17 : decode cX8_form 17 = .ok (.if_icmp .lt 9, 3) := by decide +kernel
theorem dX8_form_20 : decode cX8_form 20 = .ok (.iload 4, 2) := by decide +kernel
theorem dX8_form_22 : decode cX8_form 22 = .ok (.iconst 4, 1) := by decide +kernel
theorem dX8_form_23 : decode cX8_form 23 = .ok (.if_icmp .le 5, 3) := by decide +kernel
theorem dX8_form_26 : decode cX8_form 26 = .ok (.iconst (-1), 1) := by decide +kernel
theorem dX8_form_27 : decode cX8_form 27 = .ok (.ireturn, 1) := by decide +kernel
theorem dX8_form_28 : decode cX8_form 28 = .ok (.aload_n 0, 1) := by decide +kernel
theorem dX8_form_29 : decode cX8_form 29 = .ok (.getfield 36, 3) := by decide +kernel
theorem dX8_form_32 : decode cX8_form 32 = .ok (.iload_n 2, 1) := by decide +kernel
theorem dX8_form_33 : decode cX8_form 33 = .ok (.aaload, 1) := by decide +kernel
theorem dX8_form_34 : decode cX8_form 34 = .ok (.astore 5, 2) := by decide +kernel
theorem dX8_form_36 : decode cX8_form 36 = .ok (.aload 5, 2) := by decide +kernel
theorem dX8_form_38 : decode cX8_form 38 = .ok (.invokevirtual 91, 3) := by decide +kernel
theorem dX8_form_41 : decode cX8_form 41 = .ok (.ifCond .eq 6, 3) := by decide +kernel
theorem dX8_form_44 : decode cX8_form 44 = .ok (.bipush (-11), 2) := by decide +kernel
theorem dX8_form_46 : decode cX8_form 46 = .ok (.ireturn, 1) := by decide +kernel
theorem dX8_form_47 : decode cX8_form 47 = .ok (.aload 5, 2) := by decide +kernel
theorem dX8_form_49 : decode cX8_form 49 = .ok (.iload_n 3, 1) := by decide +kernel
theorem dX8_form_50 : decode cX8_form 50 = .ok (.iload 4, 2) := by decide +kernel
theorem dX8_form_52 : decode cX8_form 52 = .ok (.invokestatic 95, 3) := by decide +kernel
theorem dX8_form_55 : decode cX8_form 55 = .ok (.invokevirtual 99, 3) := by decide +kernel
theorem dX8_form_58 : decode cX8_form 58 = .ok (.ifCond .ne 6, 3) := by decide +kernel
theorem dX8_form_61 : decode cX8_form 61 = .ok (.bipush (-12), 2) := by decide +kernel
theorem dX8_form_63 : decode cX8_form 63 = .ok (.ireturn, 1) := by decide +kernel
theorem dX8_form_64 : decode cX8_form 64 = .ok (.aload_n 0, 1) := by decide +kernel
theorem dX8_form_65 : decode cX8_form 65 = .ok (.getfield 44, 3) := by decide +kernel
theorem dX8_form_68 : decode cX8_form 68 = .ok (.iload 4, 2) := by decide +kernel
theorem dX8_form_70 : decode cX8_form 70 = .ok (.invokevirtual 73, 3) := by decide +kernel
theorem dX8_form_73 : decode cX8_form 73 = .ok (.iload_n 3, 1) := by decide +kernel
theorem dX8_form_74 : decode cX8_form 74 = .ok (.istore 6, 2) := by decide +kernel
theorem dX8_form_76 : decode cX8_form 76 = .ok (.iconst 0, 1) := by decide +kernel
theorem dX8_form_77 : decode cX8_form 77 = .ok (.istore 7, 2) := by decide +kernel
theorem dX8_form_79 : decode cX8_form 79 = .ok (.iload 7, 2) := by decide +kernel
theorem dX8_form_81 : decode cX8_form 81 = .ok (.iload 4, 2) := by decide +kernel
theorem dX8_form_83 : decode cX8_form 83 = .ok (.if_icmp .ge 47, 3) := by decide +kernel
theorem dX8_form_86 : decode cX8_form 86 = .ok (.iconst 0, 1) := by decide +kernel
theorem dX8_form_87 : decode cX8_form 87 = .ok (.istore 8, 2) := by decide +kernel
theorem dX8_form_89 : decode cX8_form 89 = .ok (.iload 8, 2) := by decide +kernel
theorem dX8_form_91 : decode cX8_form 91 = .ok (.iload 7, 2) := by decide +kernel
theorem dX8_form_93 : decode cX8_form 93 = .ok (.if_icmp .gt 31, 3) := by decide +kernel
theorem dX8_form_96 : decode cX8_form 96 = .ok (.aload_n 0, 1) := by decide +kernel
theorem dX8_form_97 : decode cX8_form 97 = .ok (.getfield 44, 3) := by decide +kernel
theorem dX8_form_100 : decode cX8_form 100 = .ok (.iload 7, 2) := by decide +kernel
theorem dX8_form_102 : decode cX8_form 102 = .ok (.iload 8, 2) := by decide +kernel
theorem dX8_form_104 : decode cX8_form 104 = .ok (.aload 5, 2) := by decide +kernel
theorem dX8_form_106 : decode cX8_form 106 = .ok (.getfield 103, 3) := by decide +kernel
theorem dX8_form_109 : decode cX8_form 109 = .ok (.iload 6, 2) := by decide +kernel
theorem dX8_form_111 : decode cX8_form 111 = .ok (.iaload, 1) := by decide +kernel
theorem dX8_form_112 : decode cX8_form 112 = .ok (.invokevirtual 77, 3) := by decide +kernel
theorem dX8_form_115 : decode cX8_form 115 = .ok (.iinc 6 1, 3) := by decide +kernel
theorem dX8_form_118 : decode cX8_form 118 = .ok (.iinc 8 1, 3) := by decide +kernel
theorem dX8_form_121 : decode cX8_form 121 = .ok (.goto (-32), 3) := by decide +kernel
theorem dX8_form_124 : decode cX8_form 124 = .ok (.iinc 7 1, 3) := by decide +kernel
theorem dX8_form_127 : decode cX8_form 127 = .ok (.goto (-48), 3) := by decide +kernel
theorem dX8_form_130 : decode cX8_form 130 = .ok (.aload_n 0, 1) := by decide +kernel
theorem dX8_form_131 : decode cX8_form 131 = .ok (.getfield 44, 3) := by decide +kernel
theorem dX8_form_134 : decode cX8_form 134 = .ok (.invokevirtual 107, 3) := by decide +kernel
theorem dX8_form_137 : decode cX8_form 137 = .ok (.ifCond .ne 5, 3) := by decide +kernel
theorem dX8_form_140 : decode cX8_form 140 = .ok (.iconst (-1), 1) := by decide +kernel
theorem dX8_form_141 : decode cX8_form 141 = .ok (.ireturn, 1) := by decide +kernel
theorem dX8_form_142 : decode cX8_form 142 = .ok (.aload_n 0, 1) := by decide +kernel
theorem dX8_form_143 : decode cX8_form 143 = .ok (.iload_n 1, 1) := by decide +kernel
theorem dX8_form_144 : decode cX8_form 144 = .ok (.invokevirtual 81, 3) := by decide +kernel
theorem dX8_form_147 : decode cX8_form 147 = .ok (.ifCond .eq 8, 3) := by decide +kernel
theorem dX8_form_150 : decode cX8_form 150 = .ok (.iload 4, 2) := by decide +kernel
theorem dX8_form_152 : decode cX8_form 152 = .ok (.goto 5, 3) := by decide +kernel
theorem dX8_form_155 : decode cX8_form 155 = .ok (.bipush (-5), 2) := by decide +kernel
theorem dX8_form_157 : decode cX8_form 157 = .ok (.ireturn, 1) := by decide +kernel
abbrev MX8_spread : ZM := (yX8_spread, cX8_spread, 9, (Option.some FieldType.int), 2, 41)
theorem dX8_spread_0 : decode cX8_spread 0 = .ok (.aload_n 0, 1) := by decide +kernel
theorem dX8_spread_1 : decode cX8_spread 1 = .ok (.iload_n 1, 1) := by decide +kernel
theorem dX8_spread_2 : decode cX8_spread 2 = .ok (.invokevirtual 110, 3) := by decide +kernel
theorem dX8_spread_5 : decode cX8_spread 5 = .ok (.astore 4, 2) := by decide +kernel
theorem dX8_spread_7 : decode cX8_spread 7 = .ok (.aload 4, 2) := by decide +kernel
theorem dX8_spread_9 : decode cX8_spread 9 = .ok (.ifnull 10, 3) := by decide +kernel
theorem dX8_spread_12 : decode cX8_spread 12 = .ok (.iload_n 2, 1) := by decide +kernel
theorem dX8_spread_13 : decode cX8_spread 13 = .ok (.invokestatic 88, 3) := by decide +kernel
theorem dX8_spread_16 : decode cX8_spread 16 = .ok (.ifCond .ne 5, 3) := by decide +kernel
theorem dX8_spread_19 : decode cX8_spread 19 = .ok (.iconst (-1), 1) := by decide +kernel
theorem dX8_spread_20 : decode cX8_spread 20 = .ok (.ireturn, 1) := by decide +kernel
theorem dX8_spread_21 : decode cX8_spread 21 = .ok (.aload_n 0, 1) := by decide +kernel
theorem dX8_spread_22 : decode cX8_spread 22 = .ok (.getfield 36, 3) := by decide +kernel
theorem dX8_spread_25 : decode cX8_spread 25 = .ok (.iload_n 2, 1) := by decide +kernel
theorem dX8_spread_26 : decode cX8_spread 26 = .ok (.aaload, 1) := by decide +kernel
theorem dX8_spread_27 : decode cX8_spread 27 = .ok (.astore 5, 2) := by decide +kernel
theorem dX8_spread_29 : decode cX8_spread 29 = .ok (.aload 5, 2) := by decide +kernel
theorem dX8_spread_31 : decode cX8_spread 31 = .ok (.invokevirtual 91, 3) := by decide +kernel
theorem dX8_spread_34 : decode cX8_spread 34 = .ok (.ifCond .eq 6, 3) := by decide +kernel
theorem dX8_spread_37 : decode cX8_spread 37 = .ok (.bipush (-11), 2) := by decide +kernel
theorem dX8_spread_39 : decode cX8_spread 39 = .ok (.ireturn, 1) := by decide +kernel
theorem dX8_spread_40 : decode cX8_spread 40 = .ok (.aload 5, 2) := by decide +kernel
theorem dX8_spread_42 : decode cX8_spread 42 = .ok (.iload_n 3, 1) := by decide +kernel
theorem dX8_spread_43 : decode cX8_spread 43 = .ok (.aload 4, 2) := by decide +kernel
theorem dX8_spread_45 : decode cX8_spread 45 = .ok (.getfield 114, 3) := by decide +kernel
theorem dX8_spread_48 : decode cX8_spread 48 = .ok (.invokestatic 95, 3) := by decide +kernel
theorem dX8_spread_51 : decode cX8_spread 51 = .ok (.invokevirtual 99, 3) := by decide +kernel
theorem dX8_spread_54 : decode cX8_spread 54 = .ok (.ifCond .ne 6, 3) := by decide +kernel
theorem dX8_spread_57 : decode cX8_spread 57 = .ok (.bipush (-12), 2) := by decide +kernel
theorem dX8_spread_59 : decode cX8_spread 59 = .ok (.ireturn, 1) := by decide +kernel
theorem dX8_spread_60 : decode cX8_spread 60 = .ok (.iload_n 3, 1) := by decide +kernel
theorem dX8_spread_61 : decode cX8_spread 61 = .ok (.istore 6, 2) := by decide +kernel
theorem dX8_spread_63 : decode cX8_spread 63 = .ok (.iconst 0, 1) := by decide +kernel
theorem dX8_spread_64 : decode cX8_spread 64 = .ok (.istore 7, 2) := by decide +kernel
theorem dX8_spread_66 : decode cX8_spread 66 = .ok (.iload 7, 2) := by decide +kernel
theorem dX8_spread_68 : decode cX8_spread 68 = .ok (.aload 4, 2) := by decide +kernel
theorem dX8_spread_70 : decode cX8_spread 70 = .ok (.getfield 114, 3) := by decide +kernel
theorem dX8_spread_73 : decode cX8_spread 73 = .ok (.if_icmp .ge 48, 3) := by decide +kernel
theorem dX8_spread_76 : decode cX8_spread 76 = .ok (.iconst 0, 1) := by decide +kernel
theorem dX8_spread_77 : decode cX8_spread 77 = .ok (.istore 8, 2) := by decide +kernel
theorem dX8_spread_79 : decode cX8_spread 79 = .ok (.iload 8, 2) := by decide +kernel
theorem dX8_spread_81 : decode cX8_spread 81 = .ok (.iload 7, 2) := by decide +kernel
theorem dX8_spread_83 : decode cX8_spread 83 = .ok (.if_icmp .gt 32, 3) := by decide +kernel
theorem dX8_spread_86 : decode cX8_spread 86 = .ok (.aload 5, 2) := by decide +kernel
theorem dX8_spread_88 : decode cX8_spread 88 = .ok (.iload 6, 2) := by decide +kernel
theorem dX8_spread_90 : decode cX8_spread 90 = .ok (.aload 4, 2) := by decide +kernel
theorem dX8_spread_92 : decode cX8_spread 92 = .ok (.getfield 117, 3) := by decide +kernel
theorem dX8_spread_95 : decode cX8_spread 95 = .ok (.iconst 4, 1) := by decide +kernel
theorem dX8_spread_96 : decode cX8_spread 96 = .ok (.iload 7, 2) := by decide +kernel
theorem dX8_spread_98 : decode cX8_spread 98 = .ok (.imul, 1) := by decide +kernel
theorem dX8_spread_99 : decode cX8_spread 99 = .ok (.iload 8, 2) := by decide +kernel
theorem dX8_spread_101 : decode cX8_spread 101 = .ok (.iadd, 1) := by decide +kernel
theorem dX8_spread_102 : decode cX8_spread 102 = .ok (.iaload, 1) := by decide +kernel
theorem dX8_spread_103 : decode cX8_spread 103 = .ok (.invokevirtual 120, 3) := by decide +kernel
theorem dX8_spread_106 : decode cX8_spread 106 = .ok (.iinc 6 1, 3) := by decide +kernel
theorem dX8_spread_109 : decode cX8_spread 109 = .ok (.iinc 8 1, 3) := by decide +kernel
theorem dX8_spread_112 : decode cX8_spread 112 = .ok (.goto (-33), 3) := by decide +kernel
theorem dX8_spread_115 : decode cX8_spread 115 = .ok (.iinc 7 1, 3) := by decide +kernel
theorem dX8_spread_118 : decode cX8_spread 118 = .ok (.goto (-52), 3) := by decide +kernel
theorem dX8_spread_121 : decode cX8_spread 121 = .ok (.aload 4, 2) := by decide +kernel
theorem dX8_spread_123 : decode cX8_spread 123 = .ok (.getfield 114, 3) := by decide +kernel
theorem dX8_spread_126 : decode cX8_spread 126 = .ok (.invokestatic 95, 3) := by decide +kernel
theorem dX8_spread_129 : decode cX8_spread 129 = .ok (.ireturn, 1) := by decide +kernel
abbrev MX8_clear : ZM := (yX8_clear, cX8_clear, 3, (Option.some FieldType.int), 1, 20)
theorem dX8_clear_0 : decode cX8_clear 0 = .ok (.iload_n 1, 1) := by decide +kernel
theorem dX8_clear_1 : decode cX8_clear 1 = .ok (.invokestatic 69, 3) := by decide +kernel
theorem dX8_clear_4 : decode cX8_clear 4 = .ok (.ifCond .ne 5, 3) := by decide +kernel
theorem dX8_clear_7 : decode cX8_clear 7 = .ok (.iconst (-1), 1) := by decide +kernel
theorem dX8_clear_8 : decode cX8_clear 8 = .ok (.ireturn, 1) := by decide +kernel
theorem dX8_clear_9 : decode cX8_clear 9 = .ok (.aload_n 0, 1) := by decide +kernel
theorem dX8_clear_10 : decode cX8_clear 10 = .ok (.getfield 13, 3) := by decide +kernel
theorem dX8_clear_13 : decode cX8_clear 13 = .ok (.iload_n 1, 1) := by decide +kernel
theorem dX8_clear_14 : decode cX8_clear 14 = .ok (.aaload, 1) := by decide +kernel
theorem dX8_clear_15 : decode cX8_clear 15 = .ok (.ifnonnull 7, 3) := by decide +kernel
theorem dX8_clear_18 : decode cX8_clear 18 = .ok (.iconst 0, 1) := by decide +kernel
theorem dX8_clear_19 : decode cX8_clear 19 = .ok (.goto 12, 3) := by decide +kernel
theorem dX8_clear_22 : decode cX8_clear 22 = .ok (.aload_n 0, 1) := by decide +kernel
theorem dX8_clear_23 : decode cX8_clear 23 = .ok (.getfield 13, 3) := by decide +kernel
theorem dX8_clear_26 : decode cX8_clear 26 = .ok (.iload_n 1, 1) := by decide +kernel
theorem dX8_clear_27 : decode cX8_clear 27 = .ok (.aaload, 1) := by decide +kernel
theorem dX8_clear_28 : decode cX8_clear 28 = .ok (.getfield 114, 3) := by decide +kernel
theorem dX8_clear_31 : decode cX8_clear 31 = .ok (.istore_n 2, 1) := by decide +kernel
theorem dX8_clear_32 : decode cX8_clear 32 = .ok (.aload_n 0, 1) := by decide +kernel
theorem dX8_clear_33 : decode cX8_clear 33 = .ok (.getfield 13, 3) := by decide +kernel
theorem dX8_clear_36 : decode cX8_clear 36 = .ok (.iload_n 1, 1) := by decide +kernel
theorem dX8_clear_37 : decode cX8_clear 37 = .ok (.aconst_null, 1) := by decide +kernel
theorem dX8_clear_38 : decode cX8_clear 38 = .ok (.aastore, 1) := by decide +kernel
theorem dX8_clear_39 : decode cX8_clear 39 = .ok (.iload_n 2, 1) := by decide +kernel
theorem dX8_clear_40 : decode cX8_clear 40 = .ok (.ireturn, 1) := by decide +kernel
abbrev MX8_entry : ZM := (yX8_entry, cX8_entry, 6, (Option.some FieldType.int), 4, 106)
theorem dX8_entry_0 : decode cX8_entry 0 = .ok (.aload_n 0, 1) := by decide +kernel
theorem dX8_entry_1 : decode cX8_entry 1 = .ok (.iload_n 1, 1) := by decide +kernel
theorem dX8_entry_2 : decode cX8_entry 2 = .ok (.invokevirtual 110, 3) := by decide +kernel
theorem dX8_entry_5 : decode cX8_entry 5 = .ok (.astore 5, 2) := by decide +kernel
theorem dX8_entry_7 : decode cX8_entry 7 = .ok (.aload 5, 2) := by decide +kernel
theorem dX8_entry_9 : decode cX8_entry 9 = .ok (.ifnull 35, 3) := by decide +kernel
theorem dX8_entry_12 : decode cX8_entry 12 = .ok (.aload 5, 2) := by decide +kernel
theorem dX8_entry_14 : decode cX8_entry 14 = .ok (.iload_n 2, 1) := by decide +kernel
theorem dX8_entry_15 : decode cX8_entry 15 = .ok (.invokestatic 124, 3) := by decide +kernel
theorem dX8_entry_18 : decode cX8_entry 18 = .ok (.ifCond .eq 26, 3) := by decide +kernel
theorem dX8_entry_21 : decode cX8_entry 21 = .ok (.aload 5, 2) := by decide +kernel
theorem dX8_entry_23 : decode cX8_entry 23 = .ok (.iload_n 3, 1) := by decide +kernel
theorem dX8_entry_24 : decode cX8_entry 24 = .ok (.invokestatic 124, 3) := by decide +kernel
theorem dX8_entry_27 : decode cX8_entry 27 = .ok (.ifCond .eq 17, 3) := by decide +kernel
theorem dX8_entry_30 : decode cX8_entry 30 = .ok (.iload 4, 2) := by decide +kernel
theorem dX8_entry_32 : decode cX8_entry 32 = .ok (.bipush (-99), 2) := by decide +kernel
theorem dX8_entry_34 : decode cX8_entry 34 = .ok (.if_icmp .lt 10, 3) := by decide +kernel
theorem dX8_entry_37 : decode cX8_entry 37 = .ok (.iload 4, 2) := by decide +kernel
theorem dX8_entry_39 : decode cX8_entry 39 = .ok (.bipush 99, 2) := by decide +kernel
theorem dX8_entry_41 : decode cX8_entry 41 = .ok (.if_icmp .le 5, 3) := by decide +kernel
theorem dX8_entry_44 : decode cX8_entry 44 = .ok (.iconst (-1), 1) := by decide +kernel
theorem dX8_entry_45 : decode cX8_entry 45 = .ok (.ireturn, 1) := by decide +kernel
theorem dX8_entry_46 : decode cX8_entry 46 = .ok (.aload_n 0, 1) := by decide +kernel
theorem dX8_entry_47 : decode cX8_entry 47 = .ok (.getfield 44, 3) := by decide +kernel
theorem dX8_entry_50 : decode cX8_entry 50 = .ok (.aload 5, 2) := by decide +kernel
theorem dX8_entry_52 : decode cX8_entry 52 = .ok (.invokevirtual 128, 3) := by decide +kernel
theorem dX8_entry_55 : decode cX8_entry 55 = .ok (.aload_n 0, 1) := by decide +kernel
theorem dX8_entry_56 : decode cX8_entry 56 = .ok (.getfield 44, 3) := by decide +kernel
theorem dX8_entry_59 : decode cX8_entry 59 = .ok (.iload_n 2, 1) := by decide +kernel
theorem dX8_entry_60 : decode cX8_entry 60 = .ok (.iload_n 3, 1) := by decide +kernel
theorem dX8_entry_61 : decode cX8_entry 61 = .ok (.iload 4, 2) := by decide +kernel
theorem dX8_entry_63 : decode cX8_entry 63 = .ok (.invokevirtual 77, 3) := by decide +kernel
theorem dX8_entry_66 : decode cX8_entry 66 = .ok (.aload_n 0, 1) := by decide +kernel
theorem dX8_entry_67 : decode cX8_entry 67 = .ok (.iload_n 1, 1) := by decide +kernel
theorem dX8_entry_68 : decode cX8_entry 68 = .ok (.invokevirtual 81, 3) := by decide +kernel
theorem dX8_entry_71 : decode cX8_entry 71 = .ok (.ifCond .eq 13, 3) := by decide +kernel
theorem dX8_entry_74 : decode cX8_entry 74 = .ok (.aload_n 0, 1) := by decide +kernel
theorem dX8_entry_75 : decode cX8_entry 75 = .ok (.getfield 44, 3) := by decide +kernel
theorem dX8_entry_78 : decode cX8_entry 78 = .ok (.getfield 84, 3) := by decide +kernel
theorem dX8_entry_81 : decode cX8_entry 81 = .ok (.goto 5, 3) := by decide +kernel
theorem dX8_entry_84 : decode cX8_entry 84 = .ok (.bipush (-5), 2) := by decide +kernel
theorem dX8_entry_86 : decode cX8_entry 86 = .ok (.ireturn, 1) := by decide +kernel
abbrev MX8_at : ZM := (yX8_at, cX8_at, 5, (Option.some FieldType.int), 2, 41)
theorem dX8_at_0 : decode cX8_at 0 = .ok (.aload_n 0, 1) := by decide +kernel
theorem dX8_at_1 : decode cX8_at 1 = .ok (.iload_n 1, 1) := by decide +kernel
theorem dX8_at_2 : decode cX8_at 2 = .ok (.invokevirtual 110, 3) := by decide +kernel
theorem dX8_at_5 : decode cX8_at 5 = .ok (.astore 4, 2) := by decide +kernel
theorem dX8_at_7 : decode cX8_at 7 = .ok (.aload 4, 2) := by decide +kernel
theorem dX8_at_9 : decode cX8_at 9 = .ok (.ifnull 21, 3) := by decide +kernel
theorem dX8_at_12 : decode cX8_at 12 = .ok (.aload 4, 2) := by decide +kernel
theorem dX8_at_14 : decode cX8_at 14 = .ok (.iload_n 2, 1) := by decide +kernel
theorem dX8_at_15 : decode cX8_at 15 = .ok (.invokestatic 124, 3) := by decide +kernel
theorem dX8_at_18 : decode cX8_at 18 = .ok (.ifCond .eq 12, 3) := by decide +kernel
theorem dX8_at_21 : decode cX8_at 21 = .ok (.aload 4, 2) := by decide +kernel
theorem dX8_at_23 : decode cX8_at 23 = .ok (.iload_n 3, 1) := by decide +kernel
theorem dX8_at_24 : decode cX8_at 24 = .ok (.invokestatic 124, 3) := by decide +kernel
theorem dX8_at_27 : decode cX8_at 27 = .ok (.ifCond .ne 6, 3) := by decide +kernel
theorem dX8_at_30 : decode cX8_at 30 = .ok (.ldc 132, 2) := by decide +kernel
theorem dX8_at_32 : decode cX8_at 32 = .ok (.ireturn, 1) := by decide +kernel
theorem dX8_at_33 : decode cX8_at 33 = .ok (.aload 4, 2) := by decide +kernel
theorem dX8_at_35 : decode cX8_at 35 = .ok (.getfield 117, 3) := by decide +kernel
theorem dX8_at_38 : decode cX8_at 38 = .ok (.iconst 4, 1) := by decide +kernel
theorem dX8_at_39 : decode cX8_at 39 = .ok (.iload_n 2, 1) := by decide +kernel
theorem dX8_at_40 : decode cX8_at 40 = .ok (.imul, 1) := by decide +kernel
theorem dX8_at_41 : decode cX8_at 41 = .ok (.iload_n 3, 1) := by decide +kernel
theorem dX8_at_42 : decode cX8_at 42 = .ok (.iadd, 1) := by decide +kernel
theorem dX8_at_43 : decode cX8_at 43 = .ok (.iaload, 1) := by decide +kernel
theorem dX8_at_44 : decode cX8_at 44 = .ok (.ireturn, 1) := by decide +kernel
abbrev MX8_minor : ZM := (yX8_minor, cX8_minor, 4, (Option.some FieldType.int), 2, 61)
theorem dX8_minor_0 : decode cX8_minor 0 = .ok (.aload_n 0, 1) := by decide +kernel
theorem dX8_minor_1 : decode cX8_minor 1 = .ok (.iload_n 1, 1) := by decide +kernel
theorem dX8_minor_2 : decode cX8_minor 2 = .ok (.invokevirtual 110, 3) := by decide +kernel
theorem dX8_minor_5 : decode cX8_minor 5 = .ok (.astore_n 3, 1) := by decide +kernel
theorem dX8_minor_6 : decode cX8_minor 6 = .ok (.aload_n 3, 1) := by decide +kernel
theorem dX8_minor_7 : decode cX8_minor 7 = .ok (.ifnull 15, 3) := by decide +kernel
theorem dX8_minor_10 : decode cX8_minor 10 = .ok (.iload_n 2, 1) := by decide +kernel
theorem dX8_minor_11 : decode cX8_minor 11 = .ok (.ifCond .lt 11, 3) := by decide +kernel
theorem dX8_minor_14 : decode cX8_minor 14 = .ok (.iload_n 2, 1) := by decide +kernel
theorem dX8_minor_15 : decode cX8_minor 15 = .ok (.aload_n 3, 1) := by decide +kernel
theorem dX8_minor_16 : decode cX8_minor 16 = .ok (.getfield 114, 3) := by decide +kernel
theorem dX8_minor_19 : decode cX8_minor 19 = .ok (.if_icmp .le 5, 3) := by decide +kernel
theorem dX8_minor_22 : decode cX8_minor 22 = .ok (.iconst (-1), 1) := by decide +kernel
theorem dX8_minor_23 : decode cX8_minor 23 = .ok (.ireturn, 1) := by decide +kernel
theorem dX8_minor_24 : decode cX8_minor 24 = .ok (.aload_n 0, 1) := by decide +kernel
theorem dX8_minor_25 : decode cX8_minor 25 = .ok (.getfield 44, 3) := by decide +kernel
theorem dX8_minor_28 : decode cX8_minor 28 = .ok (.aload_n 3, 1) := by decide +kernel
theorem dX8_minor_29 : decode cX8_minor 29 = .ok (.invokevirtual 128, 3) := by decide +kernel
theorem dX8_minor_32 : decode cX8_minor 32 = .ok (.aload_n 0, 1) := by decide +kernel
theorem dX8_minor_33 : decode cX8_minor 33 = .ok (.getfield 44, 3) := by decide +kernel
theorem dX8_minor_36 : decode cX8_minor 36 = .ok (.iconst 1, 1) := by decide +kernel
theorem dX8_minor_37 : decode cX8_minor 37 = .ok (.iload_n 2, 1) := by decide +kernel
theorem dX8_minor_38 : decode cX8_minor 38 = .ok (.ishl, 1) := by decide +kernel
theorem dX8_minor_39 : decode cX8_minor 39 = .ok (.iconst 1, 1) := by decide +kernel
theorem dX8_minor_40 : decode cX8_minor 40 = .ok (.isub, 1) := by decide +kernel
theorem dX8_minor_41 : decode cX8_minor 41 = .ok (.invokevirtual 133, 3) := by decide +kernel
theorem dX8_minor_44 : decode cX8_minor 44 = .ok (.l2i, 1) := by decide +kernel
theorem dX8_minor_45 : decode cX8_minor 45 = .ok (.ireturn, 1) := by decide +kernel
abbrev MX8_of : ZM := (yX8_of, cX8_of, 4, (Option.some FieldType.int), 2, 43)
theorem dX8_of_0 : decode cX8_of 0 = .ok (.iload_n 1, 1) := by decide +kernel
theorem dX8_of_1 : decode cX8_of 1 = .ok (.invokestatic 69, 3) := by decide +kernel
theorem dX8_of_4 : decode cX8_of 4 = .ok (.ifCond .eq 12, 3) := by decide +kernel
theorem dX8_of_7 : decode cX8_of 7 = .ok (.iload_n 2, 1) := by decide +kernel
theorem dX8_of_8 : decode cX8_of 8 = .ok (.ifCond .lt 8, 3) := by decide +kernel
theorem dX8_of_11 : decode cX8_of 11 = .ok (.iload_n 2, 1) := by decide +kernel
theorem dX8_of_12 : decode cX8_of 12 = .ok (.iconst 3, 1) := by decide +kernel
theorem dX8_of_13 : decode cX8_of 13 = .ok (.if_icmp .le 5, 3) := by decide +kernel
theorem dX8_of_16 : decode cX8_of 16 = .ok (.iconst (-1), 1) := by decide +kernel
theorem dX8_of_17 : decode cX8_of 17 = .ok (.ireturn, 1) := by decide +kernel
theorem dX8_of_18 : decode cX8_of 18 = .ok (.aload_n 0, 1) := by decide +kernel
theorem dX8_of_19 : decode cX8_of 19 = .ok (.getfield 13, 3) := by decide +kernel
theorem dX8_of_22 : decode cX8_of 22 = .ok (.iload_n 1, 1) := by decide +kernel
theorem dX8_of_23 : decode cX8_of 23 = .ok (.aaload, 1) := by decide +kernel
theorem dX8_of_24 : decode cX8_of 24 = .ok (.astore_n 3, 1) := by decide +kernel
theorem dX8_of_25 : decode cX8_of 25 = .ok (.aload_n 3, 1) := by decide +kernel
theorem dX8_of_26 : decode cX8_of 26 = .ok (.ifnonnull 14, 3) := by decide +kernel
theorem dX8_of_29 : decode cX8_of 29 = .ok (.iload_n 2, 1) := by decide +kernel
theorem dX8_of_30 : decode cX8_of 30 = .ok (.ifCond .ne 7, 3) := by decide +kernel
theorem dX8_of_33 : decode cX8_of 33 = .ok (.iconst 0, 1) := by decide +kernel
theorem dX8_of_34 : decode cX8_of 34 = .ok (.goto 5, 3) := by decide +kernel
theorem dX8_of_37 : decode cX8_of 37 = .ok (.bipush (-2), 2) := by decide +kernel
theorem dX8_of_39 : decode cX8_of 39 = .ok (.ireturn, 1) := by decide +kernel
theorem dX8_of_40 : decode cX8_of 40 = .ok (.iload_n 2, 1) := by decide +kernel
theorem dX8_of_41 : decode cX8_of 41 = .ok (.tableswitch 42 0 2 #[27, 32, 37], 27) := by decide +kernel
theorem dX8_of_68 : decode cX8_of 68 = .ok (.aload_n 3, 1) := by decide +kernel
theorem dX8_of_69 : decode cX8_of 69 = .ok (.getfield 114, 3) := by decide +kernel
theorem dX8_of_72 : decode cX8_of 72 = .ok (.ireturn, 1) := by decide +kernel
theorem dX8_of_73 : decode cX8_of 73 = .ok (.aload_n 3, 1) := by decide +kernel
theorem dX8_of_74 : decode cX8_of 74 = .ok (.getfield 137, 3) := by decide +kernel
theorem dX8_of_77 : decode cX8_of 77 = .ok (.ireturn, 1) := by decide +kernel
theorem dX8_of_78 : decode cX8_of 78 = .ok (.aload_n 3, 1) := by decide +kernel
theorem dX8_of_79 : decode cX8_of 79 = .ok (.getfield 138, 3) := by decide +kernel
theorem dX8_of_82 : decode cX8_of 82 = .ok (.ireturn, 1) := by decide +kernel
theorem dX8_of_83 : decode cX8_of 83 = .ok (.aload_n 3, 1) := by decide +kernel
theorem dX8_of_84 : decode cX8_of 84 = .ok (.invokevirtual 141, 3) := by decide +kernel
theorem dX8_of_87 : decode cX8_of 87 = .ok (.ireturn, 1) := by decide +kernel
abbrev MX8_worth : ZM := (yX8_worth, cX8_worth, 19, (Option.some FieldType.long), 2, 41)
theorem dX8_worth_0 : decode cX8_worth 0 = .ok (.aload_n 0, 1) := by decide +kernel
theorem dX8_worth_1 : decode cX8_worth 1 = .ok (.iload_n 1, 1) := by decide +kernel
theorem dX8_worth_2 : decode cX8_worth 2 = .ok (.invokevirtual 110, 3) := by decide +kernel
theorem dX8_worth_5 : decode cX8_worth 5 = .ok (.astore 6, 2) := by decide +kernel
theorem dX8_worth_7 : decode cX8_worth 7 = .ok (.aload 6, 2) := by decide +kernel
theorem dX8_worth_9 : decode cX8_worth 9 = .ok (.ifnonnull 7, 3) := by decide +kernel
theorem dX8_worth_12 : decode cX8_worth 12 = .ok (.ldc2_w 145, 3) := by decide +kernel
theorem dX8_worth_15 : decode cX8_worth 15 = .ok (.lreturn, 1) := by decide +kernel
theorem dX8_worth_16 : decode cX8_worth 16 = .ok (.iconst 4, 1) := by decide +kernel
theorem dX8_worth_17 : decode cX8_worth 17 = .ok (.newarray .long, 2) := by decide +kernel
theorem dX8_worth_19 : decode cX8_worth 19 = .ok (.dup, 1) := by decide +kernel
theorem dX8_worth_20 : decode cX8_worth 20 = .ok (.iconst 0, 1) := by decide +kernel
theorem dX8_worth_21 : decode cX8_worth 21 = .ok (.iload_n 2, 1) := by decide +kernel
theorem dX8_worth_22 : decode cX8_worth 22 = .ok (.i2l, 1) := by decide +kernel
theorem dX8_worth_23 : decode cX8_worth 23 = .ok (.lastore, 1) := by decide +kernel
theorem dX8_worth_24 : decode cX8_worth 24 = .ok (.dup, 1) := by decide +kernel
theorem dX8_worth_25 : decode cX8_worth 25 = .ok (.iconst 1, 1) := by decide +kernel
theorem dX8_worth_26 : decode cX8_worth 26 = .ok (.iload_n 3, 1) := by decide +kernel
theorem dX8_worth_27 : decode cX8_worth 27 = .ok (.i2l, 1) := by decide +kernel
theorem dX8_worth_28 : decode cX8_worth 28 = .ok (.lastore, 1) := by decide +kernel
theorem dX8_worth_29 : decode cX8_worth 29 = .ok (.dup, 1) := by decide +kernel
theorem dX8_worth_30 : decode cX8_worth 30 = .ok (.iconst 2, 1) := by decide +kernel
theorem dX8_worth_31 : decode cX8_worth 31 = .ok (.iload 4, 2) := by decide +kernel
theorem dX8_worth_33 : decode cX8_worth 33 = .ok (.i2l, 1) := by decide +kernel
theorem dX8_worth_34 : decode cX8_worth 34 = .ok (.lastore, 1) := by decide +kernel
theorem dX8_worth_35 : decode cX8_worth 35 = .ok (.dup, 1) := by decide +kernel
theorem dX8_worth_36 : decode cX8_worth 36 = .ok (.iconst 3, 1) := by decide +kernel
theorem dX8_worth_37 : decode cX8_worth 37 = .ok (.iload 5, 2) := by decide +kernel
theorem dX8_worth_39 : decode cX8_worth 39 = .ok (.i2l, 1) := by decide +kernel
theorem dX8_worth_40 : decode cX8_worth 40 = .ok (.lastore, 1) := by decide +kernel
theorem dX8_worth_41 : decode cX8_worth 41 = .ok (.astore 7, 2) := by decide +kernel
theorem dX8_worth_43 : decode cX8_worth 43 = .ok (.ldc2_w 147, 3) := by decide +kernel
theorem dX8_worth_46 : decode cX8_worth 46 = .ok (.lstore 8, 2) := by decide +kernel
theorem dX8_worth_48 : decode cX8_worth 48 = .ok (.lconst 0, 1) := by decide +kernel
theorem dX8_worth_49 : decode cX8_worth 49 = .ok (.lstore 10, 2) := by decide +kernel
theorem dX8_worth_51 : decode cX8_worth 51 = .ok (.iconst 0, 1) := by decide +kernel
theorem dX8_worth_52 : decode cX8_worth 52 = .ok (.istore 12, 2) := by decide +kernel
theorem dX8_worth_54 : decode cX8_worth 54 = .ok (.iload 12, 2) := by decide +kernel
theorem dX8_worth_56 : decode cX8_worth 56 = .ok (.aload 6, 2) := by decide +kernel
theorem dX8_worth_58 : decode cX8_worth 58 = .ok (.getfield 114, 3) := by decide +kernel
theorem dX8_worth_61 : decode cX8_worth 61 = .ok (.if_icmp .ge 114, 3) := by decide +kernel
theorem dX8_worth_64 : decode cX8_worth 64 = .ok (.iconst 0, 1) := by decide +kernel
theorem dX8_worth_65 : decode cX8_worth 65 = .ok (.istore 13, 2) := by decide +kernel
theorem dX8_worth_67 : decode cX8_worth 67 = .ok (.iload 13, 2) := by decide +kernel
theorem dX8_worth_69 : decode cX8_worth 69 = .ok (.aload 6, 2) := by decide +kernel
theorem dX8_worth_71 : decode cX8_worth 71 = .ok (.getfield 114, 3) := by decide +kernel
theorem dX8_worth_74 : decode cX8_worth 74 = .ok (.if_icmp .ge 95, 3) := by decide +kernel
theorem dX8_worth_77 : decode cX8_worth 77 = .ok (.aload 7, 2) := by decide +kernel
theorem dX8_worth_79 : decode cX8_worth 79 = .ok (.iload 12, 2) := by decide +kernel
theorem dX8_worth_81 : decode cX8_worth 81 = .ok (.laload, 1) := by decide +kernel
theorem dX8_worth_82 : decode cX8_worth 82 = .ok (.aload 7, 2) := by decide +kernel
theorem dX8_worth_84 : decode cX8_worth 84 = .ok (.iload 13, 2) := by decide +kernel
theorem dX8_worth_86 : decode cX8_worth 86 = .ok (.laload, 1) := by decide +kernel
theorem dX8_worth_87 : decode cX8_worth 87 = .ok (.lmul, 1) := by decide +kernel
theorem dX8_worth_88 : decode cX8_worth 88 = .ok (.lstore 14, 2) := by decide +kernel
theorem dX8_worth_90 : decode cX8_worth 90 = .ok (.aload 6, 2) := by decide +kernel
theorem dX8_worth_92 : decode cX8_worth 92 = .ok (.getfield 117, 3) := by decide +kernel
theorem dX8_worth_95 : decode cX8_worth 95 = .ok (.iconst 4, 1) := by decide +kernel
theorem dX8_worth_96 : decode cX8_worth 96 = .ok (.iload 12, 2) := by decide +kernel
theorem dX8_worth_98 : decode cX8_worth 98 = .ok (.imul, 1) := by decide +kernel
theorem dX8_worth_99 : decode cX8_worth 99 = .ok (.iload 13, 2) := by decide +kernel
theorem dX8_worth_101 : decode cX8_worth 101 = .ok (.iadd, 1) := by decide +kernel
theorem dX8_worth_102 : decode cX8_worth 102 = .ok (.iaload, 1) := by decide +kernel
theorem dX8_worth_103 : decode cX8_worth 103 = .ok (.istore 16, 2) := by decide +kernel
theorem dX8_worth_105 : decode cX8_worth 105 = .ok (.lload 14, 2) := by decide +kernel
theorem dX8_worth_107 : decode cX8_worth 107 = .ok (.invokestatic 149, 3) := by decide +kernel
theorem dX8_worth_110 : decode cX8_worth 110 = .ok (.lstore 17, 2) := by decide +kernel
theorem dX8_worth_112 : decode cX8_worth 112 = .ok (.lload 17, 2) := by decide +kernel
theorem dX8_worth_114 : decode cX8_worth 114 = .ok (.lconst 0, 1) := by decide +kernel
theorem dX8_worth_115 : decode cX8_worth 115 = .ok (.lcmp, 1) := by decide +kernel
theorem dX8_worth_116 : decode cX8_worth 116 = .ok (.ifCond .eq 22, 3) := by decide +kernel
theorem dX8_worth_119 : decode cX8_worth 119 = .ok (.iload 16, 2) := by decide +kernel
theorem dX8_worth_121 : decode cX8_worth 121 = .ok (.invokestatic 155, 3) := by decide +kernel
theorem dX8_worth_124 : decode cX8_worth 124 = .ok (.i2l, 1) := by decide +kernel
theorem dX8_worth_125 : decode cX8_worth 125 = .ok (.lload 8, 2) := by decide +kernel
theorem dX8_worth_127 : decode cX8_worth 127 = .ok (.lload 17, 2) := by decide +kernel
theorem dX8_worth_129 : decode cX8_worth 129 = .ok (.ldiv, 1) := by decide +kernel
theorem dX8_worth_130 : decode cX8_worth 130 = .ok (.lcmp, 1) := by decide +kernel
theorem dX8_worth_131 : decode cX8_worth 131 = .ok (.ifCond .le 7, 3) := by decide +kernel
theorem dX8_worth_134 : decode cX8_worth 134 = .ok (.ldc2_w 157, 3) := by decide +kernel
theorem dX8_worth_137 : decode cX8_worth 137 = .ok (.lreturn, 1) := by decide +kernel
theorem dX8_worth_138 : decode cX8_worth 138 = .ok (.lload 8, 2) := by decide +kernel
theorem dX8_worth_140 : decode cX8_worth 140 = .ok (.iload 16, 2) := by decide +kernel
theorem dX8_worth_142 : decode cX8_worth 142 = .ok (.invokestatic 155, 3) := by decide +kernel
theorem dX8_worth_145 : decode cX8_worth 145 = .ok (.i2l, 1) := by decide +kernel
theorem dX8_worth_146 : decode cX8_worth 146 = .ok (.lload 17, 2) := by decide +kernel
theorem dX8_worth_148 : decode cX8_worth 148 = .ok (.lmul, 1) := by decide +kernel
theorem dX8_worth_149 : decode cX8_worth 149 = .ok (.lsub, 1) := by decide +kernel
theorem dX8_worth_150 : decode cX8_worth 150 = .ok (.lstore 8, 2) := by decide +kernel
theorem dX8_worth_152 : decode cX8_worth 152 = .ok (.lload 10, 2) := by decide +kernel
theorem dX8_worth_154 : decode cX8_worth 154 = .ok (.iload 16, 2) := by decide +kernel
theorem dX8_worth_156 : decode cX8_worth 156 = .ok (.i2l, 1) := by decide +kernel
theorem dX8_worth_157 : decode cX8_worth 157 = .ok (.lload 14, 2) := by decide +kernel
theorem dX8_worth_159 : decode cX8_worth 159 = .ok (.lmul, 1) := by decide +kernel
theorem dX8_worth_160 : decode cX8_worth 160 = .ok (.ladd, 1) := by decide +kernel
theorem dX8_worth_161 : decode cX8_worth 161 = .ok (.lstore 10, 2) := by decide +kernel
theorem dX8_worth_163 : decode cX8_worth 163 = .ok (.iinc 13 1, 3) := by decide +kernel
theorem dX8_worth_166 : decode cX8_worth 166 = .ok (.goto (-99), 3) := by decide +kernel
theorem dX8_worth_169 : decode cX8_worth 169 = .ok (.iinc 12 1, 3) := by decide +kernel
theorem dX8_worth_172 : decode cX8_worth 172 = .ok (.goto (-118), 3) := by decide +kernel
theorem dX8_worth_175 : decode cX8_worth 175 = .ok (.lload 10, 2) := by decide +kernel
theorem dX8_worth_177 : decode cX8_worth 177 = .ok (.lreturn, 1) := by decide +kernel
abbrev MX8_change : ZM := (yX8_change, cX8_change, 6, (Option.some FieldType.int), 4, 106)
theorem dX8_change_0 : decode cX8_change 0 = .ok (.aload_n 0, 1) := by decide +kernel
theorem dX8_change_1 : decode cX8_change 1 = .ok (.iload_n 1, 1) := by decide +kernel
theorem dX8_change_2 : decode cX8_change 2 = .ok (.invokevirtual 110, 3) := by decide +kernel
theorem dX8_change_5 : decode cX8_change 5 = .ok (.astore 5, 2) := by decide +kernel
theorem dX8_change_7 : decode cX8_change 7 = .ok (.aload 5, 2) := by decide +kernel
theorem dX8_change_9 : decode cX8_change 9 = .ok (.ifnull 40, 3) := by decide +kernel
theorem dX8_change_12 : decode cX8_change 12 = .ok (.aload 5, 2) := by decide +kernel
theorem dX8_change_14 : decode cX8_change 14 = .ok (.iload_n 2, 1) := by decide +kernel
theorem dX8_change_15 : decode cX8_change 15 = .ok (.invokestatic 124, 3) := by decide +kernel
theorem dX8_change_18 : decode cX8_change 18 = .ok (.ifCond .eq 31, 3) := by decide +kernel
theorem dX8_change_21 : decode cX8_change 21 = .ok (.aload 5, 2) := by decide +kernel
theorem dX8_change_23 : decode cX8_change 23 = .ok (.iload_n 3, 1) := by decide +kernel
theorem dX8_change_24 : decode cX8_change 24 = .ok (.invokestatic 124, 3) := by decide +kernel
theorem dX8_change_27 : decode cX8_change 27 = .ok (.ifCond .eq 22, 3) := by decide +kernel
theorem dX8_change_30 : decode cX8_change 30 = .ok (.iload_n 2, 1) := by decide +kernel
theorem dX8_change_31 : decode cX8_change 31 = .ok (.iload_n 3, 1) := by decide +kernel
theorem dX8_change_32 : decode cX8_change 32 = .ok (.if_icmp .eq 17, 3) := by decide +kernel
theorem dX8_change_35 : decode cX8_change 35 = .ok (.iload 4, 2) := by decide +kernel
theorem dX8_change_37 : decode cX8_change 37 = .ok (.bipush (-9), 2) := by decide +kernel
theorem dX8_change_39 : decode cX8_change 39 = .ok (.if_icmp .lt 10, 3) := by decide +kernel
theorem dX8_change_42 : decode cX8_change 42 = .ok (.iload 4, 2) := by decide +kernel
theorem dX8_change_44 : decode cX8_change 44 = .ok (.bipush 9, 2) := by decide +kernel
theorem dX8_change_46 : decode cX8_change 46 = .ok (.if_icmp .le 5, 3) := by decide +kernel
theorem dX8_change_49 : decode cX8_change 49 = .ok (.iconst (-1), 1) := by decide +kernel
theorem dX8_change_50 : decode cX8_change 50 = .ok (.ireturn, 1) := by decide +kernel
theorem dX8_change_51 : decode cX8_change 51 = .ok (.aload_n 0, 1) := by decide +kernel
theorem dX8_change_52 : decode cX8_change 52 = .ok (.getfield 44, 3) := by decide +kernel
theorem dX8_change_55 : decode cX8_change 55 = .ok (.aload 5, 2) := by decide +kernel
theorem dX8_change_57 : decode cX8_change 57 = .ok (.invokevirtual 128, 3) := by decide +kernel
theorem dX8_change_60 : decode cX8_change 60 = .ok (.aload_n 0, 1) := by decide +kernel
theorem dX8_change_61 : decode cX8_change 61 = .ok (.getfield 44, 3) := by decide +kernel
theorem dX8_change_64 : decode cX8_change 64 = .ok (.iload_n 2, 1) := by decide +kernel
theorem dX8_change_65 : decode cX8_change 65 = .ok (.iload_n 3, 1) := by decide +kernel
theorem dX8_change_66 : decode cX8_change 66 = .ok (.iload 4, 2) := by decide +kernel
theorem dX8_change_68 : decode cX8_change 68 = .ok (.invokevirtual 159, 3) := by decide +kernel
theorem dX8_change_71 : decode cX8_change 71 = .ok (.aload_n 0, 1) := by decide +kernel
theorem dX8_change_72 : decode cX8_change 72 = .ok (.iload_n 1, 1) := by decide +kernel
theorem dX8_change_73 : decode cX8_change 73 = .ok (.invokevirtual 81, 3) := by decide +kernel
theorem dX8_change_76 : decode cX8_change 76 = .ok (.ifCond .eq 13, 3) := by decide +kernel
theorem dX8_change_79 : decode cX8_change 79 = .ok (.aload_n 0, 1) := by decide +kernel
theorem dX8_change_80 : decode cX8_change 80 = .ok (.getfield 44, 3) := by decide +kernel
theorem dX8_change_83 : decode cX8_change 83 = .ok (.getfield 84, 3) := by decide +kernel
theorem dX8_change_86 : decode cX8_change 86 = .ok (.goto 5, 3) := by decide +kernel
theorem dX8_change_89 : decode cX8_change 89 = .ok (.bipush (-5), 2) := by decide +kernel
theorem dX8_change_91 : decode cX8_change 91 = .ok (.ireturn, 1) := by decide +kernel
abbrev MX8_swap : ZM := (yX8_swap, cX8_swap, 5, (Option.some FieldType.int), 4, 106)
theorem dX8_swap_0 : decode cX8_swap 0 = .ok (.aload_n 0, 1) := by decide +kernel
theorem dX8_swap_1 : decode cX8_swap 1 = .ok (.iload_n 1, 1) := by decide +kernel
theorem dX8_swap_2 : decode cX8_swap 2 = .ok (.invokevirtual 110, 3) := by decide +kernel
theorem dX8_swap_5 : decode cX8_swap 5 = .ok (.astore 4, 2) := by decide +kernel
theorem dX8_swap_7 : decode cX8_swap 7 = .ok (.aload 4, 2) := by decide +kernel
theorem dX8_swap_9 : decode cX8_swap 9 = .ok (.ifnull 21, 3) := by decide +kernel
theorem dX8_swap_12 : decode cX8_swap 12 = .ok (.aload 4, 2) := by decide +kernel
theorem dX8_swap_14 : decode cX8_swap 14 = .ok (.iload_n 2, 1) := by decide +kernel
theorem dX8_swap_15 : decode cX8_swap 15 = .ok (.invokestatic 124, 3) := by decide +kernel
theorem dX8_swap_18 : decode cX8_swap 18 = .ok (.ifCond .eq 12, 3) := by decide +kernel
theorem dX8_swap_21 : decode cX8_swap 21 = .ok (.aload 4, 2) := by decide +kernel
theorem dX8_swap_23 : decode cX8_swap 23 = .ok (.iload_n 3, 1) := by decide +kernel
theorem dX8_swap_24 : decode cX8_swap 24 = .ok (.invokestatic 124, 3) := by decide +kernel
theorem dX8_swap_27 : decode cX8_swap 27 = .ok (.ifCond .ne 5, 3) := by decide +kernel
theorem dX8_swap_30 : decode cX8_swap 30 = .ok (.iconst (-1), 1) := by decide +kernel
theorem dX8_swap_31 : decode cX8_swap 31 = .ok (.ireturn, 1) := by decide +kernel
theorem dX8_swap_32 : decode cX8_swap 32 = .ok (.aload_n 0, 1) := by decide +kernel
theorem dX8_swap_33 : decode cX8_swap 33 = .ok (.getfield 44, 3) := by decide +kernel
theorem dX8_swap_36 : decode cX8_swap 36 = .ok (.aload 4, 2) := by decide +kernel
theorem dX8_swap_38 : decode cX8_swap 38 = .ok (.invokevirtual 128, 3) := by decide +kernel
theorem dX8_swap_41 : decode cX8_swap 41 = .ok (.aload_n 0, 1) := by decide +kernel
theorem dX8_swap_42 : decode cX8_swap 42 = .ok (.getfield 44, 3) := by decide +kernel
theorem dX8_swap_45 : decode cX8_swap 45 = .ok (.aload 4, 2) := by decide +kernel
theorem dX8_swap_47 : decode cX8_swap 47 = .ok (.iload_n 2, 1) := by decide +kernel
theorem dX8_swap_48 : decode cX8_swap 48 = .ok (.iload_n 3, 1) := by decide +kernel
theorem dX8_swap_49 : decode cX8_swap 49 = .ok (.invokevirtual 162, 3) := by decide +kernel
theorem dX8_swap_52 : decode cX8_swap 52 = .ok (.aload_n 0, 1) := by decide +kernel
theorem dX8_swap_53 : decode cX8_swap 53 = .ok (.iload_n 1, 1) := by decide +kernel
theorem dX8_swap_54 : decode cX8_swap 54 = .ok (.invokevirtual 81, 3) := by decide +kernel
theorem dX8_swap_57 : decode cX8_swap 57 = .ok (.ifCond .eq 11, 3) := by decide +kernel
theorem dX8_swap_60 : decode cX8_swap 60 = .ok (.aload 4, 2) := by decide +kernel
theorem dX8_swap_62 : decode cX8_swap 62 = .ok (.getfield 114, 3) := by decide +kernel
theorem dX8_swap_65 : decode cX8_swap 65 = .ok (.goto 5, 3) := by decide +kernel
theorem dX8_swap_68 : decode cX8_swap 68 = .ok (.bipush (-5), 2) := by decide +kernel
theorem dX8_swap_70 : decode cX8_swap 70 = .ok (.ireturn, 1) := by decide +kernel
abbrev MX8_scale : ZM := (yX8_scale, cX8_scale, 4, (Option.some FieldType.int), 4, 106)
theorem dX8_scale_0 : decode cX8_scale 0 = .ok (.aload_n 0, 1) := by decide +kernel
theorem dX8_scale_1 : decode cX8_scale 1 = .ok (.iload_n 1, 1) := by decide +kernel
theorem dX8_scale_2 : decode cX8_scale 2 = .ok (.invokevirtual 110, 3) := by decide +kernel
theorem dX8_scale_5 : decode cX8_scale 5 = .ok (.astore_n 3, 1) := by decide +kernel
theorem dX8_scale_6 : decode cX8_scale 6 = .ok (.aload_n 3, 1) := by decide +kernel
theorem dX8_scale_7 : decode cX8_scale 7 = .ok (.ifnull 14, 3) := by decide +kernel
theorem dX8_scale_10 : decode cX8_scale 10 = .ok (.iload_n 2, 1) := by decide +kernel
theorem dX8_scale_11 : decode cX8_scale 11 = .ok (.iconst 1, 1) := by decide +kernel
theorem dX8_scale_12 : decode cX8_scale 12 = .ok (.if_icmp .lt 9, 3) := by decide +kernel
theorem dX8_scale_15 : decode cX8_scale 15 = .ok (.iload_n 2, 1) := by decide +kernel
theorem dX8_scale_16 : decode cX8_scale 16 = .ok (.bipush 99, 2) := by decide +kernel
theorem dX8_scale_18 : decode cX8_scale 18 = .ok (.if_icmp .le 5, 3) := by decide +kernel
theorem dX8_scale_21 : decode cX8_scale 21 = .ok (.iconst (-1), 1) := by decide +kernel
theorem dX8_scale_22 : decode cX8_scale 22 = .ok (.ireturn, 1) := by decide +kernel
theorem dX8_scale_23 : decode cX8_scale 23 = .ok (.aload_n 0, 1) := by decide +kernel
theorem dX8_scale_24 : decode cX8_scale 24 = .ok (.getfield 44, 3) := by decide +kernel
theorem dX8_scale_27 : decode cX8_scale 27 = .ok (.aload_n 3, 1) := by decide +kernel
theorem dX8_scale_28 : decode cX8_scale 28 = .ok (.invokevirtual 128, 3) := by decide +kernel
theorem dX8_scale_31 : decode cX8_scale 31 = .ok (.aload_n 0, 1) := by decide +kernel
theorem dX8_scale_32 : decode cX8_scale 32 = .ok (.getfield 44, 3) := by decide +kernel
theorem dX8_scale_35 : decode cX8_scale 35 = .ok (.iload_n 2, 1) := by decide +kernel
theorem dX8_scale_36 : decode cX8_scale 36 = .ok (.invokevirtual 166, 3) := by decide +kernel
theorem dX8_scale_39 : decode cX8_scale 39 = .ok (.aload_n 0, 1) := by decide +kernel
theorem dX8_scale_40 : decode cX8_scale 40 = .ok (.iload_n 1, 1) := by decide +kernel
theorem dX8_scale_41 : decode cX8_scale 41 = .ok (.invokevirtual 81, 3) := by decide +kernel
theorem dX8_scale_44 : decode cX8_scale 44 = .ok (.ifCond .eq 13, 3) := by decide +kernel
theorem dX8_scale_47 : decode cX8_scale 47 = .ok (.aload_n 0, 1) := by decide +kernel
theorem dX8_scale_48 : decode cX8_scale 48 = .ok (.getfield 44, 3) := by decide +kernel
theorem dX8_scale_51 : decode cX8_scale 51 = .ok (.getfield 84, 3) := by decide +kernel
theorem dX8_scale_54 : decode cX8_scale 54 = .ok (.goto 5, 3) := by decide +kernel
theorem dX8_scale_57 : decode cX8_scale 57 = .ok (.bipush (-5), 2) := by decide +kernel
theorem dX8_scale_59 : decode cX8_scale 59 = .ok (.ireturn, 1) := by decide +kernel
abbrev MX8_join : ZM := (yX8_join, cX8_join, 7, (Option.some FieldType.int), 4, 106)
theorem dX8_join_0 : decode cX8_join 0 = .ok (.aload_n 0, 1) := by decide +kernel
theorem dX8_join_1 : decode cX8_join 1 = .ok (.iload_n 1, 1) := by decide +kernel
theorem dX8_join_2 : decode cX8_join 2 = .ok (.invokevirtual 110, 3) := by decide +kernel
theorem dX8_join_5 : decode cX8_join 5 = .ok (.astore 4, 2) := by decide +kernel
theorem dX8_join_7 : decode cX8_join 7 = .ok (.aload_n 0, 1) := by decide +kernel
theorem dX8_join_8 : decode cX8_join 8 = .ok (.iload_n 2, 1) := by decide +kernel
theorem dX8_join_9 : decode cX8_join 9 = .ok (.invokevirtual 110, 3) := by decide +kernel
theorem dX8_join_12 : decode cX8_join 12 = .ok (.astore 5, 2) := by decide +kernel
theorem dX8_join_14 : decode cX8_join 14 = .ok (.aload 4, 2) := by decide +kernel
theorem dX8_join_16 : decode cX8_join 16 = .ok (.ifnull 15, 3) := by decide +kernel
theorem dX8_join_19 : decode cX8_join 19 = .ok (.aload 5, 2) := by decide +kernel
theorem dX8_join_21 : decode cX8_join 21 = .ok (.ifnull 10, 3) := by decide +kernel
theorem dX8_join_24 : decode cX8_join 24 = .ok (.iload_n 3, 1) := by decide +kernel
theorem dX8_join_25 : decode cX8_join 25 = .ok (.invokestatic 69, 3) := by decide +kernel
theorem dX8_join_28 : decode cX8_join 28 = .ok (.ifCond .ne 5, 3) := by decide +kernel
theorem dX8_join_31 : decode cX8_join 31 = .ok (.iconst (-1), 1) := by decide +kernel
theorem dX8_join_32 : decode cX8_join 32 = .ok (.ireturn, 1) := by decide +kernel
theorem dX8_join_33 : decode cX8_join 33 = .ok (.aload 4, 2) := by decide +kernel
theorem dX8_join_35 : decode cX8_join 35 = .ok (.getfield 114, 3) := by decide +kernel
theorem dX8_join_38 : decode cX8_join 38 = .ok (.aload 5, 2) := by decide +kernel
theorem dX8_join_40 : decode cX8_join 40 = .ok (.getfield 114, 3) := by decide +kernel
theorem dX8_join_43 : decode cX8_join 43 = .ok (.iadd, 1) := by decide +kernel
theorem dX8_join_44 : decode cX8_join 44 = .ok (.istore 6, 2) := by decide +kernel
theorem dX8_join_46 : decode cX8_join 46 = .ok (.iload 6, 2) := by decide +kernel
theorem dX8_join_48 : decode cX8_join 48 = .ok (.iconst 4, 1) := by decide +kernel
theorem dX8_join_49 : decode cX8_join 49 = .ok (.if_icmp .le 6, 3) := by decide +kernel
theorem dX8_join_52 : decode cX8_join 52 = .ok (.bipush (-4), 2) := by decide +kernel
theorem dX8_join_54 : decode cX8_join 54 = .ok (.ireturn, 1) := by decide +kernel
theorem dX8_join_55 : decode cX8_join 55 = .ok (.aload_n 0, 1) := by decide +kernel
theorem dX8_join_56 : decode cX8_join 56 = .ok (.getfield 44, 3) := by decide +kernel
theorem dX8_join_59 : decode cX8_join 59 = .ok (.iload 6, 2) := by decide +kernel
theorem dX8_join_61 : decode cX8_join 61 = .ok (.invokevirtual 73, 3) := by decide +kernel
theorem dX8_join_64 : decode cX8_join 64 = .ok (.aload_n 0, 1) := by decide +kernel
theorem dX8_join_65 : decode cX8_join 65 = .ok (.getfield 44, 3) := by decide +kernel
theorem dX8_join_68 : decode cX8_join 68 = .ok (.aload 4, 2) := by decide +kernel
theorem dX8_join_70 : decode cX8_join 70 = .ok (.iconst 0, 1) := by decide +kernel
theorem dX8_join_71 : decode cX8_join 71 = .ok (.invokevirtual 169, 3) := by decide +kernel
theorem dX8_join_74 : decode cX8_join 74 = .ok (.aload_n 0, 1) := by decide +kernel
theorem dX8_join_75 : decode cX8_join 75 = .ok (.getfield 44, 3) := by decide +kernel
theorem dX8_join_78 : decode cX8_join 78 = .ok (.aload 5, 2) := by decide +kernel
theorem dX8_join_80 : decode cX8_join 80 = .ok (.aload 4, 2) := by decide +kernel
theorem dX8_join_82 : decode cX8_join 82 = .ok (.getfield 114, 3) := by decide +kernel
theorem dX8_join_85 : decode cX8_join 85 = .ok (.invokevirtual 169, 3) := by decide +kernel
theorem dX8_join_88 : decode cX8_join 88 = .ok (.aload_n 0, 1) := by decide +kernel
theorem dX8_join_89 : decode cX8_join 89 = .ok (.iload_n 3, 1) := by decide +kernel
theorem dX8_join_90 : decode cX8_join 90 = .ok (.invokevirtual 81, 3) := by decide +kernel
theorem dX8_join_93 : decode cX8_join 93 = .ok (.ifCond .eq 8, 3) := by decide +kernel
theorem dX8_join_96 : decode cX8_join 96 = .ok (.iload 6, 2) := by decide +kernel
theorem dX8_join_98 : decode cX8_join 98 = .ok (.goto 5, 3) := by decide +kernel
theorem dX8_join_101 : decode cX8_join 101 = .ok (.bipush (-5), 2) := by decide +kernel
theorem dX8_join_103 : decode cX8_join 103 = .ok (.ireturn, 1) := by decide +kernel
abbrev MX8_reduce : ZM := (yX8_reduce, cX8_reduce, 4, (Option.some FieldType.int), 4, 106)
theorem dX8_reduce_0 : decode cX8_reduce 0 = .ok (.aload_n 0, 1) := by decide +kernel
theorem dX8_reduce_1 : decode cX8_reduce 1 = .ok (.iload_n 1, 1) := by decide +kernel
theorem dX8_reduce_2 : decode cX8_reduce 2 = .ok (.invokevirtual 110, 3) := by decide +kernel
theorem dX8_reduce_5 : decode cX8_reduce 5 = .ok (.astore_n 2, 1) := by decide +kernel
theorem dX8_reduce_6 : decode cX8_reduce 6 = .ok (.aload_n 2, 1) := by decide +kernel
theorem dX8_reduce_7 : decode cX8_reduce 7 = .ok (.ifnonnull 5, 3) := by decide +kernel
theorem dX8_reduce_10 : decode cX8_reduce 10 = .ok (.iconst (-1), 1) := by decide +kernel
theorem dX8_reduce_11 : decode cX8_reduce 11 = .ok (.ireturn, 1) := by decide +kernel
theorem dX8_reduce_12 : decode cX8_reduce 12 = .ok (.aload_n 0, 1) := by decide +kernel
theorem dX8_reduce_13 : decode cX8_reduce 13 = .ok (.getfield 44, 3) := by decide +kernel
theorem dX8_reduce_16 : decode cX8_reduce 16 = .ok (.aload_n 2, 1) := by decide +kernel
theorem dX8_reduce_17 : decode cX8_reduce 17 = .ok (.invokevirtual 128, 3) := by decide +kernel
theorem dX8_reduce_20 : decode cX8_reduce 20 = .ok (.iconst 0, 1) := by decide +kernel
theorem dX8_reduce_21 : decode cX8_reduce 21 = .ok (.istore_n 3, 1) := by decide +kernel
theorem dX8_reduce_22 : decode cX8_reduce 22 = .ok (.iload_n 3, 1) := by decide +kernel
theorem dX8_reduce_23 : decode cX8_reduce 23 = .ok (.ldc 173, 2) := by decide +kernel
theorem dX8_reduce_25 : decode cX8_reduce 25 = .ok (.if_icmp .ge 19, 3) := by decide +kernel
theorem dX8_reduce_28 : decode cX8_reduce 28 = .ok (.aload_n 0, 1) := by decide +kernel
theorem dX8_reduce_29 : decode cX8_reduce 29 = .ok (.getfield 44, 3) := by decide +kernel
theorem dX8_reduce_32 : decode cX8_reduce 32 = .ok (.invokevirtual 174, 3) := by decide +kernel
theorem dX8_reduce_35 : decode cX8_reduce 35 = .ok (.ifCond .eq 9, 3) := by decide +kernel
theorem dX8_reduce_38 : decode cX8_reduce 38 = .ok (.iinc 3 1, 3) := by decide +kernel
theorem dX8_reduce_41 : decode cX8_reduce 41 = .ok (.goto (-19), 3) := by decide +kernel
theorem dX8_reduce_44 : decode cX8_reduce 44 = .ok (.aload_n 0, 1) := by decide +kernel
theorem dX8_reduce_45 : decode cX8_reduce 45 = .ok (.iload_n 1, 1) := by decide +kernel
theorem dX8_reduce_46 : decode cX8_reduce 46 = .ok (.invokevirtual 81, 3) := by decide +kernel
theorem dX8_reduce_49 : decode cX8_reduce 49 = .ok (.ifCond .eq 7, 3) := by decide +kernel
theorem dX8_reduce_52 : decode cX8_reduce 52 = .ok (.iload_n 3, 1) := by decide +kernel
theorem dX8_reduce_53 : decode cX8_reduce 53 = .ok (.goto 5, 3) := by decide +kernel
theorem dX8_reduce_56 : decode cX8_reduce 56 = .ok (.bipush (-5), 2) := by decide +kernel
theorem dX8_reduce_58 : decode cX8_reduce 58 = .ok (.ireturn, 1) := by decide +kernel
abbrev MX8_same : ZM := (yX8_same, cX8_same, 6, (Option.some FieldType.int), 2, 41)
theorem dX8_same_0 : decode cX8_same 0 = .ok (.aload_n 0, 1) := by decide +kernel
theorem dX8_same_1 : decode cX8_same 1 = .ok (.iload_n 1, 1) := by decide +kernel
theorem dX8_same_2 : decode cX8_same 2 = .ok (.invokevirtual 110, 3) := by decide +kernel
theorem dX8_same_5 : decode cX8_same 5 = .ok (.astore_n 3, 1) := by decide +kernel
theorem dX8_same_6 : decode cX8_same 6 = .ok (.aload_n 0, 1) := by decide +kernel
theorem dX8_same_7 : decode cX8_same 7 = .ok (.iload_n 2, 1) := by decide +kernel
theorem dX8_same_8 : decode cX8_same 8 = .ok (.invokevirtual 110, 3) := by decide +kernel
theorem dX8_same_11 : decode cX8_same 11 = .ok (.astore 4, 2) := by decide +kernel
theorem dX8_same_13 : decode cX8_same 13 = .ok (.aload_n 3, 1) := by decide +kernel
theorem dX8_same_14 : decode cX8_same 14 = .ok (.ifnull 8, 3) := by decide +kernel
theorem dX8_same_17 : decode cX8_same 17 = .ok (.aload 4, 2) := by decide +kernel
theorem dX8_same_19 : decode cX8_same 19 = .ok (.ifnonnull 5, 3) := by decide +kernel
theorem dX8_same_22 : decode cX8_same 22 = .ok (.iconst (-1), 1) := by decide +kernel
theorem dX8_same_23 : decode cX8_same 23 = .ok (.ireturn, 1) := by decide +kernel
theorem dX8_same_24 : decode cX8_same 24 = .ok (.aload_n 3, 1) := by decide +kernel
theorem dX8_same_25 : decode cX8_same 25 = .ok (.getfield 114, 3) := by decide +kernel
theorem dX8_same_28 : decode cX8_same 28 = .ok (.aload 4, 2) := by decide +kernel
theorem dX8_same_30 : decode cX8_same 30 = .ok (.getfield 114, 3) := by decide +kernel
theorem dX8_same_33 : decode cX8_same 33 = .ok (.if_icmp .eq 5, 3) := by decide +kernel
theorem dX8_same_36 : decode cX8_same 36 = .ok (.iconst 0, 1) := by decide +kernel
theorem dX8_same_37 : decode cX8_same 37 = .ok (.ireturn, 1) := by decide +kernel
theorem dX8_same_38 : decode cX8_same 38 = .ok (.iconst 0, 1) := by decide +kernel
theorem dX8_same_39 : decode cX8_same 39 = .ok (.istore 5, 2) := by decide +kernel
theorem dX8_same_41 : decode cX8_same 41 = .ok (.iload 5, 2) := by decide +kernel
theorem dX8_same_43 : decode cX8_same 43 = .ok (.bipush 16, 2) := by decide +kernel
theorem dX8_same_45 : decode cX8_same 45 = .ok (.if_icmp .ge 29, 3) := by decide +kernel
theorem dX8_same_48 : decode cX8_same 48 = .ok (.aload_n 3, 1) := by decide +kernel
theorem dX8_same_49 : decode cX8_same 49 = .ok (.getfield 117, 3) := by decide +kernel
theorem dX8_same_52 : decode cX8_same 52 = .ok (.iload 5, 2) := by decide +kernel
theorem dX8_same_54 : decode cX8_same 54 = .ok (.iaload, 1) := by decide +kernel
theorem dX8_same_55 : decode cX8_same 55 = .ok (.aload 4, 2) := by decide +kernel
theorem dX8_same_57 : decode cX8_same 57 = .ok (.getfield 117, 3) := by decide +kernel
theorem dX8_same_60 : decode cX8_same 60 = .ok (.iload 5, 2) := by decide +kernel
theorem dX8_same_62 : decode cX8_same 62 = .ok (.iaload, 1) := by decide +kernel
theorem dX8_same_63 : decode cX8_same 63 = .ok (.if_icmp .eq 5, 3) := by decide +kernel
theorem dX8_same_66 : decode cX8_same 66 = .ok (.iconst 0, 1) := by decide +kernel
theorem dX8_same_67 : decode cX8_same 67 = .ok (.ireturn, 1) := by decide +kernel
theorem dX8_same_68 : decode cX8_same 68 = .ok (.iinc 5 1, 3) := by decide +kernel
theorem dX8_same_71 : decode cX8_same 71 = .ok (.goto (-30), 3) := by decide +kernel
theorem dX8_same_74 : decode cX8_same 74 = .ok (.iconst 1, 1) := by decide +kernel
theorem dX8_same_75 : decode cX8_same 75 = .ok (.ireturn, 1) := by decide +kernel
abbrev MX8_unlike : ZM := (yX8_unlike, cX8_unlike, 8, (Option.some FieldType.int), 5, 126)
theorem dX8_unlike_0 : decode cX8_unlike 0 = .ok (.aload_n 0, 1) := by decide +kernel
theorem dX8_unlike_1 : decode cX8_unlike 1 = .ok (.iload_n 1, 1) := by decide +kernel
theorem dX8_unlike_2 : decode cX8_unlike 2 = .ok (.invokevirtual 110, 3) := by decide +kernel
theorem dX8_unlike_5 : decode cX8_unlike 5 = .ok (.astore_n 3, 1) := by decide +kernel
theorem dX8_unlike_6 : decode cX8_unlike 6 = .ok (.aload_n 0, 1) := by decide +kernel
theorem dX8_unlike_7 : decode cX8_unlike 7 = .ok (.iload_n 2, 1) := by decide +kernel
theorem dX8_unlike_8 : decode cX8_unlike 8 = .ok (.invokevirtual 110, 3) := by decide +kernel
theorem dX8_unlike_11 : decode cX8_unlike 11 = .ok (.astore 4, 2) := by decide +kernel
theorem dX8_unlike_13 : decode cX8_unlike 13 = .ok (.aload_n 3, 1) := by decide +kernel
theorem dX8_unlike_14 : decode cX8_unlike 14 = .ok (.ifnull 8, 3) := by decide +kernel
theorem dX8_unlike_17 : decode cX8_unlike 17 = .ok (.aload 4, 2) := by decide +kernel
theorem dX8_unlike_19 : decode cX8_unlike 19 = .ok (.ifnonnull 5, 3) := by decide +kernel
theorem dX8_unlike_22 : decode cX8_unlike 22 = .ok (.iconst (-1), 1) := by decide +kernel
theorem dX8_unlike_23 : decode cX8_unlike 23 = .ok (.ireturn, 1) := by decide +kernel
theorem dX8_unlike_24 : decode cX8_unlike 24 = .ok (.aload_n 0, 1) := by decide +kernel
theorem dX8_unlike_25 : decode cX8_unlike 25 = .ok (.aload_n 3, 1) := by decide +kernel
theorem dX8_unlike_26 : decode cX8_unlike 26 = .ok (.invokevirtual 177, 3) := by decide +kernel
theorem dX8_unlike_29 : decode cX8_unlike 29 = .ok (.getfield 181, 3) := by decide +kernel
theorem dX8_unlike_32 : decode cX8_unlike 32 = .ok (.astore 5, 2) := by decide +kernel
theorem dX8_unlike_34 : decode cX8_unlike 34 = .ok (.aload_n 0, 1) := by decide +kernel
theorem dX8_unlike_35 : decode cX8_unlike 35 = .ok (.aload 4, 2) := by decide +kernel
theorem dX8_unlike_37 : decode cX8_unlike 37 = .ok (.invokevirtual 177, 3) := by decide +kernel
theorem dX8_unlike_40 : decode cX8_unlike 40 = .ok (.getfield 181, 3) := by decide +kernel
theorem dX8_unlike_43 : decode cX8_unlike 43 = .ok (.astore 6, 2) := by decide +kernel
theorem dX8_unlike_45 : decode cX8_unlike 45 = .ok (.iconst 0, 1) := by decide +kernel
theorem dX8_unlike_46 : decode cX8_unlike 46 = .ok (.istore 7, 2) := by decide +kernel
theorem dX8_unlike_48 : decode cX8_unlike 48 = .ok (.iload 7, 2) := by decide +kernel
theorem dX8_unlike_50 : decode cX8_unlike 50 = .ok (.bipush 100, 2) := by decide +kernel
theorem dX8_unlike_52 : decode cX8_unlike 52 = .ok (.if_icmp .gt 25, 3) := by decide +kernel
theorem dX8_unlike_55 : decode cX8_unlike 55 = .ok (.aload 5, 2) := by decide +kernel
theorem dX8_unlike_57 : decode cX8_unlike 57 = .ok (.iload 7, 2) := by decide +kernel
theorem dX8_unlike_59 : decode cX8_unlike 59 = .ok (.iaload, 1) := by decide +kernel
theorem dX8_unlike_60 : decode cX8_unlike 60 = .ok (.aload 6, 2) := by decide +kernel
theorem dX8_unlike_62 : decode cX8_unlike 62 = .ok (.iload 7, 2) := by decide +kernel
theorem dX8_unlike_64 : decode cX8_unlike 64 = .ok (.iaload, 1) := by decide +kernel
theorem dX8_unlike_65 : decode cX8_unlike 65 = .ok (.if_icmp .eq 6, 3) := by decide +kernel
theorem dX8_unlike_68 : decode cX8_unlike 68 = .ok (.iload 7, 2) := by decide +kernel
theorem dX8_unlike_70 : decode cX8_unlike 70 = .ok (.ireturn, 1) := by decide +kernel
theorem dX8_unlike_71 : decode cX8_unlike 71 = .ok (.iinc 7 1, 3) := by decide +kernel
theorem dX8_unlike_74 : decode cX8_unlike 74 = .ok (.goto (-26), 3) := by decide +kernel
theorem dX8_unlike_77 : decode cX8_unlike 77 = .ok (.bipush (-2), 2) := by decide +kernel
theorem dX8_unlike_79 : decode cX8_unlike 79 = .ok (.ireturn, 1) := by decide +kernel
abbrev MX8_takes : ZM := (yX8_takes, cX8_takes, 4, (Option.some FieldType.int), 5, 126)
theorem dX8_takes_0 : decode cX8_takes 0 = .ok (.aload_n 0, 1) := by decide +kernel
theorem dX8_takes_1 : decode cX8_takes 1 = .ok (.iload_n 1, 1) := by decide +kernel
theorem dX8_takes_2 : decode cX8_takes 2 = .ok (.invokevirtual 110, 3) := by decide +kernel
theorem dX8_takes_5 : decode cX8_takes 5 = .ok (.astore_n 3, 1) := by decide +kernel
theorem dX8_takes_6 : decode cX8_takes 6 = .ok (.aload_n 3, 1) := by decide +kernel
theorem dX8_takes_7 : decode cX8_takes 7 = .ok (.ifnull 13, 3) := by decide +kernel
theorem dX8_takes_10 : decode cX8_takes 10 = .ok (.iload_n 2, 1) := by decide +kernel
theorem dX8_takes_11 : decode cX8_takes 11 = .ok (.ifCond .lt 9, 3) := by decide +kernel
theorem dX8_takes_14 : decode cX8_takes 14 = .ok (.iload_n 2, 1) := by decide +kernel
theorem dX8_takes_15 : decode cX8_takes 15 = .ok (.bipush 100, 2) := by decide +kernel
theorem dX8_takes_17 : decode cX8_takes 17 = .ok (.if_icmp .le 5, 3) := by decide +kernel
theorem dX8_takes_20 : decode cX8_takes 20 = .ok (.iconst (-1), 1) := by decide +kernel
theorem dX8_takes_21 : decode cX8_takes 21 = .ok (.ireturn, 1) := by decide +kernel
theorem dX8_takes_22 : decode cX8_takes 22 = .ok (.aload_n 0, 1) := by decide +kernel
theorem dX8_takes_23 : decode cX8_takes 23 = .ok (.aload_n 3, 1) := by decide +kernel
theorem dX8_takes_24 : decode cX8_takes 24 = .ok (.invokevirtual 177, 3) := by decide +kernel
theorem dX8_takes_27 : decode cX8_takes 27 = .ok (.getfield 181, 3) := by decide +kernel
theorem dX8_takes_30 : decode cX8_takes 30 = .ok (.iload_n 2, 1) := by decide +kernel
theorem dX8_takes_31 : decode cX8_takes 31 = .ok (.iaload, 1) := by decide +kernel
theorem dX8_takes_32 : decode cX8_takes 32 = .ok (.ireturn, 1) := by decide +kernel
abbrev MX8_vector : ZM := (yX8_vector, cX8_vector, 6, (Option.some FieldType.int), 5, 126)
theorem dX8_vector_0 : decode cX8_vector 0 = .ok (.aload_n 0, 1) := by decide +kernel
theorem dX8_vector_1 : decode cX8_vector 1 = .ok (.iload_n 1, 1) := by decide +kernel
theorem dX8_vector_2 : decode cX8_vector 2 = .ok (.invokevirtual 110, 3) := by decide +kernel
theorem dX8_vector_5 : decode cX8_vector 5 = .ok (.astore 4, 2) := by decide +kernel
theorem dX8_vector_7 : decode cX8_vector 7 = .ok (.aload 4, 2) := by decide +kernel
theorem dX8_vector_9 : decode cX8_vector 9 = .ok (.ifnull 22, 3) := by decide +kernel
theorem dX8_vector_12 : decode cX8_vector 12 = .ok (.iload_n 2, 1) := by decide +kernel
theorem dX8_vector_13 : decode cX8_vector 13 = .ok (.ifCond .lt 18, 3) := by decide +kernel
theorem dX8_vector_16 : decode cX8_vector 16 = .ok (.iload_n 2, 1) := by decide +kernel
theorem dX8_vector_17 : decode cX8_vector 17 = .ok (.bipush 100, 2) := by decide +kernel
theorem dX8_vector_19 : decode cX8_vector 19 = .ok (.if_icmp .gt 12, 3) := by decide +kernel
theorem dX8_vector_22 : decode cX8_vector 22 = .ok (.aload 4, 2) := by decide +kernel
theorem dX8_vector_24 : decode cX8_vector 24 = .ok (.iload_n 3, 1) := by decide +kernel
theorem dX8_vector_25 : decode cX8_vector 25 = .ok (.invokestatic 124, 3) := by decide +kernel
theorem dX8_vector_28 : decode cX8_vector 28 = .ok (.ifCond .ne 6, 3) := by decide +kernel
theorem dX8_vector_31 : decode cX8_vector 31 = .ok (.ldc 132, 2) := by decide +kernel
theorem dX8_vector_33 : decode cX8_vector 33 = .ok (.ireturn, 1) := by decide +kernel
theorem dX8_vector_34 : decode cX8_vector 34 = .ok (.aload_n 0, 1) := by decide +kernel
theorem dX8_vector_35 : decode cX8_vector 35 = .ok (.aload 4, 2) := by decide +kernel
theorem dX8_vector_37 : decode cX8_vector 37 = .ok (.invokevirtual 177, 3) := by decide +kernel
theorem dX8_vector_40 : decode cX8_vector 40 = .ok (.astore 5, 2) := by decide +kernel
theorem dX8_vector_42 : decode cX8_vector 42 = .ok (.aload 5, 2) := by decide +kernel
theorem dX8_vector_44 : decode cX8_vector 44 = .ok (.getfield 181, 3) := by decide +kernel
theorem dX8_vector_47 : decode cX8_vector 47 = .ok (.iload_n 2, 1) := by decide +kernel
theorem dX8_vector_48 : decode cX8_vector 48 = .ok (.iaload, 1) := by decide +kernel
theorem dX8_vector_49 : decode cX8_vector 49 = .ok (.ifCond .ne 8, 3) := by decide +kernel
theorem dX8_vector_52 : decode cX8_vector 52 = .ok (.ldc 132, 2) := by decide +kernel
theorem dX8_vector_54 : decode cX8_vector 54 = .ok (.goto 18, 3) := by decide +kernel
theorem dX8_vector_57 : decode cX8_vector 57 = .ok (.aload 5, 2) := by decide +kernel
theorem dX8_vector_59 : decode cX8_vector 59 = .ok (.getfield 186, 3) := by decide +kernel
theorem dX8_vector_62 : decode cX8_vector 62 = .ok (.aload 4, 2) := by decide +kernel
theorem dX8_vector_64 : decode cX8_vector 64 = .ok (.getfield 114, 3) := by decide +kernel
theorem dX8_vector_67 : decode cX8_vector 67 = .ok (.iload_n 2, 1) := by decide +kernel
theorem dX8_vector_68 : decode cX8_vector 68 = .ok (.imul, 1) := by decide +kernel
theorem dX8_vector_69 : decode cX8_vector 69 = .ok (.iload_n 3, 1) := by decide +kernel
theorem dX8_vector_70 : decode cX8_vector 70 = .ok (.iadd, 1) := by decide +kernel
theorem dX8_vector_71 : decode cX8_vector 71 = .ok (.iaload, 1) := by decide +kernel
theorem dX8_vector_72 : decode cX8_vector 72 = .ok (.ireturn, 1) := by decide +kernel
abbrev MX8_truant : ZM := (yX8_truant, cX8_truant, 4, (Option.some FieldType.int), 5, 126)
theorem dX8_truant_0 : decode cX8_truant 0 = .ok (.aload_n 0, 1) := by decide +kernel
theorem dX8_truant_1 : decode cX8_truant 1 = .ok (.iload_n 1, 1) := by decide +kernel
theorem dX8_truant_2 : decode cX8_truant 2 = .ok (.invokevirtual 110, 3) := by decide +kernel
theorem dX8_truant_5 : decode cX8_truant 5 = .ok (.astore_n 2, 1) := by decide +kernel
theorem dX8_truant_6 : decode cX8_truant 6 = .ok (.aload_n 2, 1) := by decide +kernel
theorem dX8_truant_7 : decode cX8_truant 7 = .ok (.ifnonnull 5, 3) := by decide +kernel
theorem dX8_truant_10 : decode cX8_truant 10 = .ok (.iconst (-1), 1) := by decide +kernel
theorem dX8_truant_11 : decode cX8_truant 11 = .ok (.ireturn, 1) := by decide +kernel
theorem dX8_truant_12 : decode cX8_truant 12 = .ok (.aload_n 0, 1) := by decide +kernel
theorem dX8_truant_13 : decode cX8_truant 13 = .ok (.aload_n 2, 1) := by decide +kernel
theorem dX8_truant_14 : decode cX8_truant 14 = .ok (.invokevirtual 177, 3) := by decide +kernel
theorem dX8_truant_17 : decode cX8_truant 17 = .ok (.invokevirtual 189, 3) := by decide +kernel
theorem dX8_truant_20 : decode cX8_truant 20 = .ok (.istore_n 3, 1) := by decide +kernel
theorem dX8_truant_21 : decode cX8_truant 21 = .ok (.iload_n 3, 1) := by decide +kernel
theorem dX8_truant_22 : decode cX8_truant 22 = .ok (.ifCond .ne 8, 3) := by decide +kernel
theorem dX8_truant_25 : decode cX8_truant 25 = .ok (.bipush (-2), 2) := by decide +kernel
theorem dX8_truant_27 : decode cX8_truant 27 = .ok (.goto 4, 3) := by decide +kernel
theorem dX8_truant_30 : decode cX8_truant 30 = .ok (.iload_n 3, 1) := by decide +kernel
theorem dX8_truant_31 : decode cX8_truant 31 = .ok (.ireturn, 1) := by decide +kernel
abbrev MX8_exceptions : ZM := (yX8_exceptions, cX8_exceptions, 10, (Option.some FieldType.int), 5, 126)
theorem dX8_exceptions_0 : decode cX8_exceptions 0 = .ok (.aload_n 0, 1) := by decide +kernel
theorem dX8_exceptions_1 : decode cX8_exceptions 1 = .ok (.iload_n 1, 1) := by decide +kernel
theorem dX8_exceptions_2 : decode cX8_exceptions 2 = .ok (.invokevirtual 110, 3) := by decide +kernel
theorem dX8_exceptions_5 : decode cX8_exceptions 5 = .ok (.astore 4, 2) := by decide +kernel
theorem dX8_exceptions_7 : decode cX8_exceptions 7 = .ok (.aload 4, 2) := by decide +kernel
theorem dX8_exceptions_9 : decode cX8_exceptions 9 = .ok (.ifnull 23, 3) := by decide +kernel
theorem dX8_exceptions_12 : decode cX8_exceptions 12 = .ok (.iload_n 2, 1) := by decide +kernel
theorem dX8_exceptions_13 : decode cX8_exceptions 13 = .ok (.iconst 1, 1) := by decide +kernel
theorem dX8_exceptions_14 : decode cX8_exceptions 14 = .ok (.if_icmp .lt 18, 3) := by decide +kernel
theorem dX8_exceptions_17 : decode cX8_exceptions 17 = .ok (.iload_n 2, 1) := by decide +kernel
theorem dX8_exceptions_18 : decode cX8_exceptions 18 = .ok (.bipush 100, 2) := by decide +kernel
theorem dX8_exceptions_20 : decode cX8_exceptions 20 = .ok (.if_icmp .gt 12, 3) := by decide +kernel
theorem dX8_exceptions_23 : decode cX8_exceptions 23 = .ok (.iload_n 3, 1) := by decide +kernel
theorem dX8_exceptions_24 : decode cX8_exceptions 24 = .ok (.ifCond .lt 8, 3) := by decide +kernel
theorem dX8_exceptions_27 : decode cX8_exceptions 27 = .ok (.iload_n 3, 1) := by decide +kernel
theorem dX8_exceptions_28 : decode cX8_exceptions 28 = .ok (.iconst 2, 1) := by decide +kernel
theorem dX8_exceptions_29 : decode cX8_exceptions 29 = .ok (.if_icmp .le 5, 3) := by decide +kernel
theorem dX8_exceptions_32 : decode cX8_exceptions 32 = .ok (.iconst (-1), 1) := by decide +kernel
theorem dX8_exceptions_33 : decode cX8_exceptions 33 = .ok (.ireturn, 1) := by decide +kernel
theorem dX8_exceptions_34 : decode cX8_exceptions 34 = .ok (.aload_n 0, 1) := by decide +kernel
theorem dX8_exceptions_35 : decode cX8_exceptions 35 = .ok (.aload 4, 2) := by decide +kernel
theorem dX8_exceptions_37 : decode cX8_exceptions 37 = .ok (.invokevirtual 177, 3) := by decide +kernel
theorem dX8_exceptions_40 : decode cX8_exceptions 40 = .ok (.getfield 181, 3) := by decide +kernel
theorem dX8_exceptions_43 : decode cX8_exceptions 43 = .ok (.astore 5, 2) := by decide +kernel
theorem dX8_exceptions_45 : decode cX8_exceptions 45 = .ok (.iconst 0, 1) := by decide +kernel
theorem dX8_exceptions_46 : decode cX8_exceptions 46 = .ok (.istore 6, 2) := by decide +kernel
theorem dX8_exceptions_48 : decode cX8_exceptions 48 = .ok (.iconst 0, 1) := by decide +kernel
theorem dX8_exceptions_49 : decode cX8_exceptions 49 = .ok (.istore 7, 2) := by decide +kernel
theorem dX8_exceptions_51 : decode cX8_exceptions 51 = .ok (.iconst 0, 1) := by decide +kernel
theorem dX8_exceptions_52 : decode cX8_exceptions 52 = .ok (.istore 8, 2) := by decide +kernel
theorem dX8_exceptions_54 : decode cX8_exceptions 54 = .ok (.iconst 1, 1) := by decide +kernel
theorem dX8_exceptions_55 : decode cX8_exceptions 55 = .ok (.istore 9, 2) := by decide +kernel
theorem dX8_exceptions_57 : decode cX8_exceptions 57 = .ok (.iload 9, 2) := by decide +kernel
theorem dX8_exceptions_59 : decode cX8_exceptions 59 = .ok (.iload_n 2, 1) := by decide +kernel
theorem dX8_exceptions_60 : decode cX8_exceptions 60 = .ok (.if_icmp .gt 45, 3) := by decide +kernel
theorem dX8_exceptions_63 : decode cX8_exceptions 63 = .ok (.aload 5, 2) := by decide +kernel
theorem dX8_exceptions_65 : decode cX8_exceptions 65 = .ok (.iload 9, 2) := by decide +kernel
theorem dX8_exceptions_67 : decode cX8_exceptions 67 = .ok (.iaload, 1) := by decide +kernel
theorem dX8_exceptions_68 : decode cX8_exceptions 68 = .ok (.ifCond .ne 31, 3) := by decide +kernel
theorem dX8_exceptions_71 : decode cX8_exceptions 71 = .ok (.iinc 6 1, 3) := by decide +kernel
theorem dX8_exceptions_74 : decode cX8_exceptions 74 = .ok (.iload 9, 2) := by decide +kernel
theorem dX8_exceptions_76 : decode cX8_exceptions 76 = .ok (.istore 8, 2) := by decide +kernel
theorem dX8_exceptions_78 : decode cX8_exceptions 78 = .ok (.iload_n 3, 1) := by decide +kernel
theorem dX8_exceptions_79 : decode cX8_exceptions 79 = .ok (.iconst 1, 1) := by decide +kernel
theorem dX8_exceptions_80 : decode cX8_exceptions 80 = .ok (.if_icmp .ne 19, 3) := by decide +kernel
theorem dX8_exceptions_83 : decode cX8_exceptions 83 = .ok (.aload_n 0, 1) := by decide +kernel
theorem dX8_exceptions_84 : decode cX8_exceptions 84 = .ok (.aload 4, 2) := by decide +kernel
theorem dX8_exceptions_86 : decode cX8_exceptions 86 = .ok (.iload 9, 2) := by decide +kernel
theorem dX8_exceptions_88 : decode cX8_exceptions 88 = .ok (.invokevirtual 192, 3) := by decide +kernel
theorem dX8_exceptions_91 : decode cX8_exceptions 91 = .ok (.bipush (-2), 2) := by decide +kernel
theorem dX8_exceptions_93 : decode cX8_exceptions 93 = .ok (.if_icmp .eq 6, 3) := by decide +kernel
theorem dX8_exceptions_96 : decode cX8_exceptions 96 = .ok (.iinc 7 1, 3) := by decide +kernel
theorem dX8_exceptions_99 : decode cX8_exceptions 99 = .ok (.iinc 9 1, 3) := by decide +kernel
theorem dX8_exceptions_102 : decode cX8_exceptions 102 = .ok (.goto (-45), 3) := by decide +kernel
theorem dX8_exceptions_105 : decode cX8_exceptions 105 = .ok (.iload_n 3, 1) := by decide +kernel
theorem dX8_exceptions_106 : decode cX8_exceptions 106 = .ok (.ifCond .ne 8, 3) := by decide +kernel
theorem dX8_exceptions_109 : decode cX8_exceptions 109 = .ok (.iload 6, 2) := by decide +kernel
theorem dX8_exceptions_111 : decode cX8_exceptions 111 = .ok (.goto 15, 3) := by decide +kernel
theorem dX8_exceptions_114 : decode cX8_exceptions 114 = .ok (.iload_n 3, 1) := by decide +kernel
theorem dX8_exceptions_115 : decode cX8_exceptions 115 = .ok (.iconst 1, 1) := by decide +kernel
theorem dX8_exceptions_116 : decode cX8_exceptions 116 = .ok (.if_icmp .ne 8, 3) := by decide +kernel
theorem dX8_exceptions_119 : decode cX8_exceptions 119 = .ok (.iload 7, 2) := by decide +kernel
theorem dX8_exceptions_121 : decode cX8_exceptions 121 = .ok (.goto 5, 3) := by decide +kernel
theorem dX8_exceptions_124 : decode cX8_exceptions 124 = .ok (.iload 8, 2) := by decide +kernel
theorem dX8_exceptions_126 : decode cX8_exceptions 126 = .ok (.ireturn, 1) := by decide +kernel
abbrev MX8_exception : ZM := (yX8_exception, cX8_exception, 7, (Option.some FieldType.int), 5, 126)
theorem dX8_exception_0 : decode cX8_exception 0 = .ok (.aload_n 0, 1) := by decide +kernel
theorem dX8_exception_1 : decode cX8_exception 1 = .ok (.iload_n 1, 1) := by decide +kernel
theorem dX8_exception_2 : decode cX8_exception 2 = .ok (.invokevirtual 110, 3) := by decide +kernel
theorem dX8_exception_5 : decode cX8_exception 5 = .ok (.astore_n 3, 1) := by decide +kernel
theorem dX8_exception_6 : decode cX8_exception 6 = .ok (.aload_n 3, 1) := by decide +kernel
theorem dX8_exception_7 : decode cX8_exception 7 = .ok (.ifnonnull 5, 3) := by decide +kernel
theorem dX8_exception_10 : decode cX8_exception 10 = .ok (.iconst (-1), 1) := by decide +kernel
theorem dX8_exception_11 : decode cX8_exception 11 = .ok (.ireturn, 1) := by decide +kernel
theorem dX8_exception_12 : decode cX8_exception 12 = .ok (.aload_n 0, 1) := by decide +kernel
theorem dX8_exception_13 : decode cX8_exception 13 = .ok (.aload_n 3, 1) := by decide +kernel
theorem dX8_exception_14 : decode cX8_exception 14 = .ok (.invokevirtual 177, 3) := by decide +kernel
theorem dX8_exception_17 : decode cX8_exception 17 = .ok (.getfield 181, 3) := by decide +kernel
theorem dX8_exception_20 : decode cX8_exception 20 = .ok (.astore 4, 2) := by decide +kernel
theorem dX8_exception_22 : decode cX8_exception 22 = .ok (.iconst 0, 1) := by decide +kernel
theorem dX8_exception_23 : decode cX8_exception 23 = .ok (.istore 5, 2) := by decide +kernel
theorem dX8_exception_25 : decode cX8_exception 25 = .ok (.iconst 1, 1) := by decide +kernel
theorem dX8_exception_26 : decode cX8_exception 26 = .ok (.istore 6, 2) := by decide +kernel
theorem dX8_exception_28 : decode cX8_exception 28 = .ok (.iload 6, 2) := by decide +kernel
theorem dX8_exception_30 : decode cX8_exception 30 = .ok (.bipush 100, 2) := by decide +kernel
theorem dX8_exception_32 : decode cX8_exception 32 = .ok (.if_icmp .gt 29, 3) := by decide +kernel
theorem dX8_exception_35 : decode cX8_exception 35 = .ok (.aload 4, 2) := by decide +kernel
theorem dX8_exception_37 : decode cX8_exception 37 = .ok (.iload 6, 2) := by decide +kernel
theorem dX8_exception_39 : decode cX8_exception 39 = .ok (.iaload, 1) := by decide +kernel
theorem dX8_exception_40 : decode cX8_exception 40 = .ok (.ifCond .ne 15, 3) := by decide +kernel
theorem dX8_exception_43 : decode cX8_exception 43 = .ok (.iload 5, 2) := by decide +kernel
theorem dX8_exception_45 : decode cX8_exception 45 = .ok (.iload_n 2, 1) := by decide +kernel
theorem dX8_exception_46 : decode cX8_exception 46 = .ok (.if_icmp .ne 6, 3) := by decide +kernel
theorem dX8_exception_49 : decode cX8_exception 49 = .ok (.iload 6, 2) := by decide +kernel
theorem dX8_exception_51 : decode cX8_exception 51 = .ok (.ireturn, 1) := by decide +kernel
theorem dX8_exception_52 : decode cX8_exception 52 = .ok (.iinc 5 1, 3) := by decide +kernel
theorem dX8_exception_55 : decode cX8_exception 55 = .ok (.iinc 6 1, 3) := by decide +kernel
theorem dX8_exception_58 : decode cX8_exception 58 = .ok (.goto (-30), 3) := by decide +kernel
theorem dX8_exception_61 : decode cX8_exception 61 = .ok (.bipush (-2), 2) := by decide +kernel
theorem dX8_exception_63 : decode cX8_exception 63 = .ok (.ireturn, 1) := by decide +kernel
abbrev MX8_residues : ZM := (yX8_residues, cX8_residues, 4, (Option.some FieldType.int), 3, 78)
theorem dX8_residues_0 : decode cX8_residues 0 = .ok (.aload_n 0, 1) := by decide +kernel
theorem dX8_residues_1 : decode cX8_residues 1 = .ok (.iload_n 1, 1) := by decide +kernel
theorem dX8_residues_2 : decode cX8_residues 2 = .ok (.invokevirtual 110, 3) := by decide +kernel
theorem dX8_residues_5 : decode cX8_residues 5 = .ok (.astore_n 3, 1) := by decide +kernel
theorem dX8_residues_6 : decode cX8_residues 6 = .ok (.aload_n 3, 1) := by decide +kernel
theorem dX8_residues_7 : decode cX8_residues 7 = .ok (.ifnull 14, 3) := by decide +kernel
theorem dX8_residues_10 : decode cX8_residues 10 = .ok (.iload_n 2, 1) := by decide +kernel
theorem dX8_residues_11 : decode cX8_residues 11 = .ok (.iconst 2, 1) := by decide +kernel
theorem dX8_residues_12 : decode cX8_residues 12 = .ok (.if_icmp .lt 9, 3) := by decide +kernel
theorem dX8_residues_15 : decode cX8_residues 15 = .ok (.iload_n 2, 1) := by decide +kernel
theorem dX8_residues_16 : decode cX8_residues 16 = .ok (.bipush 16, 2) := by decide +kernel
theorem dX8_residues_18 : decode cX8_residues 18 = .ok (.if_icmp .le 5, 3) := by decide +kernel
theorem dX8_residues_21 : decode cX8_residues 21 = .ok (.iconst (-1), 1) := by decide +kernel
theorem dX8_residues_22 : decode cX8_residues 22 = .ok (.ireturn, 1) := by decide +kernel
theorem dX8_residues_23 : decode cX8_residues 23 = .ok (.aload_n 0, 1) := by decide +kernel
theorem dX8_residues_24 : decode cX8_residues 24 = .ok (.getfield 58, 3) := by decide +kernel
theorem dX8_residues_27 : decode cX8_residues 27 = .ok (.aload_n 3, 1) := by decide +kernel
theorem dX8_residues_28 : decode cX8_residues 28 = .ok (.iload_n 2, 1) := by decide +kernel
theorem dX8_residues_29 : decode cX8_residues 29 = .ok (.invokevirtual 196, 3) := by decide +kernel
theorem dX8_residues_32 : decode cX8_residues 32 = .ok (.ireturn, 1) := by decide +kernel
abbrev MX8_barred : ZM := (yX8_barred, cX8_barred, 4, (Option.some FieldType.int), 4, 101)
theorem dX8_barred_0 : decode cX8_barred 0 = .ok (.aload_n 0, 1) := by decide +kernel
theorem dX8_barred_1 : decode cX8_barred 1 = .ok (.iload_n 1, 1) := by decide +kernel
theorem dX8_barred_2 : decode cX8_barred 2 = .ok (.invokevirtual 110, 3) := by decide +kernel
theorem dX8_barred_5 : decode cX8_barred 5 = .ok (.astore_n 3, 1) := by decide +kernel
theorem dX8_barred_6 : decode cX8_barred 6 = .ok (.aload_n 3, 1) := by decide +kernel
theorem dX8_barred_7 : decode cX8_barred 7 = .ok (.ifnonnull 7, 3) := by decide +kernel
theorem dX8_barred_10 : decode cX8_barred 10 = .ok (.iconst (-1), 1) := by decide +kernel
theorem dX8_barred_11 : decode cX8_barred 11 = .ok (.goto 9, 3) := by decide +kernel
theorem dX8_barred_14 : decode cX8_barred 14 = .ok (.aload_n 0, 1) := by decide +kernel
theorem dX8_barred_15 : decode cX8_barred 15 = .ok (.aload_n 3, 1) := by decide +kernel
theorem dX8_barred_16 : decode cX8_barred 16 = .ok (.iload_n 2, 1) := by decide +kernel
theorem dX8_barred_17 : decode cX8_barred 17 = .ok (.invokevirtual 192, 3) := by decide +kernel
theorem dX8_barred_20 : decode cX8_barred 20 = .ok (.ireturn, 1) := by decide +kernel
abbrev MX8_rule : ZM := (yX8_rule, cX8_rule, 4, (Option.some FieldType.int), 1, 20)
theorem dX8_rule_0 : decode cX8_rule 0 = .ok (.iload_n 1, 1) := by decide +kernel
theorem dX8_rule_1 : decode cX8_rule 1 = .ok (.invokestatic 199, 3) := by decide +kernel
theorem dX8_rule_4 : decode cX8_rule 4 = .ok (.ifCond .ne 5, 3) := by decide +kernel
theorem dX8_rule_7 : decode cX8_rule 7 = .ok (.iconst (-1), 1) := by decide +kernel
theorem dX8_rule_8 : decode cX8_rule 8 = .ok (.ireturn, 1) := by decide +kernel
theorem dX8_rule_9 : decode cX8_rule 9 = .ok (.iload_n 1, 1) := by decide +kernel
theorem dX8_rule_10 : decode cX8_rule 10 = .ok (.invokestatic 202, 3) := by decide +kernel
theorem dX8_rule_13 : decode cX8_rule 13 = .ok (.astore_n 3, 1) := by decide +kernel
theorem dX8_rule_14 : decode cX8_rule 14 = .ok (.iload_n 2, 1) := by decide +kernel
theorem dX8_rule_15 : decode cX8_rule 15 = .ok (.ifCond .lt 9, 3) := by decide +kernel
theorem dX8_rule_18 : decode cX8_rule 18 = .ok (.iload_n 2, 1) := by decide +kernel
theorem dX8_rule_19 : decode cX8_rule 19 = .ok (.aload_n 3, 1) := by decide +kernel
theorem dX8_rule_20 : decode cX8_rule 20 = .ok (.arraylength, 1) := by decide +kernel
theorem dX8_rule_21 : decode cX8_rule 21 = .ok (.if_icmp .lt 8, 3) := by decide +kernel
theorem dX8_rule_24 : decode cX8_rule 24 = .ok (.bipush (-2), 2) := by decide +kernel
theorem dX8_rule_26 : decode cX8_rule 26 = .ok (.goto 6, 3) := by decide +kernel
theorem dX8_rule_29 : decode cX8_rule 29 = .ok (.aload_n 3, 1) := by decide +kernel
theorem dX8_rule_30 : decode cX8_rule 30 = .ok (.iload_n 2, 1) := by decide +kernel
theorem dX8_rule_31 : decode cX8_rule 31 = .ok (.iaload, 1) := by decide +kernel
theorem dX8_rule_32 : decode cX8_rule 32 = .ok (.ireturn, 1) := by decide +kernel
abbrev MX8_claim : ZM := (yX8_claim, cX8_claim, 4, (Option.some FieldType.int), 5, 126)
theorem dX8_claim_0 : decode cX8_claim 0 = .ok (.aload_n 0, 1) := by decide +kernel
theorem dX8_claim_1 : decode cX8_claim 1 = .ok (.iload_n 1, 1) := by decide +kernel
theorem dX8_claim_2 : decode cX8_claim 2 = .ok (.invokevirtual 110, 3) := by decide +kernel
theorem dX8_claim_5 : decode cX8_claim 5 = .ok (.astore_n 3, 1) := by decide +kernel
theorem dX8_claim_6 : decode cX8_claim 6 = .ok (.aload_n 3, 1) := by decide +kernel
theorem dX8_claim_7 : decode cX8_claim 7 = .ok (.ifnull 10, 3) := by decide +kernel
theorem dX8_claim_10 : decode cX8_claim 10 = .ok (.iload_n 2, 1) := by decide +kernel
theorem dX8_claim_11 : decode cX8_claim 11 = .ok (.invokestatic 199, 3) := by decide +kernel
theorem dX8_claim_14 : decode cX8_claim 14 = .ok (.ifCond .ne 5, 3) := by decide +kernel
theorem dX8_claim_17 : decode cX8_claim 17 = .ok (.iconst (-1), 1) := by decide +kernel
theorem dX8_claim_18 : decode cX8_claim 18 = .ok (.ireturn, 1) := by decide +kernel
theorem dX8_claim_19 : decode cX8_claim 19 = .ok (.aload_n 0, 1) := by decide +kernel
theorem dX8_claim_20 : decode cX8_claim 20 = .ok (.aload_n 3, 1) := by decide +kernel
theorem dX8_claim_21 : decode cX8_claim 21 = .ok (.invokevirtual 177, 3) := by decide +kernel
theorem dX8_claim_24 : decode cX8_claim 24 = .ok (.iload_n 2, 1) := by decide +kernel
theorem dX8_claim_25 : decode cX8_claim 25 = .ok (.invokestatic 206, 3) := by decide +kernel
theorem dX8_claim_28 : decode cX8_claim 28 = .ok (.ifCond .eq 7, 3) := by decide +kernel
theorem dX8_claim_31 : decode cX8_claim 31 = .ok (.iconst 1, 1) := by decide +kernel
theorem dX8_claim_32 : decode cX8_claim 32 = .ok (.goto 4, 3) := by decide +kernel
theorem dX8_claim_35 : decode cX8_claim 35 = .ok (.iconst 0, 1) := by decide +kernel
theorem dX8_claim_36 : decode cX8_claim 36 = .ok (.ireturn, 1) := by decide +kernel
abbrev MX8_lacks : ZM := (yX8_lacks, cX8_lacks, 5, (Option.some FieldType.int), 5, 126)
theorem dX8_lacks_0 : decode cX8_lacks 0 = .ok (.aload_n 0, 1) := by decide +kernel
theorem dX8_lacks_1 : decode cX8_lacks 1 = .ok (.iload_n 1, 1) := by decide +kernel
theorem dX8_lacks_2 : decode cX8_lacks 2 = .ok (.invokevirtual 110, 3) := by decide +kernel
theorem dX8_lacks_5 : decode cX8_lacks 5 = .ok (.astore 4, 2) := by decide +kernel
theorem dX8_lacks_7 : decode cX8_lacks 7 = .ok (.aload 4, 2) := by decide +kernel
theorem dX8_lacks_9 : decode cX8_lacks 9 = .ok (.ifnull 10, 3) := by decide +kernel
theorem dX8_lacks_12 : decode cX8_lacks 12 = .ok (.iload_n 2, 1) := by decide +kernel
theorem dX8_lacks_13 : decode cX8_lacks 13 = .ok (.invokestatic 199, 3) := by decide +kernel
theorem dX8_lacks_16 : decode cX8_lacks 16 = .ok (.ifCond .ne 5, 3) := by decide +kernel
theorem dX8_lacks_19 : decode cX8_lacks 19 = .ok (.iconst (-1), 1) := by decide +kernel
theorem dX8_lacks_20 : decode cX8_lacks 20 = .ok (.ireturn, 1) := by decide +kernel
theorem dX8_lacks_21 : decode cX8_lacks 21 = .ok (.aload_n 0, 1) := by decide +kernel
theorem dX8_lacks_22 : decode cX8_lacks 22 = .ok (.aload 4, 2) := by decide +kernel
theorem dX8_lacks_24 : decode cX8_lacks 24 = .ok (.invokevirtual 177, 3) := by decide +kernel
theorem dX8_lacks_27 : decode cX8_lacks 27 = .ok (.iload_n 2, 1) := by decide +kernel
theorem dX8_lacks_28 : decode cX8_lacks 28 = .ok (.iload_n 3, 1) := by decide +kernel
theorem dX8_lacks_29 : decode cX8_lacks 29 = .ok (.invokestatic 210, 3) := by decide +kernel
theorem dX8_lacks_32 : decode cX8_lacks 32 = .ok (.ireturn, 1) := by decide +kernel
abbrev MX8_certify : ZM := (yX8_certify, cX8_certify, 12, (Option.some FieldType.int), 5, 126)
theorem dX8_certify_0 : decode cX8_certify 0 = .ok (.aload_n 0, 1) := by decide +kernel
theorem dX8_certify_1 : decode cX8_certify 1 = .ok (.iload_n 1, 1) := by decide +kernel
theorem dX8_certify_2 : decode cX8_certify 2 = .ok (.invokevirtual 110, 3) := by decide +kernel
theorem dX8_certify_5 : decode cX8_certify 5 = .ok (.astore 5, 2) := by decide +kernel
theorem dX8_certify_7 : decode cX8_certify 7 = .ok (.aload 5, 2) := by decide +kernel
theorem dX8_certify_9 : decode cX8_certify 9 = .ok (.ifnull 17, 3) := by decide +kernel
theorem dX8_certify_12 : decode cX8_certify 12 = .ok (.iload_n 2, 1) := by decide +kernel
theorem dX8_certify_13 : decode cX8_certify 13 = .ok (.invokestatic 199, 3) := by decide +kernel
theorem dX8_certify_16 : decode cX8_certify 16 = .ok (.ifCond .eq 10, 3) := by decide +kernel
theorem dX8_certify_19 : decode cX8_certify 19 = .ok (.iload_n 3, 1) := by decide +kernel
theorem dX8_certify_20 : decode cX8_certify 20 = .ok (.invokestatic 88, 3) := by decide +kernel
theorem dX8_certify_23 : decode cX8_certify 23 = .ok (.ifCond .ne 5, 3) := by decide +kernel
theorem dX8_certify_26 : decode cX8_certify 26 = .ok (.iconst (-1), 1) := by decide +kernel
theorem dX8_certify_27 : decode cX8_certify 27 = .ok (.ireturn, 1) := by decide +kernel
theorem dX8_certify_28 : decode cX8_certify 28 = .ok (.aload_n 0, 1) := by decide +kernel
theorem dX8_certify_29 : decode cX8_certify 29 = .ok (.aload 5, 2) := by decide +kernel
theorem dX8_certify_31 : decode cX8_certify 31 = .ok (.invokevirtual 177, 3) := by decide +kernel
theorem dX8_certify_34 : decode cX8_certify 34 = .ok (.astore 6, 2) := by decide +kernel
theorem dX8_certify_36 : decode cX8_certify 36 = .ok (.aload 6, 2) := by decide +kernel
theorem dX8_certify_38 : decode cX8_certify 38 = .ok (.iload_n 2, 1) := by decide +kernel
theorem dX8_certify_39 : decode cX8_certify 39 = .ok (.invokestatic 206, 3) := by decide +kernel
theorem dX8_certify_42 : decode cX8_certify 42 = .ok (.ifCond .ne 6, 3) := by decide +kernel
theorem dX8_certify_45 : decode cX8_certify 45 = .ok (.bipush (-3), 2) := by decide +kernel
theorem dX8_certify_47 : decode cX8_certify 47 = .ok (.ireturn, 1) := by decide +kernel
theorem dX8_certify_48 : decode cX8_certify 48 = .ok (.aload_n 0, 1) := by decide +kernel
theorem dX8_certify_49 : decode cX8_certify 49 = .ok (.getfield 36, 3) := by decide +kernel
theorem dX8_certify_52 : decode cX8_certify 52 = .ok (.iload_n 3, 1) := by decide +kernel
theorem dX8_certify_53 : decode cX8_certify 53 = .ok (.aaload, 1) := by decide +kernel
theorem dX8_certify_54 : decode cX8_certify 54 = .ok (.astore 7, 2) := by decide +kernel
theorem dX8_certify_56 : decode cX8_certify 56 = .ok (.aload 7, 2) := by decide +kernel
theorem dX8_certify_58 : decode cX8_certify 58 = .ok (.invokevirtual 91, 3) := by decide +kernel
theorem dX8_certify_61 : decode cX8_certify 61 = .ok (.ifCond .eq 6, 3) := by decide +kernel
theorem dX8_certify_64 : decode cX8_certify 64 = .ok (.bipush (-11), 2) := by decide +kernel
theorem dX8_certify_66 : decode cX8_certify 66 = .ok (.ireturn, 1) := by decide +kernel
theorem dX8_certify_67 : decode cX8_certify 67 = .ok (.aload 7, 2) := by decide +kernel
theorem dX8_certify_69 : decode cX8_certify 69 = .ok (.iload 4, 2) := by decide +kernel
theorem dX8_certify_71 : decode cX8_certify 71 = .ok (.iconst 0, 1) := by decide +kernel
theorem dX8_certify_72 : decode cX8_certify 72 = .ok (.invokevirtual 99, 3) := by decide +kernel
theorem dX8_certify_75 : decode cX8_certify 75 = .ok (.ifCond .ne 6, 3) := by decide +kernel
theorem dX8_certify_78 : decode cX8_certify 78 = .ok (.bipush (-12), 2) := by decide +kernel
theorem dX8_certify_80 : decode cX8_certify 80 = .ok (.ireturn, 1) := by decide +kernel
theorem dX8_certify_81 : decode cX8_certify 81 = .ok (.iload_n 2, 1) := by decide +kernel
theorem dX8_certify_82 : decode cX8_certify 82 = .ok (.invokestatic 202, 3) := by decide +kernel
theorem dX8_certify_85 : decode cX8_certify 85 = .ok (.astore 8, 2) := by decide +kernel
theorem dX8_certify_87 : decode cX8_certify 87 = .ok (.iconst 0, 1) := by decide +kernel
theorem dX8_certify_88 : decode cX8_certify 88 = .ok (.istore 9, 2) := by decide +kernel
theorem dX8_certify_90 : decode cX8_certify 90 = .ok (.iload 4, 2) := by decide +kernel
theorem dX8_certify_92 : decode cX8_certify 92 = .ok (.istore 10, 2) := by decide +kernel
theorem dX8_certify_94 : decode cX8_certify 94 = .ok (.iload 9, 2) := by decide +kernel
theorem dX8_certify_96 : decode cX8_certify 96 = .ok (.aload 8, 2) := by decide +kernel
theorem dX8_certify_98 : decode cX8_certify 98 = .ok (.arraylength, 1) := by decide +kernel
theorem dX8_certify_99 : decode cX8_certify 99 = .ok (.if_icmp .ge 101, 3) := by decide +kernel
theorem dX8_certify_102 : decode cX8_certify 102 = .ok (.aload 7, 2) := by decide +kernel
theorem dX8_certify_104 : decode cX8_certify 104 = .ok (.iload 10, 2) := by decide +kernel
theorem dX8_certify_106 : decode cX8_certify 106 = .ok (.iconst 1, 1) := by decide +kernel
theorem dX8_certify_107 : decode cX8_certify 107 = .ok (.aload 5, 2) := by decide +kernel
theorem dX8_certify_109 : decode cX8_certify 109 = .ok (.getfield 114, 3) := by decide +kernel
theorem dX8_certify_112 : decode cX8_certify 112 = .ok (.iadd, 1) := by decide +kernel
theorem dX8_certify_113 : decode cX8_certify 113 = .ok (.invokevirtual 99, 3) := by decide +kernel
theorem dX8_certify_116 : decode cX8_certify 116 = .ok (.ifCond .eq 84, 3) := by decide +kernel
theorem dX8_certify_119 : decode cX8_certify 119 = .ok (.aload 7, 2) := by decide +kernel
theorem dX8_certify_121 : decode cX8_certify 121 = .ok (.iload 10, 2) := by decide +kernel
theorem dX8_certify_123 : decode cX8_certify 123 = .ok (.aload 8, 2) := by decide +kernel
theorem dX8_certify_125 : decode cX8_certify 125 = .ok (.iload 9, 2) := by decide +kernel
theorem dX8_certify_127 : decode cX8_certify 127 = .ok (.iaload, 1) := by decide +kernel
theorem dX8_certify_128 : decode cX8_certify 128 = .ok (.invokevirtual 120, 3) := by decide +kernel
theorem dX8_certify_131 : decode cX8_certify 131 = .ok (.iconst 0, 1) := by decide +kernel
theorem dX8_certify_132 : decode cX8_certify 132 = .ok (.istore 11, 2) := by decide +kernel
theorem dX8_certify_134 : decode cX8_certify 134 = .ok (.iload 11, 2) := by decide +kernel
theorem dX8_certify_136 : decode cX8_certify 136 = .ok (.aload 5, 2) := by decide +kernel
theorem dX8_certify_138 : decode cX8_certify 138 = .ok (.getfield 114, 3) := by decide +kernel
theorem dX8_certify_141 : decode cX8_certify 141 = .ok (.if_icmp .ge 41, 3) := by decide +kernel
theorem dX8_certify_144 : decode cX8_certify 144 = .ok (.aload 7, 2) := by decide +kernel
theorem dX8_certify_146 : decode cX8_certify 146 = .ok (.iload 10, 2) := by decide +kernel
theorem dX8_certify_148 : decode cX8_certify 148 = .ok (.iconst 1, 1) := by decide +kernel
theorem dX8_certify_149 : decode cX8_certify 149 = .ok (.iadd, 1) := by decide +kernel
theorem dX8_certify_150 : decode cX8_certify 150 = .ok (.iload 11, 2) := by decide +kernel
theorem dX8_certify_152 : decode cX8_certify 152 = .ok (.iadd, 1) := by decide +kernel
theorem dX8_certify_153 : decode cX8_certify 153 = .ok (.aload 6, 2) := by decide +kernel
theorem dX8_certify_155 : decode cX8_certify 155 = .ok (.getfield 186, 3) := by decide +kernel
theorem dX8_certify_158 : decode cX8_certify 158 = .ok (.aload 5, 2) := by decide +kernel
theorem dX8_certify_160 : decode cX8_certify 160 = .ok (.getfield 114, 3) := by decide +kernel
theorem dX8_certify_163 : decode cX8_certify 163 = .ok (.aload 8, 2) := by decide +kernel
theorem dX8_certify_165 : decode cX8_certify 165 = .ok (.iload 9, 2) := by decide +kernel
theorem dX8_certify_167 : decode cX8_certify 167 = .ok (.iaload, 1) := by decide +kernel
theorem dX8_certify_168 : decode cX8_certify 168 = .ok (.imul, 1) := by decide +kernel
theorem dX8_certify_169 : decode cX8_certify 169 = .ok (.iload 11, 2) := by decide +kernel
theorem dX8_certify_171 : decode cX8_certify 171 = .ok (.iadd, 1) := by decide +kernel
theorem dX8_certify_172 : decode cX8_certify 172 = .ok (.iaload, 1) := by decide +kernel
theorem dX8_certify_173 : decode cX8_certify 173 = .ok (.invokevirtual 120, 3) := by decide +kernel
theorem dX8_certify_176 : decode cX8_certify 176 = .ok (.iinc 11 1, 3) := by decide +kernel
theorem dX8_certify_179 : decode cX8_certify 179 = .ok (.goto (-45), 3) := by decide +kernel
theorem dX8_certify_182 : decode cX8_certify 182 = .ok (.iload 10, 2) := by decide +kernel
theorem dX8_certify_184 : decode cX8_certify 184 = .ok (.iconst 1, 1) := by decide +kernel
theorem dX8_certify_185 : decode cX8_certify 185 = .ok (.aload 5, 2) := by decide +kernel
theorem dX8_certify_187 : decode cX8_certify 187 = .ok (.getfield 114, 3) := by decide +kernel
theorem dX8_certify_190 : decode cX8_certify 190 = .ok (.iadd, 1) := by decide +kernel
theorem dX8_certify_191 : decode cX8_certify 191 = .ok (.iadd, 1) := by decide +kernel
theorem dX8_certify_192 : decode cX8_certify 192 = .ok (.istore 10, 2) := by decide +kernel
theorem dX8_certify_194 : decode cX8_certify 194 = .ok (.iinc 9 1, 3) := by decide +kernel
theorem dX8_certify_197 : decode cX8_certify 197 = .ok (.goto (-103), 3) := by decide +kernel
theorem dX8_certify_200 : decode cX8_certify 200 = .ok (.iload 9, 2) := by decide +kernel
theorem dX8_certify_202 : decode cX8_certify 202 = .ok (.ireturn, 1) := by decide +kernel
abbrev MX8_children : ZM := (yX8_children, cX8_children, 4, (Option.some FieldType.int), 6, 147)
theorem dX8_children_0 : decode cX8_children 0 = .ok (.aload_n 0, 1) := by decide +kernel
theorem dX8_children_1 : decode cX8_children 1 = .ok (.iload_n 1, 1) := by decide +kernel
theorem dX8_children_2 : decode cX8_children 2 = .ok (.invokevirtual 110, 3) := by decide +kernel
theorem dX8_children_5 : decode cX8_children 5 = .ok (.astore_n 2, 1) := by decide +kernel
theorem dX8_children_6 : decode cX8_children 6 = .ok (.aload_n 2, 1) := by decide +kernel
theorem dX8_children_7 : decode cX8_children 7 = .ok (.ifnonnull 5, 3) := by decide +kernel
theorem dX8_children_10 : decode cX8_children 10 = .ok (.iconst (-1), 1) := by decide +kernel
theorem dX8_children_11 : decode cX8_children 11 = .ok (.ireturn, 1) := by decide +kernel
theorem dX8_children_12 : decode cX8_children 12 = .ok (.aload_n 0, 1) := by decide +kernel
theorem dX8_children_13 : decode cX8_children 13 = .ok (.aload_n 2, 1) := by decide +kernel
theorem dX8_children_14 : decode cX8_children 14 = .ok (.invokevirtual 214, 3) := by decide +kernel
theorem dX8_children_17 : decode cX8_children 17 = .ok (.istore_n 3, 1) := by decide +kernel
theorem dX8_children_18 : decode cX8_children 18 = .ok (.iload_n 3, 1) := by decide +kernel
theorem dX8_children_19 : decode cX8_children 19 = .ok (.ifCond .eq 7, 3) := by decide +kernel
theorem dX8_children_22 : decode cX8_children 22 = .ok (.iload_n 3, 1) := by decide +kernel
theorem dX8_children_23 : decode cX8_children 23 = .ok (.goto 11, 3) := by decide +kernel
theorem dX8_children_26 : decode cX8_children 26 = .ok (.aload_n 0, 1) := by decide +kernel
theorem dX8_children_27 : decode cX8_children 27 = .ok (.aload_n 2, 1) := by decide +kernel
theorem dX8_children_28 : decode cX8_children 28 = .ok (.invokevirtual 218, 3) := by decide +kernel
theorem dX8_children_31 : decode cX8_children 31 = .ok (.getfield 222, 3) := by decide +kernel
theorem dX8_children_34 : decode cX8_children 34 = .ok (.ireturn, 1) := by decide +kernel
abbrev MX8_child : ZM := (yX8_child, cX8_child, 6, (Option.some FieldType.int), 6, 147)
theorem dX8_child_0 : decode cX8_child 0 = .ok (.aload_n 0, 1) := by decide +kernel
theorem dX8_child_1 : decode cX8_child 1 = .ok (.iload_n 1, 1) := by decide +kernel
theorem dX8_child_2 : decode cX8_child 2 = .ok (.invokevirtual 110, 3) := by decide +kernel
theorem dX8_child_5 : decode cX8_child 5 = .ok (.astore 4, 2) := by decide +kernel
theorem dX8_child_7 : decode cX8_child 7 = .ok (.aload 4, 2) := by decide +kernel
theorem dX8_child_9 : decode cX8_child 9 = .ok (.ifnull 10, 3) := by decide +kernel
theorem dX8_child_12 : decode cX8_child 12 = .ok (.iload_n 3, 1) := by decide +kernel
theorem dX8_child_13 : decode cX8_child 13 = .ok (.invokestatic 69, 3) := by decide +kernel
theorem dX8_child_16 : decode cX8_child 16 = .ok (.ifCond .ne 5, 3) := by decide +kernel
theorem dX8_child_19 : decode cX8_child 19 = .ok (.iconst (-1), 1) := by decide +kernel
theorem dX8_child_20 : decode cX8_child 20 = .ok (.ireturn, 1) := by decide +kernel
theorem dX8_child_21 : decode cX8_child 21 = .ok (.aload_n 0, 1) := by decide +kernel
theorem dX8_child_22 : decode cX8_child 22 = .ok (.aload 4, 2) := by decide +kernel
theorem dX8_child_24 : decode cX8_child 24 = .ok (.invokevirtual 214, 3) := by decide +kernel
theorem dX8_child_27 : decode cX8_child 27 = .ok (.istore 5, 2) := by decide +kernel
theorem dX8_child_29 : decode cX8_child 29 = .ok (.iload 5, 2) := by decide +kernel
theorem dX8_child_31 : decode cX8_child 31 = .ok (.ifCond .eq 6, 3) := by decide +kernel
theorem dX8_child_34 : decode cX8_child 34 = .ok (.iload 5, 2) := by decide +kernel
theorem dX8_child_36 : decode cX8_child 36 = .ok (.ireturn, 1) := by decide +kernel
theorem dX8_child_37 : decode cX8_child 37 = .ok (.aload_n 0, 1) := by decide +kernel
theorem dX8_child_38 : decode cX8_child 38 = .ok (.aload 4, 2) := by decide +kernel
theorem dX8_child_40 : decode cX8_child 40 = .ok (.invokevirtual 218, 3) := by decide +kernel
theorem dX8_child_43 : decode cX8_child 43 = .ok (.iload_n 2, 1) := by decide +kernel
theorem dX8_child_44 : decode cX8_child 44 = .ok (.aload_n 0, 1) := by decide +kernel
theorem dX8_child_45 : decode cX8_child 45 = .ok (.getfield 44, 3) := by decide +kernel
theorem dX8_child_48 : decode cX8_child 48 = .ok (.invokevirtual 225, 3) := by decide +kernel
theorem dX8_child_51 : decode cX8_child 51 = .ok (.ifCond .ne 6, 3) := by decide +kernel
theorem dX8_child_54 : decode cX8_child 54 = .ok (.bipush (-2), 2) := by decide +kernel
theorem dX8_child_56 : decode cX8_child 56 = .ok (.ireturn, 1) := by decide +kernel
theorem dX8_child_57 : decode cX8_child 57 = .ok (.aload_n 0, 1) := by decide +kernel
theorem dX8_child_58 : decode cX8_child 58 = .ok (.iload_n 3, 1) := by decide +kernel
theorem dX8_child_59 : decode cX8_child 59 = .ok (.invokevirtual 81, 3) := by decide +kernel
theorem dX8_child_62 : decode cX8_child 62 = .ok (.ifCond .eq 13, 3) := by decide +kernel
theorem dX8_child_65 : decode cX8_child 65 = .ok (.aload_n 0, 1) := by decide +kernel
theorem dX8_child_66 : decode cX8_child 66 = .ok (.getfield 44, 3) := by decide +kernel
theorem dX8_child_69 : decode cX8_child 69 = .ok (.getfield 84, 3) := by decide +kernel
theorem dX8_child_72 : decode cX8_child 72 = .ok (.goto 5, 3) := by decide +kernel
theorem dX8_child_75 : decode cX8_child 75 = .ok (.bipush (-5), 2) := by decide +kernel
theorem dX8_child_77 : decode cX8_child 77 = .ok (.ireturn, 1) := by decide +kernel
abbrev MX8_next : ZM := (yX8_next, cX8_next, 12, (Option.some FieldType.int), 6, 147)
theorem dX8_next_0 : decode cX8_next 0 = .ok (.aload_n 0, 1) := by decide +kernel
theorem dX8_next_1 : decode cX8_next 1 = .ok (.iload_n 1, 1) := by decide +kernel
theorem dX8_next_2 : decode cX8_next 2 = .ok (.invokevirtual 110, 3) := by decide +kernel
theorem dX8_next_5 : decode cX8_next 5 = .ok (.astore 4, 2) := by decide +kernel
theorem dX8_next_7 : decode cX8_next 7 = .ok (.aload 4, 2) := by decide +kernel
theorem dX8_next_9 : decode cX8_next 9 = .ok (.ifnull 16, 3) := by decide +kernel
theorem dX8_next_12 : decode cX8_next 12 = .ok (.iload_n 2, 1) := by decide +kernel
theorem dX8_next_13 : decode cX8_next 13 = .ok (.ifCond .lt 12, 3) := by decide +kernel
theorem dX8_next_16 : decode cX8_next 16 = .ok (.iload_n 3, 1) := by decide +kernel
theorem dX8_next_17 : decode cX8_next 17 = .ok (.ifCond .lt 8, 3) := by decide +kernel
theorem dX8_next_20 : decode cX8_next 20 = .ok (.iload_n 3, 1) := by decide +kernel
theorem dX8_next_21 : decode cX8_next 21 = .ok (.iconst 3, 1) := by decide +kernel
theorem dX8_next_22 : decode cX8_next 22 = .ok (.if_icmp .le 5, 3) := by decide +kernel
theorem dX8_next_25 : decode cX8_next 25 = .ok (.iconst (-1), 1) := by decide +kernel
theorem dX8_next_26 : decode cX8_next 26 = .ok (.ireturn, 1) := by decide +kernel
theorem dX8_next_27 : decode cX8_next 27 = .ok (.aload_n 0, 1) := by decide +kernel
theorem dX8_next_28 : decode cX8_next 28 = .ok (.aload 4, 2) := by decide +kernel
theorem dX8_next_30 : decode cX8_next 30 = .ok (.invokevirtual 214, 3) := by decide +kernel
theorem dX8_next_33 : decode cX8_next 33 = .ok (.istore 5, 2) := by decide +kernel
theorem dX8_next_35 : decode cX8_next 35 = .ok (.iload 5, 2) := by decide +kernel
theorem dX8_next_37 : decode cX8_next 37 = .ok (.ifCond .eq 6, 3) := by decide +kernel
theorem dX8_next_40 : decode cX8_next 40 = .ok (.iload 5, 2) := by decide +kernel
theorem dX8_next_42 : decode cX8_next 42 = .ok (.ireturn, 1) := by decide +kernel
theorem dX8_next_43 : decode cX8_next 43 = .ok (.iconst 0, 1) := by decide +kernel
theorem dX8_next_44 : decode cX8_next 44 = .ok (.bipush 64, 2) := by decide +kernel
theorem dX8_next_46 : decode cX8_next 46 = .ok (.aload_n 0, 1) := by decide +kernel
theorem dX8_next_47 : decode cX8_next 47 = .ok (.aload 4, 2) := by decide +kernel
theorem dX8_next_49 : decode cX8_next 49 = .ok (.invokevirtual 218, 3) := by decide +kernel
theorem dX8_next_52 : decode cX8_next 52 = .ok (.getfield 222, 3) := by decide +kernel
theorem dX8_next_55 : decode cX8_next 55 = .ok (.iload_n 2, 1) := by decide +kernel
theorem dX8_next_56 : decode cX8_next 56 = .ok (.isub, 1) := by decide +kernel
theorem dX8_next_57 : decode cX8_next 57 = .ok (.invokestatic 229, 3) := by decide +kernel
theorem dX8_next_60 : decode cX8_next 60 = .ok (.invokestatic 233, 3) := by decide +kernel
theorem dX8_next_63 : decode cX8_next 63 = .ok (.istore 6, 2) := by decide +kernel
theorem dX8_next_65 : decode cX8_next 65 = .ok (.iload_n 3, 1) := by decide +kernel
theorem dX8_next_66 : decode cX8_next 66 = .ok (.ifCond .ne 6, 3) := by decide +kernel
theorem dX8_next_69 : decode cX8_next 69 = .ok (.iload 6, 2) := by decide +kernel
theorem dX8_next_71 : decode cX8_next 71 = .ok (.ireturn, 1) := by decide +kernel
theorem dX8_next_72 : decode cX8_next 72 = .ok (.iconst 0, 1) := by decide +kernel
theorem dX8_next_73 : decode cX8_next 73 = .ok (.istore 7, 2) := by decide +kernel
theorem dX8_next_75 : decode cX8_next 75 = .ok (.iconst 0, 1) := by decide +kernel
theorem dX8_next_76 : decode cX8_next 76 = .ok (.istore 8, 2) := by decide +kernel
theorem dX8_next_78 : decode cX8_next 78 = .ok (.bipush (-2), 2) := by decide +kernel
theorem dX8_next_80 : decode cX8_next 80 = .ok (.istore 9, 2) := by decide +kernel
theorem dX8_next_82 : decode cX8_next 82 = .ok (.iconst 0, 1) := by decide +kernel
theorem dX8_next_83 : decode cX8_next 83 = .ok (.istore 10, 2) := by decide +kernel
theorem dX8_next_85 : decode cX8_next 85 = .ok (.iload 10, 2) := by decide +kernel
theorem dX8_next_87 : decode cX8_next 87 = .ok (.iload 6, 2) := by decide +kernel
theorem dX8_next_89 : decode cX8_next 89 = .ok (.if_icmp .ge 67, 3) := by decide +kernel
theorem dX8_next_92 : decode cX8_next 92 = .ok (.aload_n 0, 1) := by decide +kernel
theorem dX8_next_93 : decode cX8_next 93 = .ok (.getfield 65, 3) := by decide +kernel
theorem dX8_next_96 : decode cX8_next 96 = .ok (.iload_n 2, 1) := by decide +kernel
theorem dX8_next_97 : decode cX8_next 97 = .ok (.iload 10, 2) := by decide +kernel
theorem dX8_next_99 : decode cX8_next 99 = .ok (.iadd, 1) := by decide +kernel
theorem dX8_next_100 : decode cX8_next 100 = .ok (.aload_n 0, 1) := by decide +kernel
theorem dX8_next_101 : decode cX8_next 101 = .ok (.getfield 44, 3) := by decide +kernel
theorem dX8_next_104 : decode cX8_next 104 = .ok (.invokevirtual 225, 3) := by decide +kernel
theorem dX8_next_107 : decode cX8_next 107 = .ok (.ifCond .eq 10, 3) := by decide +kernel
theorem dX8_next_110 : decode cX8_next 110 = .ok (.aload_n 0, 1) := by decide +kernel
theorem dX8_next_111 : decode cX8_next 111 = .ok (.invokevirtual 236, 3) := by decide +kernel
theorem dX8_next_114 : decode cX8_next 114 = .ok (.goto 4, 3) := by decide +kernel
theorem dX8_next_117 : decode cX8_next 117 = .ok (.iconst 0, 1) := by decide +kernel
theorem dX8_next_118 : decode cX8_next 118 = .ok (.istore 11, 2) := by decide +kernel
theorem dX8_next_120 : decode cX8_next 120 = .ok (.iload 8, 2) := by decide +kernel
theorem dX8_next_122 : decode cX8_next 122 = .ok (.iload 11, 2) := by decide +kernel
theorem dX8_next_124 : decode cX8_next 124 = .ok (.invokestatic 233, 3) := by decide +kernel
theorem dX8_next_127 : decode cX8_next 127 = .ok (.istore 8, 2) := by decide +kernel
theorem dX8_next_129 : decode cX8_next 129 = .ok (.iload 11, 2) := by decide +kernel
theorem dX8_next_131 : decode cX8_next 131 = .ok (.ifCond .ne 19, 3) := by decide +kernel
theorem dX8_next_134 : decode cX8_next 134 = .ok (.iinc 7 1, 3) := by decide +kernel
theorem dX8_next_137 : decode cX8_next 137 = .ok (.iload 9, 2) := by decide +kernel
theorem dX8_next_139 : decode cX8_next 139 = .ok (.bipush (-2), 2) := by decide +kernel
theorem dX8_next_141 : decode cX8_next 141 = .ok (.if_icmp .ne 9, 3) := by decide +kernel
theorem dX8_next_144 : decode cX8_next 144 = .ok (.iload_n 2, 1) := by decide +kernel
theorem dX8_next_145 : decode cX8_next 145 = .ok (.iload 10, 2) := by decide +kernel
theorem dX8_next_147 : decode cX8_next 147 = .ok (.iadd, 1) := by decide +kernel
theorem dX8_next_148 : decode cX8_next 148 = .ok (.istore 9, 2) := by decide +kernel
theorem dX8_next_150 : decode cX8_next 150 = .ok (.iinc 10 1, 3) := by decide +kernel
theorem dX8_next_153 : decode cX8_next 153 = .ok (.goto (-68), 3) := by decide +kernel
theorem dX8_next_156 : decode cX8_next 156 = .ok (.iload_n 3, 1) := by decide +kernel
theorem dX8_next_157 : decode cX8_next 157 = .ok (.iconst 1, 1) := by decide +kernel
theorem dX8_next_158 : decode cX8_next 158 = .ok (.if_icmp .ne 8, 3) := by decide +kernel
theorem dX8_next_161 : decode cX8_next 161 = .ok (.iload 7, 2) := by decide +kernel
theorem dX8_next_163 : decode cX8_next 163 = .ok (.goto 15, 3) := by decide +kernel
theorem dX8_next_166 : decode cX8_next 166 = .ok (.iload_n 3, 1) := by decide +kernel
theorem dX8_next_167 : decode cX8_next 167 = .ok (.iconst 2, 1) := by decide +kernel
theorem dX8_next_168 : decode cX8_next 168 = .ok (.if_icmp .ne 8, 3) := by decide +kernel
theorem dX8_next_171 : decode cX8_next 171 = .ok (.iload 8, 2) := by decide +kernel
theorem dX8_next_173 : decode cX8_next 173 = .ok (.goto 5, 3) := by decide +kernel
theorem dX8_next_176 : decode cX8_next 176 = .ok (.iload 9, 2) := by decide +kernel
theorem dX8_next_178 : decode cX8_next 178 = .ok (.ireturn, 1) := by decide +kernel
abbrev MX8_plant : ZM := (yX8_plant, cX8_plant, 4, (Option.some FieldType.int), 2, 41)
theorem dX8_plant_0 : decode cX8_plant 0 = .ok (.aload_n 0, 1) := by decide +kernel
theorem dX8_plant_1 : decode cX8_plant 1 = .ok (.iload_n 1, 1) := by decide +kernel
theorem dX8_plant_2 : decode cX8_plant 2 = .ok (.invokevirtual 110, 3) := by decide +kernel
theorem dX8_plant_5 : decode cX8_plant 5 = .ok (.astore_n 2, 1) := by decide +kernel
theorem dX8_plant_6 : decode cX8_plant 6 = .ok (.aload_n 2, 1) := by decide +kernel
theorem dX8_plant_7 : decode cX8_plant 7 = .ok (.ifnonnull 5, 3) := by decide +kernel
theorem dX8_plant_10 : decode cX8_plant 10 = .ok (.iconst (-1), 1) := by decide +kernel
theorem dX8_plant_11 : decode cX8_plant 11 = .ok (.ireturn, 1) := by decide +kernel
theorem dX8_plant_12 : decode cX8_plant 12 = .ok (.aload_n 0, 1) := by decide +kernel
theorem dX8_plant_13 : decode cX8_plant 13 = .ok (.getfield 23, 3) := by decide +kernel
theorem dX8_plant_16 : decode cX8_plant 16 = .ok (.getfield 239, 3) := by decide +kernel
theorem dX8_plant_19 : decode cX8_plant 19 = .ok (.istore_n 3, 1) := by decide +kernel
theorem dX8_plant_20 : decode cX8_plant 20 = .ok (.aload_n 0, 1) := by decide +kernel
theorem dX8_plant_21 : decode cX8_plant 21 = .ok (.getfield 23, 3) := by decide +kernel
theorem dX8_plant_24 : decode cX8_plant 24 = .ok (.iconst 0, 1) := by decide +kernel
theorem dX8_plant_25 : decode cX8_plant 25 = .ok (.invokevirtual 240, 3) := by decide +kernel
theorem dX8_plant_28 : decode cX8_plant 28 = .ok (.aload_n 0, 1) := by decide +kernel
theorem dX8_plant_29 : decode cX8_plant 29 = .ok (.getfield 23, 3) := by decide +kernel
theorem dX8_plant_32 : decode cX8_plant 32 = .ok (.aload_n 2, 1) := by decide +kernel
theorem dX8_plant_33 : decode cX8_plant 33 = .ok (.bipush (-2), 2) := by decide +kernel
theorem dX8_plant_35 : decode cX8_plant 35 = .ok (.bipush (-2), 2) := by decide +kernel
theorem dX8_plant_37 : decode cX8_plant 37 = .ok (.invokevirtual 243, 3) := by decide +kernel
theorem dX8_plant_40 : decode cX8_plant 40 = .ok (.pop, 1) := by decide +kernel
theorem dX8_plant_41 : decode cX8_plant 41 = .ok (.iload_n 3, 1) := by decide +kernel
theorem dX8_plant_42 : decode cX8_plant 42 = .ok (.ireturn, 1) := by decide +kernel
abbrev MX8_branch : ZM := (yX8_branch, cX8_branch, 5, (Option.some FieldType.int), 6, 147)
theorem dX8_branch_0 : decode cX8_branch 0 = .ok (.aload_n 0, 1) := by decide +kernel
theorem dX8_branch_1 : decode cX8_branch 1 = .ok (.getfield 23, 3) := by decide +kernel
theorem dX8_branch_4 : decode cX8_branch 4 = .ok (.iload_n 1, 1) := by decide +kernel
theorem dX8_branch_5 : decode cX8_branch 5 = .ok (.invokevirtual 247, 3) := by decide +kernel
theorem dX8_branch_8 : decode cX8_branch 8 = .ok (.ifCond .ne 5, 3) := by decide +kernel
theorem dX8_branch_11 : decode cX8_branch 11 = .ok (.iconst (-1), 1) := by decide +kernel
theorem dX8_branch_12 : decode cX8_branch 12 = .ok (.ireturn, 1) := by decide +kernel
theorem dX8_branch_13 : decode cX8_branch 13 = .ok (.aload_n 0, 1) := by decide +kernel
theorem dX8_branch_14 : decode cX8_branch 14 = .ok (.getfield 23, 3) := by decide +kernel
theorem dX8_branch_17 : decode cX8_branch 17 = .ok (.getfield 250, 3) := by decide +kernel
theorem dX8_branch_20 : decode cX8_branch 20 = .ok (.iload_n 1, 1) := by decide +kernel
theorem dX8_branch_21 : decode cX8_branch 21 = .ok (.aaload, 1) := by decide +kernel
theorem dX8_branch_22 : decode cX8_branch 22 = .ok (.astore_n 3, 1) := by decide +kernel
theorem dX8_branch_23 : decode cX8_branch 23 = .ok (.aload_n 0, 1) := by decide +kernel
theorem dX8_branch_24 : decode cX8_branch 24 = .ok (.aload_n 3, 1) := by decide +kernel
theorem dX8_branch_25 : decode cX8_branch 25 = .ok (.invokevirtual 214, 3) := by decide +kernel
theorem dX8_branch_28 : decode cX8_branch 28 = .ok (.istore 4, 2) := by decide +kernel
theorem dX8_branch_30 : decode cX8_branch 30 = .ok (.iload 4, 2) := by decide +kernel
theorem dX8_branch_32 : decode cX8_branch 32 = .ok (.ifCond .eq 6, 3) := by decide +kernel
theorem dX8_branch_35 : decode cX8_branch 35 = .ok (.iload 4, 2) := by decide +kernel
theorem dX8_branch_37 : decode cX8_branch 37 = .ok (.ireturn, 1) := by decide +kernel
theorem dX8_branch_38 : decode cX8_branch 38 = .ok (.aload_n 0, 1) := by decide +kernel
theorem dX8_branch_39 : decode cX8_branch 39 = .ok (.getfield 23, 3) := by decide +kernel
theorem dX8_branch_42 : decode cX8_branch 42 = .ok (.getfield 239, 3) := by decide +kernel
theorem dX8_branch_45 : decode cX8_branch 45 = .ok (.bipush 30, 2) := by decide +kernel
theorem dX8_branch_47 : decode cX8_branch 47 = .ok (.if_icmp .lt 6, 3) := by decide +kernel
theorem dX8_branch_50 : decode cX8_branch 50 = .ok (.bipush (-4), 2) := by decide +kernel
theorem dX8_branch_52 : decode cX8_branch 52 = .ok (.ireturn, 1) := by decide +kernel
theorem dX8_branch_53 : decode cX8_branch 53 = .ok (.aload_n 0, 1) := by decide +kernel
theorem dX8_branch_54 : decode cX8_branch 54 = .ok (.aload_n 3, 1) := by decide +kernel
theorem dX8_branch_55 : decode cX8_branch 55 = .ok (.invokevirtual 218, 3) := by decide +kernel
theorem dX8_branch_58 : decode cX8_branch 58 = .ok (.iload_n 2, 1) := by decide +kernel
theorem dX8_branch_59 : decode cX8_branch 59 = .ok (.aload_n 0, 1) := by decide +kernel
theorem dX8_branch_60 : decode cX8_branch 60 = .ok (.getfield 44, 3) := by decide +kernel
theorem dX8_branch_63 : decode cX8_branch 63 = .ok (.invokevirtual 225, 3) := by decide +kernel
theorem dX8_branch_66 : decode cX8_branch 66 = .ok (.ifCond .ne 6, 3) := by decide +kernel
theorem dX8_branch_69 : decode cX8_branch 69 = .ok (.bipush (-2), 2) := by decide +kernel
theorem dX8_branch_71 : decode cX8_branch 71 = .ok (.ireturn, 1) := by decide +kernel
theorem dX8_branch_72 : decode cX8_branch 72 = .ok (.aload_n 0, 1) := by decide +kernel
theorem dX8_branch_73 : decode cX8_branch 73 = .ok (.getfield 44, 3) := by decide +kernel
theorem dX8_branch_76 : decode cX8_branch 76 = .ok (.invokevirtual 253, 3) := by decide +kernel
theorem dX8_branch_79 : decode cX8_branch 79 = .ok (.ifCond .ne 6, 3) := by decide +kernel
theorem dX8_branch_82 : decode cX8_branch 82 = .ok (.bipush (-5), 2) := by decide +kernel
theorem dX8_branch_84 : decode cX8_branch 84 = .ok (.ireturn, 1) := by decide +kernel
theorem dX8_branch_85 : decode cX8_branch 85 = .ok (.aload_n 0, 1) := by decide +kernel
theorem dX8_branch_86 : decode cX8_branch 86 = .ok (.getfield 23, 3) := by decide +kernel
theorem dX8_branch_89 : decode cX8_branch 89 = .ok (.new 11, 3) := by decide +kernel
theorem dX8_branch_92 : decode cX8_branch 92 = .ok (.dup, 1) := by decide +kernel
theorem dX8_branch_93 : decode cX8_branch 93 = .ok (.aload_n 0, 1) := by decide +kernel
theorem dX8_branch_94 : decode cX8_branch 94 = .ok (.getfield 44, 3) := by decide +kernel
theorem dX8_branch_97 : decode cX8_branch 97 = .ok (.invokespecial 256, 3) := by decide +kernel
theorem dX8_branch_100 : decode cX8_branch 100 = .ok (.iload_n 1, 1) := by decide +kernel
theorem dX8_branch_101 : decode cX8_branch 101 = .ok (.iload_n 2, 1) := by decide +kernel
theorem dX8_branch_102 : decode cX8_branch 102 = .ok (.invokevirtual 243, 3) := by decide +kernel
theorem dX8_branch_105 : decode cX8_branch 105 = .ok (.ireturn, 1) := by decide +kernel
abbrev MX8_ofNode : ZM := (yX8_ofNode, cX8_ofNode, 4, (Option.some FieldType.int), 6, 149)
theorem dX8_ofNode_0 : decode cX8_ofNode 0 = .ok (.aload_n 0, 1) := by decide +kernel
theorem dX8_ofNode_1 : decode cX8_ofNode 1 = .ok (.getfield 23, 3) := by decide +kernel
theorem dX8_ofNode_4 : decode cX8_ofNode 4 = .ok (.iload_n 1, 1) := by decide +kernel
theorem dX8_ofNode_5 : decode cX8_ofNode 5 = .ok (.invokevirtual 247, 3) := by decide +kernel
theorem dX8_ofNode_8 : decode cX8_ofNode 8 = .ok (.ifCond .ne 5, 3) := by decide +kernel
theorem dX8_ofNode_11 : decode cX8_ofNode 11 = .ok (.iconst (-1), 1) := by decide +kernel
theorem dX8_ofNode_12 : decode cX8_ofNode 12 = .ok (.ireturn, 1) := by decide +kernel
theorem dX8_ofNode_13 : decode cX8_ofNode 13 = .ok (.aload_n 0, 1) := by decide +kernel
theorem dX8_ofNode_14 : decode cX8_ofNode 14 = .ok (.getfield 23, 3) := by decide +kernel
theorem dX8_ofNode_17 : decode cX8_ofNode 17 = .ok (.getfield 250, 3) := by decide +kernel
theorem dX8_ofNode_20 : decode cX8_ofNode 20 = .ok (.iload_n 1, 1) := by decide +kernel
theorem dX8_ofNode_21 : decode cX8_ofNode 21 = .ok (.aaload, 1) := by decide +kernel
theorem dX8_ofNode_22 : decode cX8_ofNode 22 = .ok (.astore_n 3, 1) := by decide +kernel
theorem dX8_ofNode_23 : decode cX8_ofNode 23 = .ok (.iload_n 2, 1) := by decide +kernel
theorem dX8_ofNode_24 : decode cX8_ofNode 24 = .ok (.tableswitch 124 0 8 #[52, 62, 67, 76, 85, 94, 103, 109, 119], 52) := by decide +kernel
theorem dX8_ofNode_76 : decode cX8_ofNode 76 = .ok (.aload_n 0, 1) := by decide +kernel
theorem dX8_ofNode_77 : decode cX8_ofNode 77 = .ok (.getfield 23, 3) := by decide +kernel
theorem dX8_ofNode_80 : decode cX8_ofNode 80 = .ok (.getfield 259, 3) := by decide +kernel
theorem dX8_ofNode_83 : decode cX8_ofNode 83 = .ok (.iload_n 1, 1) := by decide +kernel
theorem dX8_ofNode_84 : decode cX8_ofNode 84 = .ok (.iaload, 1) := by decide +kernel
theorem dX8_ofNode_85 : decode cX8_ofNode 85 = .ok (.ireturn, 1) := by decide +kernel
theorem dX8_ofNode_86 : decode cX8_ofNode 86 = .ok (.aload_n 3, 1) := by decide +kernel
theorem dX8_ofNode_87 : decode cX8_ofNode 87 = .ok (.getfield 114, 3) := by decide +kernel
theorem dX8_ofNode_90 : decode cX8_ofNode 90 = .ok (.ireturn, 1) := by decide +kernel
theorem dX8_ofNode_91 : decode cX8_ofNode 91 = .ok (.aload_n 0, 1) := by decide +kernel
theorem dX8_ofNode_92 : decode cX8_ofNode 92 = .ok (.aload_n 3, 1) := by decide +kernel
theorem dX8_ofNode_93 : decode cX8_ofNode 93 = .ok (.invokevirtual 177, 3) := by decide +kernel
theorem dX8_ofNode_96 : decode cX8_ofNode 96 = .ok (.invokevirtual 189, 3) := by decide +kernel
theorem dX8_ofNode_99 : decode cX8_ofNode 99 = .ok (.ireturn, 1) := by decide +kernel
theorem dX8_ofNode_100 : decode cX8_ofNode 100 = .ok (.aload_n 0, 1) := by decide +kernel
theorem dX8_ofNode_101 : decode cX8_ofNode 101 = .ok (.getfield 23, 3) := by decide +kernel
theorem dX8_ofNode_104 : decode cX8_ofNode 104 = .ok (.iload_n 1, 1) := by decide +kernel
theorem dX8_ofNode_105 : decode cX8_ofNode 105 = .ok (.invokevirtual 262, 3) := by decide +kernel
theorem dX8_ofNode_108 : decode cX8_ofNode 108 = .ok (.ireturn, 1) := by decide +kernel
theorem dX8_ofNode_109 : decode cX8_ofNode 109 = .ok (.aload_n 0, 1) := by decide +kernel
theorem dX8_ofNode_110 : decode cX8_ofNode 110 = .ok (.getfield 23, 3) := by decide +kernel
theorem dX8_ofNode_113 : decode cX8_ofNode 113 = .ok (.iload_n 1, 1) := by decide +kernel
theorem dX8_ofNode_114 : decode cX8_ofNode 114 = .ok (.invokevirtual 265, 3) := by decide +kernel
theorem dX8_ofNode_117 : decode cX8_ofNode 117 = .ok (.ireturn, 1) := by decide +kernel
theorem dX8_ofNode_118 : decode cX8_ofNode 118 = .ok (.aload_n 0, 1) := by decide +kernel
theorem dX8_ofNode_119 : decode cX8_ofNode 119 = .ok (.getfield 23, 3) := by decide +kernel
theorem dX8_ofNode_122 : decode cX8_ofNode 122 = .ok (.iload_n 1, 1) := by decide +kernel
theorem dX8_ofNode_123 : decode cX8_ofNode 123 = .ok (.invokevirtual 268, 3) := by decide +kernel
theorem dX8_ofNode_126 : decode cX8_ofNode 126 = .ok (.ireturn, 1) := by decide +kernel
theorem dX8_ofNode_127 : decode cX8_ofNode 127 = .ok (.aload_n 0, 1) := by decide +kernel
theorem dX8_ofNode_128 : decode cX8_ofNode 128 = .ok (.iload_n 1, 1) := by decide +kernel
theorem dX8_ofNode_129 : decode cX8_ofNode 129 = .ok (.invokevirtual 271, 3) := by decide +kernel
theorem dX8_ofNode_132 : decode cX8_ofNode 132 = .ok (.ireturn, 1) := by decide +kernel
theorem dX8_ofNode_133 : decode cX8_ofNode 133 = .ok (.aload_n 0, 1) := by decide +kernel
theorem dX8_ofNode_134 : decode cX8_ofNode 134 = .ok (.getfield 23, 3) := by decide +kernel
theorem dX8_ofNode_137 : decode cX8_ofNode 137 = .ok (.getfield 274, 3) := by decide +kernel
theorem dX8_ofNode_140 : decode cX8_ofNode 140 = .ok (.iload_n 1, 1) := by decide +kernel
theorem dX8_ofNode_141 : decode cX8_ofNode 141 = .ok (.iaload, 1) := by decide +kernel
theorem dX8_ofNode_142 : decode cX8_ofNode 142 = .ok (.ireturn, 1) := by decide +kernel
theorem dX8_ofNode_143 : decode cX8_ofNode 143 = .ok (.aload_n 3, 1) := by decide +kernel
theorem dX8_ofNode_144 : decode cX8_ofNode 144 = .ok (.getfield 137, 3) := by decide +kernel
theorem dX8_ofNode_147 : decode cX8_ofNode 147 = .ok (.ireturn, 1) := by decide +kernel
theorem dX8_ofNode_148 : decode cX8_ofNode 148 = .ok (.iconst (-1), 1) := by decide +kernel
theorem dX8_ofNode_149 : decode cX8_ofNode 149 = .ok (.ireturn, 1) := by decide +kernel
abbrev MX8_nodeTo : ZM := (yX8_nodeTo, cX8_nodeTo, 3, (Option.some FieldType.int), 1, 21)
theorem dX8_nodeTo_0 : decode cX8_nodeTo 0 = .ok (.aload_n 0, 1) := by decide +kernel
theorem dX8_nodeTo_1 : decode cX8_nodeTo 1 = .ok (.getfield 23, 3) := by decide +kernel
theorem dX8_nodeTo_4 : decode cX8_nodeTo 4 = .ok (.iload_n 1, 1) := by decide +kernel
theorem dX8_nodeTo_5 : decode cX8_nodeTo 5 = .ok (.invokevirtual 247, 3) := by decide +kernel
theorem dX8_nodeTo_8 : decode cX8_nodeTo 8 = .ok (.ifCond .eq 10, 3) := by decide +kernel
theorem dX8_nodeTo_11 : decode cX8_nodeTo 11 = .ok (.iload_n 2, 1) := by decide +kernel
theorem dX8_nodeTo_12 : decode cX8_nodeTo 12 = .ok (.invokestatic 69, 3) := by decide +kernel
theorem dX8_nodeTo_15 : decode cX8_nodeTo 15 = .ok (.ifCond .ne 5, 3) := by decide +kernel
theorem dX8_nodeTo_18 : decode cX8_nodeTo 18 = .ok (.iconst (-1), 1) := by decide +kernel
theorem dX8_nodeTo_19 : decode cX8_nodeTo 19 = .ok (.ireturn, 1) := by decide +kernel
theorem dX8_nodeTo_20 : decode cX8_nodeTo 20 = .ok (.aload_n 0, 1) := by decide +kernel
theorem dX8_nodeTo_21 : decode cX8_nodeTo 21 = .ok (.getfield 13, 3) := by decide +kernel
theorem dX8_nodeTo_24 : decode cX8_nodeTo 24 = .ok (.iload_n 2, 1) := by decide +kernel
theorem dX8_nodeTo_25 : decode cX8_nodeTo 25 = .ok (.aload_n 0, 1) := by decide +kernel
theorem dX8_nodeTo_26 : decode cX8_nodeTo 26 = .ok (.getfield 23, 3) := by decide +kernel
theorem dX8_nodeTo_29 : decode cX8_nodeTo 29 = .ok (.getfield 250, 3) := by decide +kernel
theorem dX8_nodeTo_32 : decode cX8_nodeTo 32 = .ok (.iload_n 1, 1) := by decide +kernel
theorem dX8_nodeTo_33 : decode cX8_nodeTo 33 = .ok (.aaload, 1) := by decide +kernel
theorem dX8_nodeTo_34 : decode cX8_nodeTo 34 = .ok (.aastore, 1) := by decide +kernel
theorem dX8_nodeTo_35 : decode cX8_nodeTo 35 = .ok (.aload_n 0, 1) := by decide +kernel
theorem dX8_nodeTo_36 : decode cX8_nodeTo 36 = .ok (.getfield 23, 3) := by decide +kernel
theorem dX8_nodeTo_39 : decode cX8_nodeTo 39 = .ok (.getfield 250, 3) := by decide +kernel
theorem dX8_nodeTo_42 : decode cX8_nodeTo 42 = .ok (.iload_n 1, 1) := by decide +kernel
theorem dX8_nodeTo_43 : decode cX8_nodeTo 43 = .ok (.aaload, 1) := by decide +kernel
theorem dX8_nodeTo_44 : decode cX8_nodeTo 44 = .ok (.getfield 137, 3) := by decide +kernel
theorem dX8_nodeTo_47 : decode cX8_nodeTo 47 = .ok (.ireturn, 1) := by decide +kernel
abbrev MX8_walk : ZM := (yX8_walk, cX8_walk, 4, (Option.some FieldType.int), 2, 47)
theorem dX8_walk_0 : decode cX8_walk 0 = .ok (.iload_n 1, 1) := by decide +kernel
theorem dX8_walk_1 : decode cX8_walk 1 = .ok (.ifCond .lt 14, 3) := by decide +kernel
theorem dX8_walk_4 : decode cX8_walk 4 = .ok (.iload_n 1, 1) := by decide +kernel
theorem dX8_walk_5 : decode cX8_walk 5 = .ok (.aload_n 0, 1) := by decide +kernel
theorem dX8_walk_6 : decode cX8_walk 6 = .ok (.getfield 23, 3) := by decide +kernel
theorem dX8_walk_9 : decode cX8_walk 9 = .ok (.getfield 239, 3) := by decide +kernel
theorem dX8_walk_12 : decode cX8_walk 12 = .ok (.if_icmp .lt 6, 3) := by decide +kernel
theorem dX8_walk_15 : decode cX8_walk 15 = .ok (.bipush (-2), 2) := by decide +kernel
theorem dX8_walk_17 : decode cX8_walk 17 = .ok (.ireturn, 1) := by decide +kernel
theorem dX8_walk_18 : decode cX8_walk 18 = .ok (.iconst 0, 1) := by decide +kernel
theorem dX8_walk_19 : decode cX8_walk 19 = .ok (.istore_n 2, 1) := by decide +kernel
theorem dX8_walk_20 : decode cX8_walk 20 = .ok (.iconst 0, 1) := by decide +kernel
theorem dX8_walk_21 : decode cX8_walk 21 = .ok (.istore_n 3, 1) := by decide +kernel
theorem dX8_walk_22 : decode cX8_walk 22 = .ok (.iload_n 3, 1) := by decide +kernel
theorem dX8_walk_23 : decode cX8_walk 23 = .ok (.iload_n 1, 1) := by decide +kernel
theorem dX8_walk_24 : decode cX8_walk 24 = .ok (.if_icmp .ge 18, 3) := by decide +kernel
theorem dX8_walk_27 : decode cX8_walk 27 = .ok (.aload_n 0, 1) := by decide +kernel
theorem dX8_walk_28 : decode cX8_walk 28 = .ok (.getfield 23, 3) := by decide +kernel
theorem dX8_walk_31 : decode cX8_walk 31 = .ok (.iload_n 2, 1) := by decide +kernel
theorem dX8_walk_32 : decode cX8_walk 32 = .ok (.invokevirtual 277, 3) := by decide +kernel
theorem dX8_walk_35 : decode cX8_walk 35 = .ok (.istore_n 2, 1) := by decide +kernel
theorem dX8_walk_36 : decode cX8_walk 36 = .ok (.iinc 3 1, 3) := by decide +kernel
theorem dX8_walk_39 : decode cX8_walk 39 = .ok (.goto (-17), 3) := by decide +kernel
theorem dX8_walk_42 : decode cX8_walk 42 = .ok (.iload_n 2, 1) := by decide +kernel
theorem dX8_walk_43 : decode cX8_walk 43 = .ok (.ireturn, 1) := by decide +kernel
abbrev MX8_cut : ZM := (yX8_cut, cX8_cut, 2, (Option.some FieldType.int), 2, 47)
theorem dX8_cut_0 : decode cX8_cut 0 = .ok (.aload_n 0, 1) := by decide +kernel
theorem dX8_cut_1 : decode cX8_cut 1 = .ok (.getfield 23, 3) := by decide +kernel
theorem dX8_cut_4 : decode cX8_cut 4 = .ok (.iload_n 1, 1) := by decide +kernel
theorem dX8_cut_5 : decode cX8_cut 5 = .ok (.invokevirtual 247, 3) := by decide +kernel
theorem dX8_cut_8 : decode cX8_cut 8 = .ok (.ifCond .ne 5, 3) := by decide +kernel
theorem dX8_cut_11 : decode cX8_cut 11 = .ok (.iconst (-1), 1) := by decide +kernel
theorem dX8_cut_12 : decode cX8_cut 12 = .ok (.ireturn, 1) := by decide +kernel
theorem dX8_cut_13 : decode cX8_cut 13 = .ok (.aload_n 0, 1) := by decide +kernel
theorem dX8_cut_14 : decode cX8_cut 14 = .ok (.getfield 23, 3) := by decide +kernel
theorem dX8_cut_17 : decode cX8_cut 17 = .ok (.iload_n 1, 1) := by decide +kernel
theorem dX8_cut_18 : decode cX8_cut 18 = .ok (.invokevirtual 280, 3) := by decide +kernel
theorem dX8_cut_21 : decode cX8_cut 21 = .ok (.aload_n 0, 1) := by decide +kernel
theorem dX8_cut_22 : decode cX8_cut 22 = .ok (.getfield 23, 3) := by decide +kernel
theorem dX8_cut_25 : decode cX8_cut 25 = .ok (.getfield 239, 3) := by decide +kernel
theorem dX8_cut_28 : decode cX8_cut 28 = .ok (.ireturn, 1) := by decide +kernel
abbrev MX8_sheet : ZM := (yX8_sheet, cX8_sheet, 4, (Option.some FieldType.int), 2, 45)
theorem dX8_sheet_0 : decode cX8_sheet 0 = .ok (.iload_n 1, 1) := by decide +kernel
theorem dX8_sheet_1 : decode cX8_sheet 1 = .ok (.invokestatic 88, 3) := by decide +kernel
theorem dX8_sheet_4 : decode cX8_sheet 4 = .ok (.ifCond .eq 13, 3) := by decide +kernel
theorem dX8_sheet_7 : decode cX8_sheet 7 = .ok (.iload_n 2, 1) := by decide +kernel
theorem dX8_sheet_8 : decode cX8_sheet 8 = .ok (.iconst (-1), 1) := by decide +kernel
theorem dX8_sheet_9 : decode cX8_sheet 9 = .ok (.if_icmp .lt 8, 3) := by decide +kernel
theorem dX8_sheet_12 : decode cX8_sheet 12 = .ok (.iload_n 2, 1) := by decide +kernel
theorem dX8_sheet_13 : decode cX8_sheet 13 = .ok (.iconst 1, 1) := by decide +kernel
theorem dX8_sheet_14 : decode cX8_sheet 14 = .ok (.if_icmp .le 5, 3) := by decide +kernel
theorem dX8_sheet_17 : decode cX8_sheet 17 = .ok (.iconst (-1), 1) := by decide +kernel
theorem dX8_sheet_18 : decode cX8_sheet 18 = .ok (.ireturn, 1) := by decide +kernel
theorem dX8_sheet_19 : decode cX8_sheet 19 = .ok (.iload_n 2, 1) := by decide +kernel
theorem dX8_sheet_20 : decode cX8_sheet 20 = .ok (.iconst (-1), 1) := by decide +kernel
theorem dX8_sheet_21 : decode cX8_sheet 21 = .ok (.if_icmp .ne 16, 3) := by decide +kernel
theorem dX8_sheet_24 : decode cX8_sheet 24 = .ok (.aload_n 0, 1) := by decide +kernel
theorem dX8_sheet_25 : decode cX8_sheet 25 = .ok (.getfield 36, 3) := by decide +kernel
theorem dX8_sheet_28 : decode cX8_sheet 28 = .ok (.iload_n 1, 1) := by decide +kernel
theorem dX8_sheet_29 : decode cX8_sheet 29 = .ok (.aaload, 1) := by decide +kernel
theorem dX8_sheet_30 : decode cX8_sheet 30 = .ok (.iconst (-1), 1) := by decide +kernel
theorem dX8_sheet_31 : decode cX8_sheet 31 = .ok (.iconst 0, 1) := by decide +kernel
theorem dX8_sheet_32 : decode cX8_sheet 32 = .ok (.invokevirtual 283, 3) := by decide +kernel
theorem dX8_sheet_35 : decode cX8_sheet 35 = .ok (.iconst 1, 1) := by decide +kernel
theorem dX8_sheet_36 : decode cX8_sheet 36 = .ok (.ireturn, 1) := by decide +kernel
theorem dX8_sheet_37 : decode cX8_sheet 37 = .ok (.iload_n 3, 1) := by decide +kernel
theorem dX8_sheet_38 : decode cX8_sheet 38 = .ok (.bipush 40, 2) := by decide +kernel
theorem dX8_sheet_40 : decode cX8_sheet 40 = .ok (.if_icmp .le 5, 3) := by decide +kernel
theorem dX8_sheet_43 : decode cX8_sheet 43 = .ok (.iconst (-1), 1) := by decide +kernel
theorem dX8_sheet_44 : decode cX8_sheet 44 = .ok (.ireturn, 1) := by decide +kernel
theorem dX8_sheet_45 : decode cX8_sheet 45 = .ok (.iload_n 3, 1) := by decide +kernel
theorem dX8_sheet_46 : decode cX8_sheet 46 = .ok (.ifCond .ge 6, 3) := by decide +kernel
theorem dX8_sheet_49 : decode cX8_sheet 49 = .ok (.bipush (-14), 2) := by decide +kernel
theorem dX8_sheet_51 : decode cX8_sheet 51 = .ok (.ireturn, 1) := by decide +kernel
theorem dX8_sheet_52 : decode cX8_sheet 52 = .ok (.aload_n 0, 1) := by decide +kernel
theorem dX8_sheet_53 : decode cX8_sheet 53 = .ok (.getfield 36, 3) := by decide +kernel
theorem dX8_sheet_56 : decode cX8_sheet 56 = .ok (.iload_n 1, 1) := by decide +kernel
theorem dX8_sheet_57 : decode cX8_sheet 57 = .ok (.aaload, 1) := by decide +kernel
theorem dX8_sheet_58 : decode cX8_sheet 58 = .ok (.iload_n 2, 1) := by decide +kernel
theorem dX8_sheet_59 : decode cX8_sheet 59 = .ok (.iload_n 3, 1) := by decide +kernel
theorem dX8_sheet_60 : decode cX8_sheet 60 = .ok (.invokevirtual 283, 3) := by decide +kernel
theorem dX8_sheet_63 : decode cX8_sheet 63 = .ok (.iconst 1, 1) := by decide +kernel
theorem dX8_sheet_64 : decode cX8_sheet 64 = .ok (.ireturn, 1) := by decide +kernel
abbrev MX8_cell : ZM := (yX8_cell, cX8_cell, 5, (Option.some FieldType.int), 1, 22)
theorem dX8_cell_0 : decode cX8_cell 0 = .ok (.iload_n 1, 1) := by decide +kernel
theorem dX8_cell_1 : decode cX8_cell 1 = .ok (.invokestatic 88, 3) := by decide +kernel
theorem dX8_cell_4 : decode cX8_cell 4 = .ok (.ifCond .ne 5, 3) := by decide +kernel
theorem dX8_cell_7 : decode cX8_cell 7 = .ok (.iconst (-1), 1) := by decide +kernel
theorem dX8_cell_8 : decode cX8_cell 8 = .ok (.ireturn, 1) := by decide +kernel
theorem dX8_cell_9 : decode cX8_cell 9 = .ok (.aload_n 0, 1) := by decide +kernel
theorem dX8_cell_10 : decode cX8_cell 10 = .ok (.getfield 36, 3) := by decide +kernel
theorem dX8_cell_13 : decode cX8_cell 13 = .ok (.iload_n 1, 1) := by decide +kernel
theorem dX8_cell_14 : decode cX8_cell 14 = .ok (.aaload, 1) := by decide +kernel
theorem dX8_cell_15 : decode cX8_cell 15 = .ok (.astore 4, 2) := by decide +kernel
theorem dX8_cell_17 : decode cX8_cell 17 = .ok (.aload 4, 2) := by decide +kernel
theorem dX8_cell_19 : decode cX8_cell 19 = .ok (.invokevirtual 91, 3) := by decide +kernel
theorem dX8_cell_22 : decode cX8_cell 22 = .ok (.ifCond .eq 6, 3) := by decide +kernel
theorem dX8_cell_25 : decode cX8_cell 25 = .ok (.bipush (-11), 2) := by decide +kernel
theorem dX8_cell_27 : decode cX8_cell 27 = .ok (.ireturn, 1) := by decide +kernel
theorem dX8_cell_28 : decode cX8_cell 28 = .ok (.aload 4, 2) := by decide +kernel
theorem dX8_cell_30 : decode cX8_cell 30 = .ok (.iload_n 2, 1) := by decide +kernel
theorem dX8_cell_31 : decode cX8_cell 31 = .ok (.iconst 1, 1) := by decide +kernel
theorem dX8_cell_32 : decode cX8_cell 32 = .ok (.invokevirtual 99, 3) := by decide +kernel
theorem dX8_cell_35 : decode cX8_cell 35 = .ok (.ifCond .ne 6, 3) := by decide +kernel
theorem dX8_cell_38 : decode cX8_cell 38 = .ok (.bipush (-12), 2) := by decide +kernel
theorem dX8_cell_40 : decode cX8_cell 40 = .ok (.ireturn, 1) := by decide +kernel
theorem dX8_cell_41 : decode cX8_cell 41 = .ok (.aload 4, 2) := by decide +kernel
theorem dX8_cell_43 : decode cX8_cell 43 = .ok (.iload_n 2, 1) := by decide +kernel
theorem dX8_cell_44 : decode cX8_cell 44 = .ok (.iload_n 3, 1) := by decide +kernel
theorem dX8_cell_45 : decode cX8_cell 45 = .ok (.invokevirtual 120, 3) := by decide +kernel
theorem dX8_cell_48 : decode cX8_cell 48 = .ok (.iconst 1, 1) := by decide +kernel
theorem dX8_cell_49 : decode cX8_cell 49 = .ok (.ireturn, 1) := by decide +kernel
abbrev MX8_item : ZM := (yX8_item, cX8_item, 3, (Option.some FieldType.long), 1, 22)
theorem dX8_item_0 : decode cX8_item 0 = .ok (.iload_n 1, 1) := by decide +kernel
theorem dX8_item_1 : decode cX8_item 1 = .ok (.invokestatic 88, 3) := by decide +kernel
theorem dX8_item_4 : decode cX8_item 4 = .ok (.ifCond .eq 29, 3) := by decide +kernel
theorem dX8_item_7 : decode cX8_item 7 = .ok (.aload_n 0, 1) := by decide +kernel
theorem dX8_item_8 : decode cX8_item 8 = .ok (.getfield 36, 3) := by decide +kernel
theorem dX8_item_11 : decode cX8_item 11 = .ok (.iload_n 1, 1) := by decide +kernel
theorem dX8_item_12 : decode cX8_item 12 = .ok (.aaload, 1) := by decide +kernel
theorem dX8_item_13 : decode cX8_item 13 = .ok (.invokevirtual 91, 3) := by decide +kernel
theorem dX8_item_16 : decode cX8_item 16 = .ok (.ifCond .ne 17, 3) := by decide +kernel
theorem dX8_item_19 : decode cX8_item 19 = .ok (.aload_n 0, 1) := by decide +kernel
theorem dX8_item_20 : decode cX8_item 20 = .ok (.getfield 36, 3) := by decide +kernel
theorem dX8_item_23 : decode cX8_item 23 = .ok (.iload_n 1, 1) := by decide +kernel
theorem dX8_item_24 : decode cX8_item 24 = .ok (.aaload, 1) := by decide +kernel
theorem dX8_item_25 : decode cX8_item 25 = .ok (.iload_n 2, 1) := by decide +kernel
theorem dX8_item_26 : decode cX8_item 26 = .ok (.iconst 1, 1) := by decide +kernel
theorem dX8_item_27 : decode cX8_item 27 = .ok (.invokevirtual 99, 3) := by decide +kernel
theorem dX8_item_30 : decode cX8_item 30 = .ok (.ifCond .ne 7, 3) := by decide +kernel
theorem dX8_item_33 : decode cX8_item 33 = .ok (.ldc2_w 286, 3) := by decide +kernel
theorem dX8_item_36 : decode cX8_item 36 = .ok (.lreturn, 1) := by decide +kernel
theorem dX8_item_37 : decode cX8_item 37 = .ok (.aload_n 0, 1) := by decide +kernel
theorem dX8_item_38 : decode cX8_item 38 = .ok (.getfield 36, 3) := by decide +kernel
theorem dX8_item_41 : decode cX8_item 41 = .ok (.iload_n 1, 1) := by decide +kernel
theorem dX8_item_42 : decode cX8_item 42 = .ok (.aaload, 1) := by decide +kernel
theorem dX8_item_43 : decode cX8_item 43 = .ok (.getfield 103, 3) := by decide +kernel
theorem dX8_item_46 : decode cX8_item 46 = .ok (.iload_n 2, 1) := by decide +kernel
theorem dX8_item_47 : decode cX8_item 47 = .ok (.iaload, 1) := by decide +kernel
theorem dX8_item_48 : decode cX8_item 48 = .ok (.i2l, 1) := by decide +kernel
theorem dX8_item_49 : decode cX8_item 49 = .ok (.lreturn, 1) := by decide +kernel
abbrev MX8_move : ZM := (yX8_move, cX8_move, 8, (Option.some FieldType.int), 1, 40)
theorem dX8_move_0 : decode cX8_move 0 = .ok (.iload_n 1, 1) := by decide +kernel
theorem dX8_move_1 : decode cX8_move 1 = .ok (.invokestatic 88, 3) := by decide +kernel
theorem dX8_move_4 : decode cX8_move 4 = .ok (.ifCond .eq 10, 3) := by decide +kernel
theorem dX8_move_7 : decode cX8_move 7 = .ok (.iload_n 3, 1) := by decide +kernel
theorem dX8_move_8 : decode cX8_move 8 = .ok (.invokestatic 88, 3) := by decide +kernel
theorem dX8_move_11 : decode cX8_move 11 = .ok (.ifCond .ne 5, 3) := by decide +kernel
theorem dX8_move_14 : decode cX8_move 14 = .ok (.iconst (-1), 1) := by decide +kernel
theorem dX8_move_15 : decode cX8_move 15 = .ok (.ireturn, 1) := by decide +kernel
theorem dX8_move_16 : decode cX8_move 16 = .ok (.aload_n 0, 1) := by decide +kernel
theorem dX8_move_17 : decode cX8_move 17 = .ok (.getfield 36, 3) := by decide +kernel
theorem dX8_move_20 : decode cX8_move 20 = .ok (.iload_n 1, 1) := by decide +kernel
theorem dX8_move_21 : decode cX8_move 21 = .ok (.aaload, 1) := by decide +kernel
theorem dX8_move_22 : decode cX8_move 22 = .ok (.astore 6, 2) := by decide +kernel
theorem dX8_move_24 : decode cX8_move 24 = .ok (.aload_n 0, 1) := by decide +kernel
theorem dX8_move_25 : decode cX8_move 25 = .ok (.getfield 36, 3) := by decide +kernel
theorem dX8_move_28 : decode cX8_move 28 = .ok (.iload_n 3, 1) := by decide +kernel
theorem dX8_move_29 : decode cX8_move 29 = .ok (.aaload, 1) := by decide +kernel
theorem dX8_move_30 : decode cX8_move 30 = .ok (.astore 7, 2) := by decide +kernel
theorem dX8_move_32 : decode cX8_move 32 = .ok (.aload 6, 2) := by decide +kernel
theorem dX8_move_34 : decode cX8_move 34 = .ok (.invokevirtual 91, 3) := by decide +kernel
theorem dX8_move_37 : decode cX8_move 37 = .ok (.ifCond .ne 11, 3) := by decide +kernel
theorem dX8_move_40 : decode cX8_move 40 = .ok (.aload 7, 2) := by decide +kernel
theorem dX8_move_42 : decode cX8_move 42 = .ok (.invokevirtual 91, 3) := by decide +kernel
theorem dX8_move_45 : decode cX8_move 45 = .ok (.ifCond .eq 6, 3) := by decide +kernel
theorem dX8_move_48 : decode cX8_move 48 = .ok (.bipush (-11), 2) := by decide +kernel
theorem dX8_move_50 : decode cX8_move 50 = .ok (.ireturn, 1) := by decide +kernel
theorem dX8_move_51 : decode cX8_move 51 = .ok (.aload 6, 2) := by decide +kernel
theorem dX8_move_53 : decode cX8_move 53 = .ok (.getfield 288, 3) := by decide +kernel
theorem dX8_move_56 : decode cX8_move 56 = .ok (.aload 7, 2) := by decide +kernel
theorem dX8_move_58 : decode cX8_move 58 = .ok (.getfield 288, 3) := by decide +kernel
theorem dX8_move_61 : decode cX8_move 61 = .ok (.if_icmp .eq 6, 3) := by decide +kernel
theorem dX8_move_64 : decode cX8_move 64 = .ok (.bipush (-13), 2) := by decide +kernel
theorem dX8_move_66 : decode cX8_move 66 = .ok (.ireturn, 1) := by decide +kernel
theorem dX8_move_67 : decode cX8_move 67 = .ok (.aload 6, 2) := by decide +kernel
theorem dX8_move_69 : decode cX8_move 69 = .ok (.iload_n 2, 1) := by decide +kernel
theorem dX8_move_70 : decode cX8_move 70 = .ok (.iload 5, 2) := by decide +kernel
theorem dX8_move_72 : decode cX8_move 72 = .ok (.invokevirtual 99, 3) := by decide +kernel
theorem dX8_move_75 : decode cX8_move 75 = .ok (.ifCond .eq 15, 3) := by decide +kernel
theorem dX8_move_78 : decode cX8_move 78 = .ok (.aload 7, 2) := by decide +kernel
theorem dX8_move_80 : decode cX8_move 80 = .ok (.iload 4, 2) := by decide +kernel
theorem dX8_move_82 : decode cX8_move 82 = .ok (.iload 5, 2) := by decide +kernel
theorem dX8_move_84 : decode cX8_move 84 = .ok (.invokevirtual 99, 3) := by decide +kernel
theorem dX8_move_87 : decode cX8_move 87 = .ok (.ifCond .ne 6, 3) := by decide +kernel
theorem dX8_move_90 : decode cX8_move 90 = .ok (.bipush (-12), 2) := by decide +kernel
theorem dX8_move_92 : decode cX8_move 92 = .ok (.ireturn, 1) := by decide +kernel
theorem dX8_move_93 : decode cX8_move 93 = .ok (.aload 6, 2) := by decide +kernel
theorem dX8_move_95 : decode cX8_move 95 = .ok (.getfield 103, 3) := by decide +kernel
theorem dX8_move_98 : decode cX8_move 98 = .ok (.iload_n 2, 1) := by decide +kernel
theorem dX8_move_99 : decode cX8_move 99 = .ok (.aload 7, 2) := by decide +kernel
theorem dX8_move_101 : decode cX8_move 101 = .ok (.getfield 103, 3) := by decide +kernel
theorem dX8_move_104 : decode cX8_move 104 = .ok (.iload 4, 2) := by decide +kernel
theorem dX8_move_106 : decode cX8_move 106 = .ok (.iload 5, 2) := by decide +kernel
theorem dX8_move_108 : decode cX8_move 108 = .ok (.invokestatic 291, 3) := by decide +kernel
theorem dX8_move_111 : decode cX8_move 111 = .ok (.iload 5, 2) := by decide +kernel
theorem dX8_move_113 : decode cX8_move 113 = .ok (.ireturn, 1) := by decide +kernel
abbrev MX8_keep : ZM := (yX8_keep, cX8_keep, 2, (Option.some FieldType.int), 1, 22)
theorem dX8_keep_0 : decode cX8_keep 0 = .ok (.iconst 0, 1) := by decide +kernel
theorem dX8_keep_1 : decode cX8_keep 1 = .ok (.istore_n 1, 1) := by decide +kernel
theorem dX8_keep_2 : decode cX8_keep 2 = .ok (.iload_n 1, 1) := by decide +kernel
theorem dX8_keep_3 : decode cX8_keep 3 = .ok (.bipush 6, 2) := by decide +kernel
theorem dX8_keep_5 : decode cX8_keep 5 = .ok (.if_icmp .ge 21, 3) := by decide +kernel
theorem dX8_keep_8 : decode cX8_keep 8 = .ok (.aload_n 0, 1) := by decide +kernel
theorem dX8_keep_9 : decode cX8_keep 9 = .ok (.getfield 17, 3) := by decide +kernel
theorem dX8_keep_12 : decode cX8_keep 12 = .ok (.iload_n 1, 1) := by decide +kernel
theorem dX8_keep_13 : decode cX8_keep 13 = .ok (.aload_n 0, 1) := by decide +kernel
theorem dX8_keep_14 : decode cX8_keep 14 = .ok (.getfield 13, 3) := by decide +kernel
theorem dX8_keep_17 : decode cX8_keep 17 = .ok (.iload_n 1, 1) := by decide +kernel
theorem dX8_keep_18 : decode cX8_keep 18 = .ok (.aaload, 1) := by decide +kernel
theorem dX8_keep_19 : decode cX8_keep 19 = .ok (.aastore, 1) := by decide +kernel
theorem dX8_keep_20 : decode cX8_keep 20 = .ok (.iinc 1 1, 3) := by decide +kernel
theorem dX8_keep_23 : decode cX8_keep 23 = .ok (.goto (-21), 3) := by decide +kernel
theorem dX8_keep_26 : decode cX8_keep 26 = .ok (.aload_n 0, 1) := by decide +kernel
theorem dX8_keep_27 : decode cX8_keep 27 = .ok (.getfield 27, 3) := by decide +kernel
theorem dX8_keep_30 : decode cX8_keep 30 = .ok (.aload_n 0, 1) := by decide +kernel
theorem dX8_keep_31 : decode cX8_keep 31 = .ok (.getfield 23, 3) := by decide +kernel
theorem dX8_keep_34 : decode cX8_keep 34 = .ok (.invokevirtual 297, 3) := by decide +kernel
theorem dX8_keep_37 : decode cX8_keep 37 = .ok (.aload_n 0, 1) := by decide +kernel
theorem dX8_keep_38 : decode cX8_keep 38 = .ok (.iconst 1, 1) := by decide +kernel
theorem dX8_keep_39 : decode cX8_keep 39 = .ok (.putfield 30, 3) := by decide +kernel
theorem dX8_keep_42 : decode cX8_keep 42 = .ok (.aload_n 0, 1) := by decide +kernel
theorem dX8_keep_43 : decode cX8_keep 43 = .ok (.invokevirtual 300, 3) := by decide +kernel
theorem dX8_keep_46 : decode cX8_keep 46 = .ok (.ireturn, 1) := by decide +kernel
abbrev MX8_back : ZM := (yX8_back, cX8_back, 2, (Option.some FieldType.int), 1, 22)
theorem dX8_back_0 : decode cX8_back 0 = .ok (.aload_n 0, 1) := by decide +kernel
theorem dX8_back_1 : decode cX8_back 1 = .ok (.getfield 30, 3) := by decide +kernel
theorem dX8_back_4 : decode cX8_back 4 = .ok (.ifCond .ne 6, 3) := by decide +kernel
theorem dX8_back_7 : decode cX8_back 7 = .ok (.bipush (-2), 2) := by decide +kernel
theorem dX8_back_9 : decode cX8_back 9 = .ok (.ireturn, 1) := by decide +kernel
theorem dX8_back_10 : decode cX8_back 10 = .ok (.iconst 0, 1) := by decide +kernel
theorem dX8_back_11 : decode cX8_back 11 = .ok (.istore_n 1, 1) := by decide +kernel
theorem dX8_back_12 : decode cX8_back 12 = .ok (.iload_n 1, 1) := by decide +kernel
theorem dX8_back_13 : decode cX8_back 13 = .ok (.bipush 6, 2) := by decide +kernel
theorem dX8_back_15 : decode cX8_back 15 = .ok (.if_icmp .ge 21, 3) := by decide +kernel
theorem dX8_back_18 : decode cX8_back 18 = .ok (.aload_n 0, 1) := by decide +kernel
theorem dX8_back_19 : decode cX8_back 19 = .ok (.getfield 13, 3) := by decide +kernel
theorem dX8_back_22 : decode cX8_back 22 = .ok (.iload_n 1, 1) := by decide +kernel
theorem dX8_back_23 : decode cX8_back 23 = .ok (.aload_n 0, 1) := by decide +kernel
theorem dX8_back_24 : decode cX8_back 24 = .ok (.getfield 17, 3) := by decide +kernel
theorem dX8_back_27 : decode cX8_back 27 = .ok (.iload_n 1, 1) := by decide +kernel
theorem dX8_back_28 : decode cX8_back 28 = .ok (.aaload, 1) := by decide +kernel
theorem dX8_back_29 : decode cX8_back 29 = .ok (.aastore, 1) := by decide +kernel
theorem dX8_back_30 : decode cX8_back 30 = .ok (.iinc 1 1, 3) := by decide +kernel
theorem dX8_back_33 : decode cX8_back 33 = .ok (.goto (-21), 3) := by decide +kernel
theorem dX8_back_36 : decode cX8_back 36 = .ok (.aload_n 0, 1) := by decide +kernel
theorem dX8_back_37 : decode cX8_back 37 = .ok (.getfield 23, 3) := by decide +kernel
theorem dX8_back_40 : decode cX8_back 40 = .ok (.aload_n 0, 1) := by decide +kernel
theorem dX8_back_41 : decode cX8_back 41 = .ok (.getfield 27, 3) := by decide +kernel
theorem dX8_back_44 : decode cX8_back 44 = .ok (.invokevirtual 297, 3) := by decide +kernel
theorem dX8_back_47 : decode cX8_back 47 = .ok (.aload_n 0, 1) := by decide +kernel
theorem dX8_back_48 : decode cX8_back 48 = .ok (.invokevirtual 300, 3) := by decide +kernel
theorem dX8_back_51 : decode cX8_back 51 = .ok (.ireturn, 1) := by decide +kernel
abbrev MX8_count : ZM := (yX8_count, cX8_count, 2, (Option.some FieldType.int), 2, 42)
theorem dX8_count_0 : decode cX8_count 0 = .ok (.iload_n 1, 1) := by decide +kernel
theorem dX8_count_1 : decode cX8_count 1 = .ok (.tableswitch 62 0 3 #[31, 36, 44, 49], 31) := by decide +kernel
theorem dX8_count_32 : decode cX8_count 32 = .ok (.aload_n 0, 1) := by decide +kernel
theorem dX8_count_33 : decode cX8_count 33 = .ok (.invokevirtual 300, 3) := by decide +kernel
theorem dX8_count_36 : decode cX8_count 36 = .ok (.ireturn, 1) := by decide +kernel
theorem dX8_count_37 : decode cX8_count 37 = .ok (.aload_n 0, 1) := by decide +kernel
theorem dX8_count_38 : decode cX8_count 38 = .ok (.getfield 23, 3) := by decide +kernel
theorem dX8_count_41 : decode cX8_count 41 = .ok (.getfield 239, 3) := by decide +kernel
theorem dX8_count_44 : decode cX8_count 44 = .ok (.ireturn, 1) := by decide +kernel
theorem dX8_count_45 : decode cX8_count 45 = .ok (.aload_n 0, 1) := by decide +kernel
theorem dX8_count_46 : decode cX8_count 46 = .ok (.invokevirtual 303, 3) := by decide +kernel
theorem dX8_count_49 : decode cX8_count 49 = .ok (.ireturn, 1) := by decide +kernel
theorem dX8_count_50 : decode cX8_count 50 = .ok (.aload_n 0, 1) := by decide +kernel
theorem dX8_count_51 : decode cX8_count 51 = .ok (.getfield 30, 3) := by decide +kernel
theorem dX8_count_54 : decode cX8_count 54 = .ok (.ifCond .eq 7, 3) := by decide +kernel
theorem dX8_count_57 : decode cX8_count 57 = .ok (.iconst 1, 1) := by decide +kernel
theorem dX8_count_58 : decode cX8_count 58 = .ok (.goto 4, 3) := by decide +kernel
theorem dX8_count_61 : decode cX8_count 61 = .ok (.iconst 0, 1) := by decide +kernel
theorem dX8_count_62 : decode cX8_count 62 = .ok (.ireturn, 1) := by decide +kernel
theorem dX8_count_63 : decode cX8_count 63 = .ok (.iconst (-1), 1) := by decide +kernel
theorem dX8_count_64 : decode cX8_count 64 = .ok (.ireturn, 1) := by decide +kernel
abbrev MX8_isSlot : ZM := (yX8_isSlot, cX8_isSlot, 1, (Option.some FieldType.boolean), 0, 0)
theorem dX8_isSlot_0 : decode cX8_isSlot 0 = .ok (.iload_n 0, 1) := by decide +kernel
theorem dX8_isSlot_1 : decode cX8_isSlot 1 = .ok (.ifCond .lt 13, 3) := by decide +kernel
theorem dX8_isSlot_4 : decode cX8_isSlot 4 = .ok (.iload_n 0, 1) := by decide +kernel
theorem dX8_isSlot_5 : decode cX8_isSlot 5 = .ok (.bipush 6, 2) := by decide +kernel
theorem dX8_isSlot_7 : decode cX8_isSlot 7 = .ok (.if_icmp .ge 7, 3) := by decide +kernel
theorem dX8_isSlot_10 : decode cX8_isSlot 10 = .ok (.iconst 1, 1) := by decide +kernel
theorem dX8_isSlot_11 : decode cX8_isSlot 11 = .ok (.goto 4, 3) := by decide +kernel
theorem dX8_isSlot_14 : decode cX8_isSlot 14 = .ok (.iconst 0, 1) := by decide +kernel
theorem dX8_isSlot_15 : decode cX8_isSlot 15 = .ok (.ireturn, 1) := by decide +kernel
abbrev MX8_isSheet : ZM := (yX8_isSheet, cX8_isSheet, 1, (Option.some FieldType.boolean), 0, 0)
theorem dX8_isSheet_0 : decode cX8_isSheet 0 = .ok (.iload_n 0, 1) := by decide +kernel
theorem dX8_isSheet_1 : decode cX8_isSheet 1 = .ok (.ifCond .lt 12, 3) := by decide +kernel
theorem dX8_isSheet_4 : decode cX8_isSheet 4 = .ok (.iload_n 0, 1) := by decide +kernel
theorem dX8_isSheet_5 : decode cX8_isSheet 5 = .ok (.iconst 4, 1) := by decide +kernel
theorem dX8_isSheet_6 : decode cX8_isSheet 6 = .ok (.if_icmp .ge 7, 3) := by decide +kernel
theorem dX8_isSheet_9 : decode cX8_isSheet 9 = .ok (.iconst 1, 1) := by decide +kernel
theorem dX8_isSheet_10 : decode cX8_isSheet 10 = .ok (.goto 4, 3) := by decide +kernel
theorem dX8_isSheet_13 : decode cX8_isSheet 13 = .ok (.iconst 0, 1) := by decide +kernel
theorem dX8_isSheet_14 : decode cX8_isSheet 14 = .ok (.ireturn, 1) := by decide +kernel
abbrev MX8_isLetter : ZM := (yX8_isLetter, cX8_isLetter, 2, (Option.some FieldType.boolean), 0, 0)
theorem dX8_isLetter_0 : decode cX8_isLetter 0 = .ok (.iload_n 1, 1) := by decide +kernel
theorem dX8_isLetter_1 : decode cX8_isLetter 1 = .ok (.ifCond .lt 15, 3) := by decide +kernel
theorem dX8_isLetter_4 : decode cX8_isLetter 4 = .ok (.iload_n 1, 1) := by decide +kernel
theorem dX8_isLetter_5 : decode cX8_isLetter 5 = .ok (.aload_n 0, 1) := by decide +kernel
theorem dX8_isLetter_6 : decode cX8_isLetter 6 = .ok (.getfield 114, 3) := by decide +kernel
theorem dX8_isLetter_9 : decode cX8_isLetter 9 = .ok (.if_icmp .ge 7, 3) := by decide +kernel
theorem dX8_isLetter_12 : decode cX8_isLetter 12 = .ok (.iconst 1, 1) := by decide +kernel
theorem dX8_isLetter_13 : decode cX8_isLetter 13 = .ok (.goto 4, 3) := by decide +kernel
theorem dX8_isLetter_16 : decode cX8_isLetter 16 = .ok (.iconst 0, 1) := by decide +kernel
theorem dX8_isLetter_17 : decode cX8_isLetter 17 = .ok (.ireturn, 1) := by decide +kernel
abbrev MX8_isRule : ZM := (yX8_isRule, cX8_isRule, 1, (Option.some FieldType.boolean), 0, 0)
theorem dX8_isRule_0 : decode cX8_isRule 0 = .ok (.iload_n 0, 1) := by decide +kernel
theorem dX8_isRule_1 : decode cX8_isRule 1 = .ok (.ifCond .lt 12, 3) := by decide +kernel
theorem dX8_isRule_4 : decode cX8_isRule 4 = .ok (.iload_n 0, 1) := by decide +kernel
theorem dX8_isRule_5 : decode cX8_isRule 5 = .ok (.iconst 2, 1) := by decide +kernel
theorem dX8_isRule_6 : decode cX8_isRule 6 = .ok (.if_icmp .gt 7, 3) := by decide +kernel
theorem dX8_isRule_9 : decode cX8_isRule 9 = .ok (.iconst 1, 1) := by decide +kernel
theorem dX8_isRule_10 : decode cX8_isRule 10 = .ok (.goto 4, 3) := by decide +kernel
theorem dX8_isRule_13 : decode cX8_isRule 13 = .ok (.iconst 0, 1) := by decide +kernel
theorem dX8_isRule_14 : decode cX8_isRule 14 = .ok (.ireturn, 1) := by decide +kernel
abbrev MX8_numbersOf : ZM := (yX8_numbersOf, cX8_numbersOf, 1, (Option.some (FieldType.array FieldType.int)), 0, 0)
theorem dX8_numbersOf_0 : decode cX8_numbersOf 0 = .ok (.iload_n 0, 1) := by decide +kernel
theorem dX8_numbersOf_1 : decode cX8_numbersOf 1 = .ok (.ifCond .ne 9, 3) := by decide +kernel
theorem dX8_numbersOf_4 : decode cX8_numbersOf 4 = .ok (.getstatic 306, 3) := by decide +kernel
theorem dX8_numbersOf_7 : decode cX8_numbersOf 7 = .ok (.goto 17, 3) := by decide +kernel
theorem dX8_numbersOf_10 : decode cX8_numbersOf 10 = .ok (.iload_n 0, 1) := by decide +kernel
theorem dX8_numbersOf_11 : decode cX8_numbersOf 11 = .ok (.iconst 1, 1) := by decide +kernel
theorem dX8_numbersOf_12 : decode cX8_numbersOf 12 = .ok (.if_icmp .ne 9, 3) := by decide +kernel
theorem dX8_numbersOf_15 : decode cX8_numbersOf 15 = .ok (.getstatic 309, 3) := by decide +kernel
theorem dX8_numbersOf_18 : decode cX8_numbersOf 18 = .ok (.goto 6, 3) := by decide +kernel
theorem dX8_numbersOf_21 : decode cX8_numbersOf 21 = .ok (.getstatic 312, 3) := by decide +kernel
theorem dX8_numbersOf_24 : decode cX8_numbersOf 24 = .ok (.areturn, 1) := by decide +kernel
abbrev MX8_triangle : ZM := (yX8_triangle, cX8_triangle, 1, (Option.some FieldType.int), 0, 0)
theorem dX8_triangle_0 : decode cX8_triangle 0 = .ok (.iload_n 0, 1) := by decide +kernel
theorem dX8_triangle_1 : decode cX8_triangle 1 = .ok (.iload_n 0, 1) := by decide +kernel
theorem dX8_triangle_2 : decode cX8_triangle 2 = .ok (.iconst 1, 1) := by decide +kernel
theorem dX8_triangle_3 : decode cX8_triangle 3 = .ok (.iadd, 1) := by decide +kernel
theorem dX8_triangle_4 : decode cX8_triangle 4 = .ok (.imul, 1) := by decide +kernel
theorem dX8_triangle_5 : decode cX8_triangle 5 = .ok (.iconst 2, 1) := by decide +kernel
theorem dX8_triangle_6 : decode cX8_triangle 6 = .ok (.idiv, 1) := by decide +kernel
theorem dX8_triangle_7 : decode cX8_triangle 7 = .ok (.ireturn, 1) := by decide +kernel
abbrev MX8_held : ZM := (yX8_held, cX8_held, 2, (Option.some (FieldType.object "EscalatedForms$Form")), 1, 20)
theorem dX8_held_0 : decode cX8_held 0 = .ok (.iload_n 1, 1) := by decide +kernel
theorem dX8_held_1 : decode cX8_held 1 = .ok (.invokestatic 69, 3) := by decide +kernel
theorem dX8_held_4 : decode cX8_held 4 = .ok (.ifCond .eq 12, 3) := by decide +kernel
theorem dX8_held_7 : decode cX8_held 7 = .ok (.aload_n 0, 1) := by decide +kernel
theorem dX8_held_8 : decode cX8_held 8 = .ok (.getfield 13, 3) := by decide +kernel
theorem dX8_held_11 : decode cX8_held 11 = .ok (.iload_n 1, 1) := by decide +kernel
theorem dX8_held_12 : decode cX8_held 12 = .ok (.aaload, 1) := by decide +kernel
theorem dX8_held_13 : decode cX8_held 13 = .ok (.goto 4, 3) := by decide +kernel
theorem dX8_held_16 : decode cX8_held 16 = .ok (.aconst_null, 1) := by decide +kernel
theorem dX8_held_17 : decode cX8_held 17 = .ok (.areturn, 1) := by decide +kernel
abbrev MX8_heldSlots : ZM := (yX8_heldSlots, cX8_heldSlots, 3, (Option.some FieldType.int), 0, 0)
theorem dX8_heldSlots_0 : decode cX8_heldSlots 0 = .ok (.iconst 0, 1) := by decide +kernel
theorem dX8_heldSlots_1 : decode cX8_heldSlots 1 = .ok (.istore_n 1, 1) := by decide +kernel
theorem dX8_heldSlots_2 : decode cX8_heldSlots 2 = .ok (.iconst 0, 1) := by decide +kernel
theorem dX8_heldSlots_3 : decode cX8_heldSlots 3 = .ok (.istore_n 2, 1) := by decide +kernel
theorem dX8_heldSlots_4 : decode cX8_heldSlots 4 = .ok (.iload_n 2, 1) := by decide +kernel
theorem dX8_heldSlots_5 : decode cX8_heldSlots 5 = .ok (.bipush 6, 2) := by decide +kernel
theorem dX8_heldSlots_7 : decode cX8_heldSlots 7 = .ok (.if_icmp .ge 21, 3) := by decide +kernel
theorem dX8_heldSlots_10 : decode cX8_heldSlots 10 = .ok (.aload_n 0, 1) := by decide +kernel
theorem dX8_heldSlots_11 : decode cX8_heldSlots 11 = .ok (.getfield 13, 3) := by decide +kernel
theorem dX8_heldSlots_14 : decode cX8_heldSlots 14 = .ok (.iload_n 2, 1) := by decide +kernel
theorem dX8_heldSlots_15 : decode cX8_heldSlots 15 = .ok (.aaload, 1) := by decide +kernel
theorem dX8_heldSlots_16 : decode cX8_heldSlots 16 = .ok (.ifnull 6, 3) := by decide +kernel
theorem dX8_heldSlots_19 : decode cX8_heldSlots 19 = .ok (.iinc 1 1, 3) := by decide +kernel
theorem dX8_heldSlots_22 : decode cX8_heldSlots 22 = .ok (.iinc 2 1, 3) := by decide +kernel
theorem dX8_heldSlots_25 : decode cX8_heldSlots 25 = .ok (.goto (-21), 3) := by decide +kernel
theorem dX8_heldSlots_28 : decode cX8_heldSlots 28 = .ok (.iload_n 1, 1) := by decide +kernel
theorem dX8_heldSlots_29 : decode cX8_heldSlots 29 = .ok (.ireturn, 1) := by decide +kernel
abbrev MX8_presentSheets : ZM := (yX8_presentSheets, cX8_presentSheets, 3, (Option.some FieldType.int), 1, 20)
theorem dX8_presentSheets_0 : decode cX8_presentSheets 0 = .ok (.iconst 0, 1) := by decide +kernel
theorem dX8_presentSheets_1 : decode cX8_presentSheets 1 = .ok (.istore_n 1, 1) := by decide +kernel
theorem dX8_presentSheets_2 : decode cX8_presentSheets 2 = .ok (.iconst 0, 1) := by decide +kernel
theorem dX8_presentSheets_3 : decode cX8_presentSheets 3 = .ok (.istore_n 2, 1) := by decide +kernel
theorem dX8_presentSheets_4 : decode cX8_presentSheets 4 = .ok (.iload_n 2, 1) := by decide +kernel
theorem dX8_presentSheets_5 : decode cX8_presentSheets 5 = .ok (.iconst 4, 1) := by decide +kernel
theorem dX8_presentSheets_6 : decode cX8_presentSheets 6 = .ok (.if_icmp .ge 24, 3) := by decide +kernel
theorem dX8_presentSheets_9 : decode cX8_presentSheets 9 = .ok (.aload_n 0, 1) := by decide +kernel
theorem dX8_presentSheets_10 : decode cX8_presentSheets 10 = .ok (.getfield 36, 3) := by decide +kernel
theorem dX8_presentSheets_13 : decode cX8_presentSheets 13 = .ok (.iload_n 2, 1) := by decide +kernel
theorem dX8_presentSheets_14 : decode cX8_presentSheets 14 = .ok (.aaload, 1) := by decide +kernel
theorem dX8_presentSheets_15 : decode cX8_presentSheets 15 = .ok (.invokevirtual 91, 3) := by decide +kernel
theorem dX8_presentSheets_18 : decode cX8_presentSheets 18 = .ok (.ifCond .ne 6, 3) := by decide +kernel
theorem dX8_presentSheets_21 : decode cX8_presentSheets 21 = .ok (.iinc 1 1, 3) := by decide +kernel
theorem dX8_presentSheets_24 : decode cX8_presentSheets 24 = .ok (.iinc 2 1, 3) := by decide +kernel
theorem dX8_presentSheets_27 : decode cX8_presentSheets 27 = .ok (.goto (-23), 3) := by decide +kernel
theorem dX8_presentSheets_30 : decode cX8_presentSheets 30 = .ok (.iload_n 1, 1) := by decide +kernel
theorem dX8_presentSheets_31 : decode cX8_presentSheets 31 = .ok (.ireturn, 1) := by decide +kernel
abbrev MX8_storeDraft : ZM := (yX8_storeDraft, cX8_storeDraft, 2, (Option.some FieldType.boolean), 3, 85)
theorem dX8_storeDraft_0 : decode cX8_storeDraft 0 = .ok (.iload_n 1, 1) := by decide +kernel
theorem dX8_storeDraft_1 : decode cX8_storeDraft 1 = .ok (.invokestatic 69, 3) := by decide +kernel
theorem dX8_storeDraft_4 : decode cX8_storeDraft 4 = .ok (.ifCond .eq 13, 3) := by decide +kernel
theorem dX8_storeDraft_7 : decode cX8_storeDraft 7 = .ok (.aload_n 0, 1) := by decide +kernel
theorem dX8_storeDraft_8 : decode cX8_storeDraft 8 = .ok (.getfield 44, 3) := by decide +kernel
theorem dX8_storeDraft_11 : decode cX8_storeDraft 11 = .ok (.invokevirtual 253, 3) := by decide +kernel
theorem dX8_storeDraft_14 : decode cX8_storeDraft 14 = .ok (.ifCond .ne 5, 3) := by decide +kernel
theorem dX8_storeDraft_17 : decode cX8_storeDraft 17 = .ok (.iconst 0, 1) := by decide +kernel
theorem dX8_storeDraft_18 : decode cX8_storeDraft 18 = .ok (.ireturn, 1) := by decide +kernel
theorem dX8_storeDraft_19 : decode cX8_storeDraft 19 = .ok (.aload_n 0, 1) := by decide +kernel
theorem dX8_storeDraft_20 : decode cX8_storeDraft 20 = .ok (.getfield 13, 3) := by decide +kernel
theorem dX8_storeDraft_23 : decode cX8_storeDraft 23 = .ok (.iload_n 1, 1) := by decide +kernel
theorem dX8_storeDraft_24 : decode cX8_storeDraft 24 = .ok (.new 11, 3) := by decide +kernel
theorem dX8_storeDraft_27 : decode cX8_storeDraft 27 = .ok (.dup, 1) := by decide +kernel
theorem dX8_storeDraft_28 : decode cX8_storeDraft 28 = .ok (.aload_n 0, 1) := by decide +kernel
theorem dX8_storeDraft_29 : decode cX8_storeDraft 29 = .ok (.getfield 44, 3) := by decide +kernel
theorem dX8_storeDraft_32 : decode cX8_storeDraft 32 = .ok (.invokespecial 256, 3) := by decide +kernel
theorem dX8_storeDraft_35 : decode cX8_storeDraft 35 = .ok (.aastore, 1) := by decide +kernel
theorem dX8_storeDraft_36 : decode cX8_storeDraft 36 = .ok (.iconst 1, 1) := by decide +kernel
theorem dX8_storeDraft_37 : decode cX8_storeDraft 37 = .ok (.ireturn, 1) := by decide +kernel
abbrev MX8_takenBy : ZM := (yX8_takenBy, cX8_takenBy, 2, (Option.some (FieldType.object "EscalatedForms$Taken")), 4, 105)
theorem dX8_takenBy_0 : decode cX8_takenBy 0 = .ok (.aload_n 1, 1) := by decide +kernel
theorem dX8_takenBy_1 : decode cX8_takenBy 1 = .ok (.getfield 315, 3) := by decide +kernel
theorem dX8_takenBy_4 : decode cX8_takenBy 4 = .ok (.ifnonnull 19, 3) := by decide +kernel
theorem dX8_takenBy_7 : decode cX8_takenBy 7 = .ok (.aload_n 1, 1) := by decide +kernel
theorem dX8_takenBy_8 : decode cX8_takenBy 8 = .ok (.new 182, 3) := by decide +kernel
theorem dX8_takenBy_11 : decode cX8_takenBy 11 = .ok (.dup, 1) := by decide +kernel
theorem dX8_takenBy_12 : decode cX8_takenBy 12 = .ok (.aload_n 1, 1) := by decide +kernel
theorem dX8_takenBy_13 : decode cX8_takenBy 13 = .ok (.aload_n 0, 1) := by decide +kernel
theorem dX8_takenBy_14 : decode cX8_takenBy 14 = .ok (.getfield 51, 3) := by decide +kernel
theorem dX8_takenBy_17 : decode cX8_takenBy 17 = .ok (.invokespecial 319, 3) := by decide +kernel
theorem dX8_takenBy_20 : decode cX8_takenBy 20 = .ok (.putfield 315, 3) := by decide +kernel
theorem dX8_takenBy_23 : decode cX8_takenBy 23 = .ok (.aload_n 1, 1) := by decide +kernel
theorem dX8_takenBy_24 : decode cX8_takenBy 24 = .ok (.getfield 315, 3) := by decide +kernel
theorem dX8_takenBy_27 : decode cX8_takenBy 27 = .ok (.areturn, 1) := by decide +kernel
abbrev MX8_barrierOf : ZM := (yX8_barrierOf, cX8_barrierOf, 4, (Option.some FieldType.int), 3, 78)
theorem dX8_barrierOf_0 : decode cX8_barrierOf 0 = .ok (.iconst 2, 1) := by decide +kernel
theorem dX8_barrierOf_1 : decode cX8_barrierOf 1 = .ok (.istore_n 3, 1) := by decide +kernel
theorem dX8_barrierOf_2 : decode cX8_barrierOf 2 = .ok (.iload_n 3, 1) := by decide +kernel
theorem dX8_barrierOf_3 : decode cX8_barrierOf 3 = .ok (.bipush 16, 2) := by decide +kernel
theorem dX8_barrierOf_5 : decode cX8_barrierOf 5 = .ok (.if_icmp .gt 31, 3) := by decide +kernel
theorem dX8_barrierOf_8 : decode cX8_barrierOf 8 = .ok (.aload_n 0, 1) := by decide +kernel
theorem dX8_barrierOf_9 : decode cX8_barrierOf 9 = .ok (.getfield 58, 3) := by decide +kernel
theorem dX8_barrierOf_12 : decode cX8_barrierOf 12 = .ok (.aload_n 1, 1) := by decide +kernel
theorem dX8_barrierOf_13 : decode cX8_barrierOf 13 = .ok (.iload_n 3, 1) := by decide +kernel
theorem dX8_barrierOf_14 : decode cX8_barrierOf 14 = .ok (.invokevirtual 196, 3) := by decide +kernel
theorem dX8_barrierOf_17 : decode cX8_barrierOf 17 = .ok (.iload_n 2, 1) := by decide +kernel
theorem dX8_barrierOf_18 : decode cX8_barrierOf 18 = .ok (.iload_n 3, 1) := by decide +kernel
theorem dX8_barrierOf_19 : decode cX8_barrierOf 19 = .ok (.invokestatic 322, 3) := by decide +kernel
theorem dX8_barrierOf_22 : decode cX8_barrierOf 22 = .ok (.ishr, 1) := by decide +kernel
theorem dX8_barrierOf_23 : decode cX8_barrierOf 23 = .ok (.iconst 1, 1) := by decide +kernel
theorem dX8_barrierOf_24 : decode cX8_barrierOf 24 = .ok (.iand, 1) := by decide +kernel
theorem dX8_barrierOf_25 : decode cX8_barrierOf 25 = .ok (.ifCond .ne 5, 3) := by decide +kernel
theorem dX8_barrierOf_28 : decode cX8_barrierOf 28 = .ok (.iload_n 3, 1) := by decide +kernel
theorem dX8_barrierOf_29 : decode cX8_barrierOf 29 = .ok (.ireturn, 1) := by decide +kernel
theorem dX8_barrierOf_30 : decode cX8_barrierOf 30 = .ok (.iinc 3 1, 3) := by decide +kernel
theorem dX8_barrierOf_33 : decode cX8_barrierOf 33 = .ok (.goto (-31), 3) := by decide +kernel
theorem dX8_barrierOf_36 : decode cX8_barrierOf 36 = .ok (.bipush (-2), 2) := by decide +kernel
theorem dX8_barrierOf_38 : decode cX8_barrierOf 38 = .ok (.ireturn, 1) := by decide +kernel
abbrev MX8_lackingOf : ZM := (yX8_lackingOf, cX8_lackingOf, 6, (Option.some FieldType.int), 1, 20)
theorem dX8_lackingOf_0 : decode cX8_lackingOf 0 = .ok (.iload_n 1, 1) := by decide +kernel
theorem dX8_lackingOf_1 : decode cX8_lackingOf 1 = .ok (.invokestatic 202, 3) := by decide +kernel
theorem dX8_lackingOf_4 : decode cX8_lackingOf 4 = .ok (.astore_n 3, 1) := by decide +kernel
theorem dX8_lackingOf_5 : decode cX8_lackingOf 5 = .ok (.iconst 0, 1) := by decide +kernel
theorem dX8_lackingOf_6 : decode cX8_lackingOf 6 = .ok (.istore 4, 2) := by decide +kernel
theorem dX8_lackingOf_8 : decode cX8_lackingOf 8 = .ok (.iconst 0, 1) := by decide +kernel
theorem dX8_lackingOf_9 : decode cX8_lackingOf 9 = .ok (.istore 5, 2) := by decide +kernel
theorem dX8_lackingOf_11 : decode cX8_lackingOf 11 = .ok (.iload 5, 2) := by decide +kernel
theorem dX8_lackingOf_13 : decode cX8_lackingOf 13 = .ok (.aload_n 3, 1) := by decide +kernel
theorem dX8_lackingOf_14 : decode cX8_lackingOf 14 = .ok (.arraylength, 1) := by decide +kernel
theorem dX8_lackingOf_15 : decode cX8_lackingOf 15 = .ok (.if_icmp .ge 35, 3) := by decide +kernel
theorem dX8_lackingOf_18 : decode cX8_lackingOf 18 = .ok (.aload_n 0, 1) := by decide +kernel
theorem dX8_lackingOf_19 : decode cX8_lackingOf 19 = .ok (.getfield 181, 3) := by decide +kernel
theorem dX8_lackingOf_22 : decode cX8_lackingOf 22 = .ok (.aload_n 3, 1) := by decide +kernel
theorem dX8_lackingOf_23 : decode cX8_lackingOf 23 = .ok (.iload 5, 2) := by decide +kernel
theorem dX8_lackingOf_25 : decode cX8_lackingOf 25 = .ok (.iaload, 1) := by decide +kernel
theorem dX8_lackingOf_26 : decode cX8_lackingOf 26 = .ok (.iaload, 1) := by decide +kernel
theorem dX8_lackingOf_27 : decode cX8_lackingOf 27 = .ok (.ifCond .ne 17, 3) := by decide +kernel
theorem dX8_lackingOf_30 : decode cX8_lackingOf 30 = .ok (.iload 4, 2) := by decide +kernel
theorem dX8_lackingOf_32 : decode cX8_lackingOf 32 = .ok (.iload_n 2, 1) := by decide +kernel
theorem dX8_lackingOf_33 : decode cX8_lackingOf 33 = .ok (.if_icmp .ne 8, 3) := by decide +kernel
theorem dX8_lackingOf_36 : decode cX8_lackingOf 36 = .ok (.aload_n 3, 1) := by decide +kernel
theorem dX8_lackingOf_37 : decode cX8_lackingOf 37 = .ok (.iload 5, 2) := by decide +kernel
theorem dX8_lackingOf_39 : decode cX8_lackingOf 39 = .ok (.iaload, 1) := by decide +kernel
theorem dX8_lackingOf_40 : decode cX8_lackingOf 40 = .ok (.ireturn, 1) := by decide +kernel
theorem dX8_lackingOf_41 : decode cX8_lackingOf 41 = .ok (.iinc 4 1, 3) := by decide +kernel
theorem dX8_lackingOf_44 : decode cX8_lackingOf 44 = .ok (.iinc 5 1, 3) := by decide +kernel
theorem dX8_lackingOf_47 : decode cX8_lackingOf 47 = .ok (.goto (-36), 3) := by decide +kernel
theorem dX8_lackingOf_50 : decode cX8_lackingOf 50 = .ok (.bipush (-2), 2) := by decide +kernel
theorem dX8_lackingOf_52 : decode cX8_lackingOf 52 = .ok (.ireturn, 1) := by decide +kernel
abbrev MX8_isClaimed : ZM := (yX8_isClaimed, cX8_isClaimed, 2, (Option.some FieldType.boolean), 2, 45)
theorem dX8_isClaimed_0 : decode cX8_isClaimed 0 = .ok (.aload_n 0, 1) := by decide +kernel
theorem dX8_isClaimed_1 : decode cX8_isClaimed 1 = .ok (.iload_n 1, 1) := by decide +kernel
theorem dX8_isClaimed_2 : decode cX8_isClaimed 2 = .ok (.iconst 0, 1) := by decide +kernel
theorem dX8_isClaimed_3 : decode cX8_isClaimed 3 = .ok (.invokestatic 210, 3) := by decide +kernel
theorem dX8_isClaimed_6 : decode cX8_isClaimed 6 = .ok (.bipush (-2), 2) := by decide +kernel
theorem dX8_isClaimed_8 : decode cX8_isClaimed 8 = .ok (.if_icmp .ne 7, 3) := by decide +kernel
theorem dX8_isClaimed_11 : decode cX8_isClaimed 11 = .ok (.iconst 1, 1) := by decide +kernel
theorem dX8_isClaimed_12 : decode cX8_isClaimed 12 = .ok (.goto 4, 3) := by decide +kernel
theorem dX8_isClaimed_15 : decode cX8_isClaimed 15 = .ok (.iconst 0, 1) := by decide +kernel
theorem dX8_isClaimed_16 : decode cX8_isClaimed 16 = .ok (.ireturn, 1) := by decide +kernel
abbrev MX8_claimsBelow : ZM := (yX8_claimsBelow, cX8_claimsBelow, 4, (Option.some FieldType.int), 5, 126)
theorem dX8_claimsBelow_0 : decode cX8_claimsBelow 0 = .ok (.iconst 0, 1) := by decide +kernel
theorem dX8_claimsBelow_1 : decode cX8_claimsBelow 1 = .ok (.istore_n 2, 1) := by decide +kernel
theorem dX8_claimsBelow_2 : decode cX8_claimsBelow 2 = .ok (.iload_n 1, 1) := by decide +kernel
theorem dX8_claimsBelow_3 : decode cX8_claimsBelow 3 = .ok (.istore_n 3, 1) := by decide +kernel
theorem dX8_claimsBelow_4 : decode cX8_claimsBelow 4 = .ok (.iload_n 3, 1) := by decide +kernel
theorem dX8_claimsBelow_5 : decode cX8_claimsBelow 5 = .ok (.aload_n 0, 1) := by decide +kernel
theorem dX8_claimsBelow_6 : decode cX8_claimsBelow 6 = .ok (.getfield 23, 3) := by decide +kernel
theorem dX8_claimsBelow_9 : decode cX8_claimsBelow 9 = .ok (.getfield 239, 3) := by decide +kernel
theorem dX8_claimsBelow_12 : decode cX8_claimsBelow 12 = .ok (.if_icmp .ge 44, 3) := by decide +kernel
theorem dX8_claimsBelow_15 : decode cX8_claimsBelow 15 = .ok (.aload_n 0, 1) := by decide +kernel
theorem dX8_claimsBelow_16 : decode cX8_claimsBelow 16 = .ok (.getfield 23, 3) := by decide +kernel
theorem dX8_claimsBelow_19 : decode cX8_claimsBelow 19 = .ok (.iload_n 3, 1) := by decide +kernel
theorem dX8_claimsBelow_20 : decode cX8_claimsBelow 20 = .ok (.iload_n 1, 1) := by decide +kernel
theorem dX8_claimsBelow_21 : decode cX8_claimsBelow 21 = .ok (.invokevirtual 325, 3) := by decide +kernel
theorem dX8_claimsBelow_24 : decode cX8_claimsBelow 24 = .ok (.ifCond .eq 26, 3) := by decide +kernel
theorem dX8_claimsBelow_27 : decode cX8_claimsBelow 27 = .ok (.aload_n 0, 1) := by decide +kernel
theorem dX8_claimsBelow_28 : decode cX8_claimsBelow 28 = .ok (.aload_n 0, 1) := by decide +kernel
theorem dX8_claimsBelow_29 : decode cX8_claimsBelow 29 = .ok (.getfield 23, 3) := by decide +kernel
theorem dX8_claimsBelow_32 : decode cX8_claimsBelow 32 = .ok (.getfield 250, 3) := by decide +kernel
theorem dX8_claimsBelow_35 : decode cX8_claimsBelow 35 = .ok (.iload_n 3, 1) := by decide +kernel
theorem dX8_claimsBelow_36 : decode cX8_claimsBelow 36 = .ok (.aaload, 1) := by decide +kernel
theorem dX8_claimsBelow_37 : decode cX8_claimsBelow 37 = .ok (.invokevirtual 177, 3) := by decide +kernel
theorem dX8_claimsBelow_40 : decode cX8_claimsBelow 40 = .ok (.iconst 0, 1) := by decide +kernel
theorem dX8_claimsBelow_41 : decode cX8_claimsBelow 41 = .ok (.invokestatic 206, 3) := by decide +kernel
theorem dX8_claimsBelow_44 : decode cX8_claimsBelow 44 = .ok (.ifCond .eq 6, 3) := by decide +kernel
theorem dX8_claimsBelow_47 : decode cX8_claimsBelow 47 = .ok (.iinc 2 1, 3) := by decide +kernel
theorem dX8_claimsBelow_50 : decode cX8_claimsBelow 50 = .ok (.iinc 3 1, 3) := by decide +kernel
theorem dX8_claimsBelow_53 : decode cX8_claimsBelow 53 = .ok (.goto (-49), 3) := by decide +kernel
theorem dX8_claimsBelow_56 : decode cX8_claimsBelow 56 = .ok (.iload_n 2, 1) := by decide +kernel
theorem dX8_claimsBelow_57 : decode cX8_claimsBelow 57 = .ok (.ireturn, 1) := by decide +kernel
abbrev MX8_refusalToGrow : ZM := (yX8_refusalToGrow, cX8_refusalToGrow, 2, (Option.some FieldType.int), 5, 126)
theorem dX8_refusalToGrow_0 : decode cX8_refusalToGrow 0 = .ok (.aload_n 0, 1) := by decide +kernel
theorem dX8_refusalToGrow_1 : decode cX8_refusalToGrow 1 = .ok (.aload_n 1, 1) := by decide +kernel
theorem dX8_refusalToGrow_2 : decode cX8_refusalToGrow 2 = .ok (.invokevirtual 177, 3) := by decide +kernel
theorem dX8_refusalToGrow_5 : decode cX8_refusalToGrow 5 = .ok (.invokevirtual 189, 3) := by decide +kernel
theorem dX8_refusalToGrow_8 : decode cX8_refusalToGrow 8 = .ok (.ifCond .ne 6, 3) := by decide +kernel
theorem dX8_refusalToGrow_11 : decode cX8_refusalToGrow 11 = .ok (.bipush (-3), 2) := by decide +kernel
theorem dX8_refusalToGrow_13 : decode cX8_refusalToGrow 13 = .ok (.ireturn, 1) := by decide +kernel
theorem dX8_refusalToGrow_14 : decode cX8_refusalToGrow 14 = .ok (.aload_n 1, 1) := by decide +kernel
theorem dX8_refusalToGrow_15 : decode cX8_refusalToGrow 15 = .ok (.getfield 114, 3) := by decide +kernel
theorem dX8_refusalToGrow_18 : decode cX8_refusalToGrow 18 = .ok (.iconst 4, 1) := by decide +kernel
theorem dX8_refusalToGrow_19 : decode cX8_refusalToGrow 19 = .ok (.if_icmp .ne 8, 3) := by decide +kernel
theorem dX8_refusalToGrow_22 : decode cX8_refusalToGrow 22 = .ok (.bipush (-4), 2) := by decide +kernel
theorem dX8_refusalToGrow_24 : decode cX8_refusalToGrow 24 = .ok (.goto 4, 3) := by decide +kernel
theorem dX8_refusalToGrow_27 : decode cX8_refusalToGrow 27 = .ok (.iconst 0, 1) := by decide +kernel
theorem dX8_refusalToGrow_28 : decode cX8_refusalToGrow 28 = .ok (.ireturn, 1) := by decide +kernel
abbrev MX8_broodOf : ZM := (yX8_broodOf, cX8_broodOf, 2, (Option.some (FieldType.object "EscalatedForms$Brood")), 5, 126)
theorem dX8_broodOf_0 : decode cX8_broodOf 0 = .ok (.aload_n 0, 1) := by decide +kernel
theorem dX8_broodOf_1 : decode cX8_broodOf 1 = .ok (.getfield 65, 3) := by decide +kernel
theorem dX8_broodOf_4 : decode cX8_broodOf 4 = .ok (.getfield 328, 3) := by decide +kernel
theorem dX8_broodOf_7 : decode cX8_broodOf 7 = .ok (.aload_n 1, 1) := by decide +kernel
theorem dX8_broodOf_8 : decode cX8_broodOf 8 = .ok (.if_acmp .eq 27, 3) := by decide +kernel
theorem dX8_broodOf_11 : decode cX8_broodOf 11 = .ok (.aload_n 0, 1) := by decide +kernel
theorem dX8_broodOf_12 : decode cX8_broodOf 12 = .ok (.getfield 65, 3) := by decide +kernel
theorem dX8_broodOf_15 : decode cX8_broodOf 15 = .ok (.aload_n 1, 1) := by decide +kernel
theorem dX8_broodOf_16 : decode cX8_broodOf 16 = .ok (.aload_n 0, 1) := by decide +kernel
theorem dX8_broodOf_17 : decode cX8_broodOf 17 = .ok (.aload_n 1, 1) := by decide +kernel
theorem dX8_broodOf_18 : decode cX8_broodOf 18 = .ok (.invokevirtual 177, 3) := by decide +kernel
theorem dX8_broodOf_21 : decode cX8_broodOf 21 = .ok (.invokevirtual 189, 3) := by decide +kernel
theorem dX8_broodOf_24 : decode cX8_broodOf 24 = .ok (.aload_n 0, 1) := by decide +kernel
theorem dX8_broodOf_25 : decode cX8_broodOf 25 = .ok (.getfield 44, 3) := by decide +kernel
theorem dX8_broodOf_28 : decode cX8_broodOf 28 = .ok (.aload_n 0, 1) := by decide +kernel
theorem dX8_broodOf_29 : decode cX8_broodOf 29 = .ok (.getfield 51, 3) := by decide +kernel
theorem dX8_broodOf_32 : decode cX8_broodOf 32 = .ok (.invokevirtual 332, 3) := by decide +kernel
theorem dX8_broodOf_35 : decode cX8_broodOf 35 = .ok (.aload_n 0, 1) := by decide +kernel
theorem dX8_broodOf_36 : decode cX8_broodOf 36 = .ok (.getfield 65, 3) := by decide +kernel
theorem dX8_broodOf_39 : decode cX8_broodOf 39 = .ok (.areturn, 1) := by decide +kernel
abbrev MX8_greatestLackOfDraft : ZM := (yX8_greatestLackOfDraft, cX8_greatestLackOfDraft, 3, (Option.some FieldType.int), 3, 80)
theorem dX8_greatestLackOfDraft_0 : decode cX8_greatestLackOfDraft 0 = .ok (.aload_n 0, 1) := by decide +kernel
theorem dX8_greatestLackOfDraft_1 : decode cX8_greatestLackOfDraft 1 = .ok (.getfield 51, 3) := by decide +kernel
theorem dX8_greatestLackOfDraft_4 : decode cX8_greatestLackOfDraft 4 = .ok (.aload_n 0, 1) := by decide +kernel
theorem dX8_greatestLackOfDraft_5 : decode cX8_greatestLackOfDraft 5 = .ok (.getfield 44, 3) := by decide +kernel
theorem dX8_greatestLackOfDraft_8 : decode cX8_greatestLackOfDraft 8 = .ok (.getfield 336, 3) := by decide +kernel
theorem dX8_greatestLackOfDraft_11 : decode cX8_greatestLackOfDraft 11 = .ok (.aload_n 0, 1) := by decide +kernel
theorem dX8_greatestLackOfDraft_12 : decode cX8_greatestLackOfDraft 12 = .ok (.getfield 44, 3) := by decide +kernel
theorem dX8_greatestLackOfDraft_15 : decode cX8_greatestLackOfDraft 15 = .ok (.getfield 337, 3) := by decide +kernel
theorem dX8_greatestLackOfDraft_18 : decode cX8_greatestLackOfDraft 18 = .ok (.bipush 15, 2) := by decide +kernel
theorem dX8_greatestLackOfDraft_20 : decode cX8_greatestLackOfDraft 20 = .ok (.invokevirtual 338, 3) := by decide +kernel
theorem dX8_greatestLackOfDraft_23 : decode cX8_greatestLackOfDraft 23 = .ok (.iconst 0, 1) := by decide +kernel
theorem dX8_greatestLackOfDraft_24 : decode cX8_greatestLackOfDraft 24 = .ok (.istore_n 1, 1) := by decide +kernel
theorem dX8_greatestLackOfDraft_25 : decode cX8_greatestLackOfDraft 25 = .ok (.iconst 0, 1) := by decide +kernel
theorem dX8_greatestLackOfDraft_26 : decode cX8_greatestLackOfDraft 26 = .ok (.istore_n 2, 1) := by decide +kernel
theorem dX8_greatestLackOfDraft_27 : decode cX8_greatestLackOfDraft 27 = .ok (.iload_n 2, 1) := by decide +kernel
theorem dX8_greatestLackOfDraft_28 : decode cX8_greatestLackOfDraft 28 = .ok (.ldc 173, 2) := by decide +kernel
theorem dX8_greatestLackOfDraft_30 : decode cX8_greatestLackOfDraft 30 = .ok (.if_icmp .ge 31, 3) := by decide +kernel
theorem dX8_greatestLackOfDraft_33 : decode cX8_greatestLackOfDraft 33 = .ok (.aload_n 0, 1) := by decide +kernel
theorem dX8_greatestLackOfDraft_34 : decode cX8_greatestLackOfDraft 34 = .ok (.getfield 51, 3) := by decide +kernel
theorem dX8_greatestLackOfDraft_37 : decode cX8_greatestLackOfDraft 37 = .ok (.invokevirtual 342, 3) := by decide +kernel
theorem dX8_greatestLackOfDraft_40 : decode cX8_greatestLackOfDraft 40 = .ok (.ifCond .eq 21, 3) := by decide +kernel
theorem dX8_greatestLackOfDraft_43 : decode cX8_greatestLackOfDraft 43 = .ok (.iload_n 1, 1) := by decide +kernel
theorem dX8_greatestLackOfDraft_44 : decode cX8_greatestLackOfDraft 44 = .ok (.iconst 1, 1) := by decide +kernel
theorem dX8_greatestLackOfDraft_45 : decode cX8_greatestLackOfDraft 45 = .ok (.aload_n 0, 1) := by decide +kernel
theorem dX8_greatestLackOfDraft_46 : decode cX8_greatestLackOfDraft 46 = .ok (.getfield 51, 3) := by decide +kernel
theorem dX8_greatestLackOfDraft_49 : decode cX8_greatestLackOfDraft 49 = .ok (.invokevirtual 345, 3) := by decide +kernel
theorem dX8_greatestLackOfDraft_52 : decode cX8_greatestLackOfDraft 52 = .ok (.ishl, 1) := by decide +kernel
theorem dX8_greatestLackOfDraft_53 : decode cX8_greatestLackOfDraft 53 = .ok (.ior, 1) := by decide +kernel
theorem dX8_greatestLackOfDraft_54 : decode cX8_greatestLackOfDraft 54 = .ok (.istore_n 1, 1) := by decide +kernel
theorem dX8_greatestLackOfDraft_55 : decode cX8_greatestLackOfDraft 55 = .ok (.iinc 2 1, 3) := by decide +kernel
theorem dX8_greatestLackOfDraft_58 : decode cX8_greatestLackOfDraft 58 = .ok (.goto (-31), 3) := by decide +kernel
theorem dX8_greatestLackOfDraft_61 : decode cX8_greatestLackOfDraft 61 = .ok (.getstatic 306, 3) := by decide +kernel
theorem dX8_greatestLackOfDraft_64 : decode cX8_greatestLackOfDraft 64 = .ok (.arraylength, 1) := by decide +kernel
theorem dX8_greatestLackOfDraft_65 : decode cX8_greatestLackOfDraft 65 = .ok (.iconst 1, 1) := by decide +kernel
theorem dX8_greatestLackOfDraft_66 : decode cX8_greatestLackOfDraft 66 = .ok (.isub, 1) := by decide +kernel
theorem dX8_greatestLackOfDraft_67 : decode cX8_greatestLackOfDraft 67 = .ok (.istore_n 2, 1) := by decide +kernel
theorem dX8_greatestLackOfDraft_68 : decode cX8_greatestLackOfDraft 68 = .ok (.iload_n 2, 1) := by decide +kernel
theorem dX8_greatestLackOfDraft_69 : decode cX8_greatestLackOfDraft 69 = .ok (.ifCond .lt 27, 3) := by decide +kernel
theorem dX8_greatestLackOfDraft_72 : decode cX8_greatestLackOfDraft 72 = .ok (.iload_n 1, 1) := by decide +kernel
theorem dX8_greatestLackOfDraft_73 : decode cX8_greatestLackOfDraft 73 = .ok (.getstatic 306, 3) := by decide +kernel
theorem dX8_greatestLackOfDraft_76 : decode cX8_greatestLackOfDraft 76 = .ok (.iload_n 2, 1) := by decide +kernel
theorem dX8_greatestLackOfDraft_77 : decode cX8_greatestLackOfDraft 77 = .ok (.iaload, 1) := by decide +kernel
theorem dX8_greatestLackOfDraft_78 : decode cX8_greatestLackOfDraft 78 = .ok (.ishr, 1) := by decide +kernel
theorem dX8_greatestLackOfDraft_79 : decode cX8_greatestLackOfDraft 79 = .ok (.iconst 1, 1) := by decide +kernel
theorem dX8_greatestLackOfDraft_80 : decode cX8_greatestLackOfDraft 80 = .ok (.iand, 1) := by decide +kernel
theorem dX8_greatestLackOfDraft_81 : decode cX8_greatestLackOfDraft 81 = .ok (.ifCond .ne 9, 3) := by decide +kernel
theorem dX8_greatestLackOfDraft_84 : decode cX8_greatestLackOfDraft 84 = .ok (.getstatic 306, 3) := by decide +kernel
theorem dX8_greatestLackOfDraft_87 : decode cX8_greatestLackOfDraft 87 = .ok (.iload_n 2, 1) := by decide +kernel
theorem dX8_greatestLackOfDraft_88 : decode cX8_greatestLackOfDraft 88 = .ok (.iaload, 1) := by decide +kernel
theorem dX8_greatestLackOfDraft_89 : decode cX8_greatestLackOfDraft 89 = .ok (.ireturn, 1) := by decide +kernel
theorem dX8_greatestLackOfDraft_90 : decode cX8_greatestLackOfDraft 90 = .ok (.iinc 2 (-1), 3) := by decide +kernel
theorem dX8_greatestLackOfDraft_93 : decode cX8_greatestLackOfDraft 93 = .ok (.goto (-25), 3) := by decide +kernel
theorem dX8_greatestLackOfDraft_96 : decode cX8_greatestLackOfDraft 96 = .ok (.iconst 0, 1) := by decide +kernel
theorem dX8_greatestLackOfDraft_97 : decode cX8_greatestLackOfDraft 97 = .ok (.ireturn, 1) := by decide +kernel
abbrev MX8_squareRoot : ZM := (yX8_squareRoot, cX8_squareRoot, 7, (Option.some FieldType.long), 0, 0)
theorem dX8_squareRoot_0 : decode cX8_squareRoot 0 = .ok (.lload_n 0, 1) := by decide +kernel
theorem dX8_squareRoot_1 : decode cX8_squareRoot 1 = .ok (.lconst 0, 1) := by decide +kernel
theorem dX8_squareRoot_2 : decode cX8_squareRoot 2 = .ok (.lcmp, 1) := by decide +kernel
theorem dX8_squareRoot_3 : decode cX8_squareRoot 3 = .ok (.ifCond .gt 5, 3) := by decide +kernel
theorem dX8_squareRoot_6 : decode cX8_squareRoot 6 = .ok (.lconst 0, 1) := by decide +kernel
theorem dX8_squareRoot_7 : decode cX8_squareRoot 7 = .ok (.lreturn, 1) := by decide +kernel
theorem dX8_squareRoot_8 : decode cX8_squareRoot 8 = .ok (.lconst 1, 1) := by decide +kernel
theorem dX8_squareRoot_9 : decode cX8_squareRoot 9 = .ok (.lstore_n 2, 1) := by decide +kernel
theorem dX8_squareRoot_10 : decode cX8_squareRoot 10 = .ok (.iconst 0, 1) := by decide +kernel
theorem dX8_squareRoot_11 : decode cX8_squareRoot 11 = .ok (.istore 4, 2) := by decide +kernel
theorem dX8_squareRoot_13 : decode cX8_squareRoot 13 = .ok (.iload 4, 2) := by decide +kernel
theorem dX8_squareRoot_15 : decode cX8_squareRoot 15 = .ok (.bipush 31, 2) := by decide +kernel
theorem dX8_squareRoot_17 : decode cX8_squareRoot 17 = .ok (.if_icmp .ge 23, 3) := by decide +kernel
theorem dX8_squareRoot_20 : decode cX8_squareRoot 20 = .ok (.lload_n 2, 1) := by decide +kernel
theorem dX8_squareRoot_21 : decode cX8_squareRoot 21 = .ok (.lload_n 2, 1) := by decide +kernel
theorem dX8_squareRoot_22 : decode cX8_squareRoot 22 = .ok (.lmul, 1) := by decide +kernel
theorem dX8_squareRoot_23 : decode cX8_squareRoot 23 = .ok (.lload_n 0, 1) := by decide +kernel
theorem dX8_squareRoot_24 : decode cX8_squareRoot 24 = .ok (.lcmp, 1) := by decide +kernel
theorem dX8_squareRoot_25 : decode cX8_squareRoot 25 = .ok (.ifCond .ge 15, 3) := by decide +kernel
theorem dX8_squareRoot_28 : decode cX8_squareRoot 28 = .ok (.lload_n 2, 1) := by decide +kernel
theorem dX8_squareRoot_29 : decode cX8_squareRoot 29 = .ok (.ldc2_w 348, 3) := by decide +kernel
theorem dX8_squareRoot_32 : decode cX8_squareRoot 32 = .ok (.lmul, 1) := by decide +kernel
theorem dX8_squareRoot_33 : decode cX8_squareRoot 33 = .ok (.lstore_n 2, 1) := by decide +kernel
theorem dX8_squareRoot_34 : decode cX8_squareRoot 34 = .ok (.iinc 4 1, 3) := by decide +kernel
theorem dX8_squareRoot_37 : decode cX8_squareRoot 37 = .ok (.goto (-24), 3) := by decide +kernel
theorem dX8_squareRoot_40 : decode cX8_squareRoot 40 = .ok (.iconst 0, 1) := by decide +kernel
theorem dX8_squareRoot_41 : decode cX8_squareRoot 41 = .ok (.istore 4, 2) := by decide +kernel
theorem dX8_squareRoot_43 : decode cX8_squareRoot 43 = .ok (.iload 4, 2) := by decide +kernel
theorem dX8_squareRoot_45 : decode cX8_squareRoot 45 = .ok (.bipush 64, 2) := by decide +kernel
theorem dX8_squareRoot_47 : decode cX8_squareRoot 47 = .ok (.if_icmp .ge 38, 3) := by decide +kernel
theorem dX8_squareRoot_50 : decode cX8_squareRoot 50 = .ok (.lload_n 2, 1) := by decide +kernel
theorem dX8_squareRoot_51 : decode cX8_squareRoot 51 = .ok (.lconst 0, 1) := by decide +kernel
theorem dX8_squareRoot_52 : decode cX8_squareRoot 52 = .ok (.lcmp, 1) := by decide +kernel
theorem dX8_squareRoot_53 : decode cX8_squareRoot 53 = .ok (.ifCond .le 32, 3) := by decide +kernel
theorem dX8_squareRoot_56 : decode cX8_squareRoot 56 = .ok (.lload_n 2, 1) := by decide +kernel
theorem dX8_squareRoot_57 : decode cX8_squareRoot 57 = .ok (.lload_n 0, 1) := by decide +kernel
theorem dX8_squareRoot_58 : decode cX8_squareRoot 58 = .ok (.lload_n 2, 1) := by decide +kernel
theorem dX8_squareRoot_59 : decode cX8_squareRoot 59 = .ok (.ldiv, 1) := by decide +kernel
theorem dX8_squareRoot_60 : decode cX8_squareRoot 60 = .ok (.ladd, 1) := by decide +kernel
theorem dX8_squareRoot_61 : decode cX8_squareRoot 61 = .ok (.ldc2_w 348, 3) := by decide +kernel
theorem dX8_squareRoot_64 : decode cX8_squareRoot 64 = .ok (.ldiv, 1) := by decide +kernel
theorem dX8_squareRoot_65 : decode cX8_squareRoot 65 = .ok (.lstore 5, 2) := by decide +kernel
theorem dX8_squareRoot_67 : decode cX8_squareRoot 67 = .ok (.lload 5, 2) := by decide +kernel
theorem dX8_squareRoot_69 : decode cX8_squareRoot 69 = .ok (.lload_n 2, 1) := by decide +kernel
theorem dX8_squareRoot_70 : decode cX8_squareRoot 70 = .ok (.lcmp, 1) := by decide +kernel
theorem dX8_squareRoot_71 : decode cX8_squareRoot 71 = .ok (.ifCond .lt 5, 3) := by decide +kernel
theorem dX8_squareRoot_74 : decode cX8_squareRoot 74 = .ok (.lload_n 2, 1) := by decide +kernel
theorem dX8_squareRoot_75 : decode cX8_squareRoot 75 = .ok (.lreturn, 1) := by decide +kernel
theorem dX8_squareRoot_76 : decode cX8_squareRoot 76 = .ok (.lload 5, 2) := by decide +kernel
theorem dX8_squareRoot_78 : decode cX8_squareRoot 78 = .ok (.lstore_n 2, 1) := by decide +kernel
theorem dX8_squareRoot_79 : decode cX8_squareRoot 79 = .ok (.iinc 4 1, 3) := by decide +kernel
theorem dX8_squareRoot_82 : decode cX8_squareRoot 82 = .ok (.goto (-39), 3) := by decide +kernel
theorem dX8_squareRoot_85 : decode cX8_squareRoot 85 = .ok (.lload_n 2, 1) := by decide +kernel
theorem dX8_squareRoot_86 : decode cX8_squareRoot 86 = .ok (.lreturn, 1) := by decide +kernel
