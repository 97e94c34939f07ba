section Init2
variable {g : ZG} {l : Launch} {Kd : ZK} {Rd : ZR} {n s0 c : Nat} {A J P : Nat → Nat → Int}
theorem FZ_JA : FZ JA 0 42 := by unfold JA; repeat (first | exact FZ_c | apply FZ_zup (by decide))
theorem FZ_RA : FZ RA none 42 := by unfold RA; repeat (first | exact FZ_c | apply FZ_zup (by decide))
def RR : ZR := (zup (zup (zup (zup (zup (zup (zup (zup (zup (zup (zup (zup (zup (zup (zup (zup (zup (zup (zup (zup (zup (zup (zup RA 42 0 (some 43)) 42 1 (some 44)) 42 3 (some 45)) 42 4 (some 46)) 42 6 (some 47)) 42 7 (some 48)) 42 9 (some 49)) 42 10 (some 50)) 42 13 (some 51)) 42 14 (some 52)) 42 15 (some 53)) 42 16 (some 54)) 42 20 (some 55)) 42 21 (some 56)) 42 24 (some 57)) 42 25 (some 58)) 42 27 (some 59)) 42 28 (some 60)) 42 29 (some 61)) 42 30 (some 62)) 42 31 (some 63)) 42 32 (some 64)) 42 33 (some 65))
def JR : Nat → Nat → Int := (zup (zup (zup (zup (zup (zup (zup (zup (zup (zup (zup (zup (zup (zup (zup (zup (zup (zup (zup (zup (zup (zup (zup (zup (zup (zup (zup (zup (zup (zup (zup (zup (zup (zup (zup (zup (zup (zup JA 56 0 (1)) 56 1 (2)) 56 2 (3)) 56 3 (5)) 56 4 (6)) 56 5 (7)) 56 6 (10)) 56 7 (14)) 56 8 (15)) 56 9 (1)) 56 10 (3)) 56 11 (5)) 56 12 (7)) 56 13 (11)) 56 14 (15)) 56 15 (33)) 56 16 (2)) 56 17 (3)) 56 18 (5)) 56 19 (7)) 56 20 (11)) 56 21 (13)) 56 22 (17)) 56 23 (19)) 56 24 (23)) 56 25 (29)) 56 26 (31)) 56 27 (37)) 56 28 (41)) 56 29 (43)) 56 30 (47)) 56 31 (67)) 56 32 (73)) 63 0 (-1)) 63 1 (-1)) 63 2 (-1)) 63 3 (-1)) 42 2 (0))
set_option maxHeartbeats 4000000 in
set_option maxRecDepth 100000 in
theorem cMX9_init  : ZC g l MX9_init [.ref 42] (KT 43, zi JA, zj Z0, RA, 43, s0) (fun rr hh => rr = none ∧ ∃ s' : Nat, hh = (KT 66, zi JR, zj Z0, RR, 66, s') ∧ s' ≤ s0 + 6000) := by
  refine ZC.of (by decide) (Nat.le_of_ble_eq_true rfl) ?_
  generalize hQ0 : (fun rr hh => rr = none ∧ ∃ s' : Nat, hh = (KT 66, zi JR, zj Z0, RR, 66, s') ∧ s' ≤ s0 + 6000 : Option Value → ZH → Prop) = Q0
  show Z g l MX9_init 0 [some (.ref 42)] [] (KT 43, zi JA, zj Z0, RA, 43, s0) Q0
  refine z_aload_n dX9_init_0 rfl rfl ?_
  refine z_objInit dX9_init_1 w_775 w_20 w_21 (by decide) (Nat.le_of_ble_eq_true rfl) ?_
  refine z_aload_n dX9_init_4 rfl rfl ?_
  refine c_sipush dX9_init_5 (by decide) ?_
  refine c_newi dX9_init_8 w_51 (by omega) ?_
  rw [show zkp (KT 43) 43 (1, (1184 : Int).toNat) = KT 44 from KT_s (by decide) rfl]
  rw [FZ_up (α := Int) (z := 0) (n := 43) (h := ?hj) (Nat.le_refl _)]
  case hj => repeat (first | exact FZ_c | exact FZ_mono FZ_JA (by decide) | apply FZ_zup (by decide))
  refine z_putR (ci := 9) (kf := 0) dX9_init_10 rfl (by decide) (by decide) rfl (by decide) (fun _ => rfl) (fun _ => rfl) w_776 ?_
  refine z_aload_n dX9_init_13 rfl rfl ?_
  refine c_bipush dX9_init_14 (by decide) ?_
  refine c_newi dX9_init_16 w_51 (by omega) ?_
  rw [show zkp (KT 44) 44 (1, (74 : Int).toNat) = KT 45 from KT_s (by decide) rfl]
  rw [FZ_up (α := Int) (z := 0) (n := 44) (h := ?hj) (Nat.le_refl _)]
  case hj => repeat (first | exact FZ_c | exact FZ_mono FZ_JA (by decide) | apply FZ_zup (by decide))
  refine z_putR (ci := 9) (kf := 1) dX9_init_18 rfl (by decide) (by decide) rfl (by decide) (fun _ => rfl) (fun _ => rfl) w_777 ?_
  refine z_aload_n dX9_init_21 rfl rfl ?_
  refine c_bipush dX9_init_22 (by decide) ?_
  refine c_newi dX9_init_24 w_51 (by omega) ?_
  rw [show zkp (KT 45) 45 (1, (30 : Int).toNat) = KT 46 from KT_s (by decide) rfl]
  rw [FZ_up (α := Int) (z := 0) (n := 45) (h := ?hj) (Nat.le_refl _)]
  case hj => repeat (first | exact FZ_c | exact FZ_mono FZ_JA (by decide) | apply FZ_zup (by decide))
  refine z_putR (ci := 9) (kf := 3) dX9_init_26 rfl (by decide) (by decide) rfl (by decide) (fun _ => rfl) (fun _ => rfl) w_779 ?_
  refine z_aload_n dX9_init_29 rfl rfl ?_
  refine c_bipush dX9_init_30 (by decide) ?_
  refine c_newi dX9_init_32 w_51 (by omega) ?_
  rw [show zkp (KT 46) 46 (1, (30 : Int).toNat) = KT 47 from KT_s (by decide) rfl]
  rw [FZ_up (α := Int) (z := 0) (n := 46) (h := ?hj) (Nat.le_refl _)]
  case hj => repeat (first | exact FZ_c | exact FZ_mono FZ_JA (by decide) | apply FZ_zup (by decide))
  refine z_putR (ci := 9) (kf := 4) dX9_init_34 rfl (by decide) (by decide) rfl (by decide) (fun _ => rfl) (fun _ => rfl) w_780 ?_
  refine z_aload_n dX9_init_37 rfl rfl ?_
  refine c_bipush dX9_init_38 (by decide) ?_
  refine c_newi dX9_init_40 w_51 (by omega) ?_
  rw [show zkp (KT 47) 47 (1, (30 : Int).toNat) = KT 48 from KT_s (by decide) rfl]
  rw [FZ_up (α := Int) (z := 0) (n := 47) (h := ?hj) (Nat.le_refl _)]
  case hj => repeat (first | exact FZ_c | exact FZ_mono FZ_JA (by decide) | apply FZ_zup (by decide))
  refine z_putR (ci := 9) (kf := 6) dX9_init_42 rfl (by decide) (by decide) rfl (by decide) (fun _ => rfl) (fun _ => rfl) w_782 ?_
  refine z_aload_n dX9_init_45 rfl rfl ?_
  refine c_bipush dX9_init_46 (by decide) ?_
  refine c_newi dX9_init_48 w_51 (by omega) ?_
  rw [show zkp (KT 48) 48 (1, (30 : Int).toNat) = KT 49 from KT_s (by decide) rfl]
  rw [FZ_up (α := Int) (z := 0) (n := 48) (h := ?hj) (Nat.le_refl _)]
  case hj => repeat (first | exact FZ_c | exact FZ_mono FZ_JA (by decide) | apply FZ_zup (by decide))
  refine z_putR (ci := 9) (kf := 7) dX9_init_50 rfl (by decide) (by decide) rfl (by decide) (fun _ => rfl) (fun _ => rfl) w_783 ?_
  refine z_aload_n dX9_init_53 rfl rfl ?_
  refine c_bipush dX9_init_54 (by decide) ?_
  refine c_newl dX9_init_56 w_104 (by omega) ?_
  rw [show zkp (KT 49) 49 (2, (16 : Int).toNat) = KT 50 from KT_s (by decide) rfl]
  rw [FZ_up (α := Int) (z := 0) (n := 49) (h := ?hj) (Nat.le_refl _)]
  case hj => repeat (first | exact FZ_c | exact FZ_mono FZ_JA (by decide) | apply FZ_zup (by decide))
  refine z_putR (ci := 9) (kf := 9) dX9_init_58 rfl (by decide) (by decide) rfl (by decide) (fun _ => rfl) (fun _ => rfl) w_785 ?_
  refine z_aload_n dX9_init_61 rfl rfl ?_
  refine c_iconst dX9_init_62 ?_
  refine c_newl dX9_init_63 w_104 (by omega) ?_
  rw [show zkp (KT 50) 50 (2, (4 : Int).toNat) = KT 51 from KT_s (by decide) rfl]
  rw [FZ_up (α := Int) (z := 0) (n := 50) (h := ?hj) (Nat.le_refl _)]
  case hj => repeat (first | exact FZ_c | exact FZ_mono FZ_JA (by decide) | apply FZ_zup (by decide))
  refine z_putR (ci := 9) (kf := 10) dX9_init_65 rfl (by decide) (by decide) rfl (by decide) (fun _ => rfl) (fun _ => rfl) w_786 ?_
  refine z_aload_n dX9_init_68 rfl rfl ?_
  refine c_iconst dX9_init_69 ?_
  refine c_newl dX9_init_70 w_104 (by omega) ?_
  rw [show zkp (KT 51) 51 (2, (4 : Int).toNat) = KT 52 from KT_s (by decide) rfl]
  rw [FZ_up (α := Int) (z := 0) (n := 51) (h := ?hj) (Nat.le_refl _)]
  case hj => repeat (first | exact FZ_c | exact FZ_mono FZ_JA (by decide) | apply FZ_zup (by decide))
  refine z_putR (ci := 9) (kf := 13) dX9_init_72 rfl (by decide) (by decide) rfl (by decide) (fun _ => rfl) (fun _ => rfl) w_789 ?_
  refine z_aload_n dX9_init_75 rfl rfl ?_
  refine c_bipush dX9_init_76 (by decide) ?_
  refine c_newi dX9_init_78 w_51 (by omega) ?_
  rw [show zkp (KT 52) 52 (1, (101 : Int).toNat) = KT 53 from KT_s (by decide) rfl]
  rw [FZ_up (α := Int) (z := 0) (n := 52) (h := ?hj) (Nat.le_refl _)]
  case hj => repeat (first | exact FZ_c | exact FZ_mono FZ_JA (by decide) | apply FZ_zup (by decide))
  refine z_putR (ci := 9) (kf := 14) dX9_init_80 rfl (by decide) (by decide) rfl (by decide) (fun _ => rfl) (fun _ => rfl) w_790 ?_
  refine z_aload_n dX9_init_83 rfl rfl ?_
  refine c_bipush dX9_init_84 (by decide) ?_
  refine c_newi dX9_init_86 w_51 (by omega) ?_
  rw [show zkp (KT 53) 53 (1, (101 : Int).toNat) = KT 54 from KT_s (by decide) rfl]
  rw [FZ_up (α := Int) (z := 0) (n := 53) (h := ?hj) (Nat.le_refl _)]
  case hj => repeat (first | exact FZ_c | exact FZ_mono FZ_JA (by decide) | apply FZ_zup (by decide))
  refine z_putR (ci := 9) (kf := 15) dX9_init_88 rfl (by decide) (by decide) rfl (by decide) (fun _ => rfl) (fun _ => rfl) w_791 ?_
  refine z_aload_n dX9_init_91 rfl rfl ?_
  refine c_sipush dX9_init_92 (by decide) ?_
  refine c_newi dX9_init_95 w_51 (by omega) ?_
  rw [show zkp (KT 54) 54 (1, (404 : Int).toNat) = KT 55 from KT_s (by decide) rfl]
  rw [FZ_up (α := Int) (z := 0) (n := 54) (h := ?hj) (Nat.le_refl _)]
  case hj => repeat (first | exact FZ_c | exact FZ_mono FZ_JA (by decide) | apply FZ_zup (by decide))
  refine z_putR (ci := 9) (kf := 16) dX9_init_97 rfl (by decide) (by decide) rfl (by decide) (fun _ => rfl) (fun _ => rfl) w_792 ?_
  refine z_aload_n dX9_init_100 rfl rfl ?_
  refine c_bipush dX9_init_101 (by decide) ?_
  refine c_newi dX9_init_103 w_51 (by omega) ?_
  rw [show zkp (KT 55) 55 (1, (17 : Int).toNat) = KT 56 from KT_s (by decide) rfl]
  rw [FZ_up (α := Int) (z := 0) (n := 55) (h := ?hj) (Nat.le_refl _)]
  case hj => repeat (first | exact FZ_c | exact FZ_mono FZ_JA (by decide) | apply FZ_zup (by decide))
  refine z_putR (ci := 9) (kf := 20) dX9_init_105 rfl (by decide) (by decide) rfl (by decide) (fun _ => rfl) (fun _ => rfl) w_796 ?_
  refine z_aload_n dX9_init_108 rfl rfl ?_
  refine c_bipush dX9_init_109 (by decide) ?_
  refine c_newi dX9_init_111 w_51 (by omega) ?_
  rw [show zkp (KT 56) 56 (1, (33 : Int).toNat) = KT 57 from KT_s (by decide) rfl]
  rw [FZ_up (α := Int) (z := 0) (n := 56) (h := ?hj) (Nat.le_refl _)]
  case hj => repeat (first | exact FZ_c | exact FZ_mono FZ_JA (by decide) | apply FZ_zup (by decide))
  refine z_dup dX9_init_113 rfl ?_
  refine c_iconst dX9_init_114 ?_
  refine c_iconst dX9_init_115 ?_
  refine c_iast dX9_init_116 rfl (by omega) (by decide) ?_
  refine z_dup dX9_init_117 rfl ?_
  refine c_iconst dX9_init_118 ?_
  refine c_iconst dX9_init_119 ?_
  refine c_iast dX9_init_120 rfl (by omega) (by decide) ?_
  refine z_dup dX9_init_121 rfl ?_
  refine c_iconst dX9_init_122 ?_
  refine c_iconst dX9_init_123 ?_
  refine c_iast dX9_init_124 rfl (by omega) (by decide) ?_
  refine z_dup dX9_init_125 rfl ?_
  refine c_iconst dX9_init_126 ?_
  refine c_iconst dX9_init_127 ?_
  refine c_iast dX9_init_128 rfl (by omega) (by decide) ?_
  refine z_dup dX9_init_129 rfl ?_
  refine c_iconst dX9_init_130 ?_
  refine c_bipush dX9_init_131 (by decide) ?_
  refine c_iast dX9_init_133 rfl (by omega) (by decide) ?_
  refine z_dup dX9_init_134 rfl ?_
  refine c_iconst dX9_init_135 ?_
  refine c_bipush dX9_init_136 (by decide) ?_
  refine c_iast dX9_init_138 rfl (by omega) (by decide) ?_
  refine z_dup dX9_init_139 rfl ?_
  refine c_bipush dX9_init_140 (by decide) ?_
  refine c_bipush dX9_init_142 (by decide) ?_
  refine c_iast dX9_init_144 rfl (by omega) (by decide) ?_
  refine z_dup dX9_init_145 rfl ?_
  refine c_bipush dX9_init_146 (by decide) ?_
  refine c_bipush dX9_init_148 (by decide) ?_
  refine c_iast dX9_init_150 rfl (by omega) (by decide) ?_
  refine z_dup dX9_init_151 rfl ?_
  refine c_bipush dX9_init_152 (by decide) ?_
  refine c_bipush dX9_init_154 (by decide) ?_
  refine c_iast dX9_init_156 rfl (by omega) (by decide) ?_
  refine z_dup dX9_init_157 rfl ?_
  refine c_bipush dX9_init_158 (by decide) ?_
  refine c_iconst dX9_init_160 ?_
  refine c_iast dX9_init_161 rfl (by omega) (by decide) ?_
  refine z_dup dX9_init_162 rfl ?_
  refine c_bipush dX9_init_163 (by decide) ?_
  refine c_iconst dX9_init_165 ?_
  refine c_iast dX9_init_166 rfl (by omega) (by decide) ?_
  refine z_dup dX9_init_167 rfl ?_
  refine c_bipush dX9_init_168 (by decide) ?_
  refine c_iconst dX9_init_170 ?_
  refine c_iast dX9_init_171 rfl (by omega) (by decide) ?_
  refine z_dup dX9_init_172 rfl ?_
  refine c_bipush dX9_init_173 (by decide) ?_
  refine c_bipush dX9_init_175 (by decide) ?_
  refine c_iast dX9_init_177 rfl (by omega) (by decide) ?_
  refine z_dup dX9_init_178 rfl ?_
  refine c_bipush dX9_init_179 (by decide) ?_
  refine c_bipush dX9_init_181 (by decide) ?_
  refine c_iast dX9_init_183 rfl (by omega) (by decide) ?_
  refine z_dup dX9_init_184 rfl ?_
  refine c_bipush dX9_init_185 (by decide) ?_
  refine c_bipush dX9_init_187 (by decide) ?_
  refine c_iast dX9_init_189 rfl (by omega) (by decide) ?_
  refine z_dup dX9_init_190 rfl ?_
  refine c_bipush dX9_init_191 (by decide) ?_
  refine c_bipush dX9_init_193 (by decide) ?_
  refine c_iast dX9_init_195 rfl (by omega) (by decide) ?_
  refine z_dup dX9_init_196 rfl ?_
  refine c_bipush dX9_init_197 (by decide) ?_
  refine c_iconst dX9_init_199 ?_
  refine c_iast dX9_init_200 rfl (by omega) (by decide) ?_
  refine z_dup dX9_init_201 rfl ?_
  refine c_bipush dX9_init_202 (by decide) ?_
  refine c_iconst dX9_init_204 ?_
  refine c_iast dX9_init_205 rfl (by omega) (by decide) ?_
  refine z_dup dX9_init_206 rfl ?_
  refine c_bipush dX9_init_207 (by decide) ?_
  refine c_iconst dX9_init_209 ?_
  refine c_iast dX9_init_210 rfl (by omega) (by decide) ?_
  refine z_dup dX9_init_211 rfl ?_
  refine c_bipush dX9_init_212 (by decide) ?_
  refine c_bipush dX9_init_214 (by decide) ?_
  refine c_iast dX9_init_216 rfl (by omega) (by decide) ?_
  refine z_dup dX9_init_217 rfl ?_
  refine c_bipush dX9_init_218 (by decide) ?_
  refine c_bipush dX9_init_220 (by decide) ?_
  refine c_iast dX9_init_222 rfl (by omega) (by decide) ?_
  refine z_dup dX9_init_223 rfl ?_
  refine c_bipush dX9_init_224 (by decide) ?_
  refine c_bipush dX9_init_226 (by decide) ?_
  refine c_iast dX9_init_228 rfl (by omega) (by decide) ?_
  refine z_dup dX9_init_229 rfl ?_
  refine c_bipush dX9_init_230 (by decide) ?_
  refine c_bipush dX9_init_232 (by decide) ?_
  refine c_iast dX9_init_234 rfl (by omega) (by decide) ?_
  refine z_dup dX9_init_235 rfl ?_
  refine c_bipush dX9_init_236 (by decide) ?_
  refine c_bipush dX9_init_238 (by decide) ?_
  refine c_iast dX9_init_240 rfl (by omega) (by decide) ?_
  refine z_dup dX9_init_241 rfl ?_
  refine c_bipush dX9_init_242 (by decide) ?_
  refine c_bipush dX9_init_244 (by decide) ?_
  refine c_iast dX9_init_246 rfl (by omega) (by decide) ?_
  refine z_dup dX9_init_247 rfl ?_
  refine c_bipush dX9_init_248 (by decide) ?_
  refine c_bipush dX9_init_250 (by decide) ?_
  refine c_iast dX9_init_252 rfl (by omega) (by decide) ?_
  refine z_dup dX9_init_253 rfl ?_
  refine c_bipush dX9_init_254 (by decide) ?_
  refine c_bipush dX9_init_256 (by decide) ?_
  refine c_iast dX9_init_258 rfl (by omega) (by decide) ?_
  refine z_dup dX9_init_259 rfl ?_
  refine c_bipush dX9_init_260 (by decide) ?_
  refine c_bipush dX9_init_262 (by decide) ?_
  refine c_iast dX9_init_264 rfl (by omega) (by decide) ?_
  refine z_dup dX9_init_265 rfl ?_
  refine c_bipush dX9_init_266 (by decide) ?_
  refine c_bipush dX9_init_268 (by decide) ?_
  refine c_iast dX9_init_270 rfl (by omega) (by decide) ?_
  refine z_dup dX9_init_271 rfl ?_
  refine c_bipush dX9_init_272 (by decide) ?_
  refine c_bipush dX9_init_274 (by decide) ?_
  refine c_iast dX9_init_276 rfl (by omega) (by decide) ?_
  refine z_dup dX9_init_277 rfl ?_
  refine c_bipush dX9_init_278 (by decide) ?_
  refine c_bipush dX9_init_280 (by decide) ?_
  refine c_iast dX9_init_282 rfl (by omega) (by decide) ?_
  refine z_dup dX9_init_283 rfl ?_
  refine c_bipush dX9_init_284 (by decide) ?_
  refine c_bipush dX9_init_286 (by decide) ?_
  refine c_iast dX9_init_288 rfl (by omega) (by decide) ?_
  refine z_dup dX9_init_289 rfl ?_
  refine c_bipush dX9_init_290 (by decide) ?_
  refine c_bipush dX9_init_292 (by decide) ?_
  refine c_iast dX9_init_294 rfl (by omega) (by decide) ?_
  refine z_putR (ci := 9) (kf := 21) dX9_init_295 rfl (by decide) (by decide) rfl (by decide) (fun _ => rfl) (fun _ => rfl) w_797 ?_
  refine z_aload_n dX9_init_298 rfl rfl ?_
  refine c_iconst dX9_init_299 ?_
  refine c_newi dX9_init_300 w_51 (by omega) ?_
  rw [show zkp (KT 57) 57 (1, (3 : Int).toNat) = KT 58 from KT_s (by decide) rfl]
  rw [FZ_up (α := Int) (z := 0) (n := 57) (h := ?hj) (Nat.le_refl _)]
  case hj => repeat (first | exact FZ_c | exact FZ_mono FZ_JA (by decide) | apply FZ_zup (by decide))
  refine z_putR (ci := 9) (kf := 24) dX9_init_302 rfl (by decide) (by decide) rfl (by decide) (fun _ => rfl) (fun _ => rfl) w_800 ?_
  refine z_aload_n dX9_init_305 rfl rfl ?_
  refine c_iconst dX9_init_306 ?_
  refine c_newi dX9_init_307 w_51 (by omega) ?_
  rw [show zkp (KT 58) 58 (1, (3 : Int).toNat) = KT 59 from KT_s (by decide) rfl]
  rw [FZ_up (α := Int) (z := 0) (n := 58) (h := ?hj) (Nat.le_refl _)]
  case hj => repeat (first | exact FZ_c | exact FZ_mono FZ_JA (by decide) | apply FZ_zup (by decide))
  refine z_putR (ci := 9) (kf := 25) dX9_init_309 rfl (by decide) (by decide) rfl (by decide) (fun _ => rfl) (fun _ => rfl) w_801 ?_
  refine z_aload_n dX9_init_312 rfl rfl ?_
  refine c_bipush dX9_init_313 (by decide) ?_
  refine c_newi dX9_init_315 w_51 (by omega) ?_
  rw [show zkp (KT 59) 59 (1, (30 : Int).toNat) = KT 60 from KT_s (by decide) rfl]
  rw [FZ_up (α := Int) (z := 0) (n := 59) (h := ?hj) (Nat.le_refl _)]
  case hj => repeat (first | exact FZ_c | exact FZ_mono FZ_JA (by decide) | apply FZ_zup (by decide))
  refine z_putR (ci := 9) (kf := 27) dX9_init_317 rfl (by decide) (by decide) rfl (by decide) (fun _ => rfl) (fun _ => rfl) w_803 ?_
  refine z_aload_n dX9_init_320 rfl rfl ?_
  refine c_bipush dX9_init_321 (by decide) ?_
  refine c_newi dX9_init_323 w_51 (by omega) ?_
  rw [show zkp (KT 60) 60 (1, (30 : Int).toNat) = KT 61 from KT_s (by decide) rfl]
  rw [FZ_up (α := Int) (z := 0) (n := 60) (h := ?hj) (Nat.le_refl _)]
  case hj => repeat (first | exact FZ_c | exact FZ_mono FZ_JA (by decide) | apply FZ_zup (by decide))
  refine z_putR (ci := 9) (kf := 28) dX9_init_325 rfl (by decide) (by decide) rfl (by decide) (fun _ => rfl) (fun _ => rfl) w_804 ?_
  refine z_aload_n dX9_init_328 rfl rfl ?_
  refine c_bipush dX9_init_329 (by decide) ?_
  refine c_newi dX9_init_331 w_51 (by omega) ?_
  rw [show zkp (KT 61) 61 (1, (30 : Int).toNat) = KT 62 from KT_s (by decide) rfl]
  rw [FZ_up (α := Int) (z := 0) (n := 61) (h := ?hj) (Nat.le_refl _)]
  case hj => repeat (first | exact FZ_c | exact FZ_mono FZ_JA (by decide) | apply FZ_zup (by decide))
  refine z_putR (ci := 9) (kf := 29) dX9_init_333 rfl (by decide) (by decide) rfl (by decide) (fun _ => rfl) (fun _ => rfl) w_805 ?_
  refine z_aload_n dX9_init_336 rfl rfl ?_
  refine c_bipush dX9_init_337 (by decide) ?_
  refine c_newi dX9_init_339 w_51 (by omega) ?_
  rw [show zkp (KT 62) 62 (1, (30 : Int).toNat) = KT 63 from KT_s (by decide) rfl]
  rw [FZ_up (α := Int) (z := 0) (n := 62) (h := ?hj) (Nat.le_refl _)]
  case hj => repeat (first | exact FZ_c | exact FZ_mono FZ_JA (by decide) | apply FZ_zup (by decide))
  refine z_putR (ci := 9) (kf := 30) dX9_init_341 rfl (by decide) (by decide) rfl (by decide) (fun _ => rfl) (fun _ => rfl) w_806 ?_
  refine z_aload_n dX9_init_344 rfl rfl ?_
  refine c_iconst dX9_init_345 ?_
  refine c_newi dX9_init_346 w_51 (by omega) ?_
  rw [show zkp (KT 63) 63 (1, (4 : Int).toNat) = KT 64 from KT_s (by decide) rfl]
  rw [FZ_up (α := Int) (z := 0) (n := 63) (h := ?hj) (Nat.le_refl _)]
  case hj => repeat (first | exact FZ_c | exact FZ_mono FZ_JA (by decide) | apply FZ_zup (by decide))
  refine z_dup dX9_init_348 rfl ?_
  refine c_iconst dX9_init_349 ?_
  refine c_iconst dX9_init_350 ?_
  refine c_iast dX9_init_351 rfl (by omega) (by decide) ?_
  refine z_dup dX9_init_352 rfl ?_
  refine c_iconst dX9_init_353 ?_
  refine c_iconst dX9_init_354 ?_
  refine c_iast dX9_init_355 rfl (by omega) (by decide) ?_
  refine z_dup dX9_init_356 rfl ?_
  refine c_iconst dX9_init_357 ?_
  refine c_iconst dX9_init_358 ?_
  refine c_iast dX9_init_359 rfl (by omega) (by decide) ?_
  refine z_dup dX9_init_360 rfl ?_
  refine c_iconst dX9_init_361 ?_
  refine c_iconst dX9_init_362 ?_
  refine c_iast dX9_init_363 rfl (by omega) (by decide) ?_
  refine z_putR (ci := 9) (kf := 31) dX9_init_364 rfl (by decide) (by decide) rfl (by decide) (fun _ => rfl) (fun _ => rfl) w_807 ?_
  refine z_aload_n dX9_init_367 rfl rfl ?_
  refine c_iconst dX9_init_368 ?_
  refine c_newi dX9_init_369 w_51 (by omega) ?_
  rw [show zkp (KT 64) 64 (1, (4 : Int).toNat) = KT 65 from KT_s (by decide) rfl]
  rw [FZ_up (α := Int) (z := 0) (n := 64) (h := ?hj) (Nat.le_refl _)]
  case hj => repeat (first | exact FZ_c | exact FZ_mono FZ_JA (by decide) | apply FZ_zup (by decide))
  refine z_putR (ci := 9) (kf := 32) dX9_init_371 rfl (by decide) (by decide) rfl (by decide) (fun _ => rfl) (fun _ => rfl) w_808 ?_
  refine z_aload_n dX9_init_374 rfl rfl ?_
  refine c_sipush dX9_init_375 (by decide) ?_
  refine c_newi dX9_init_378 w_51 (by omega) ?_
  rw [show zkp (KT 65) 65 (1, (160 : Int).toNat) = KT 66 from KT_s (by decide) rfl]
  rw [FZ_up (α := Int) (z := 0) (n := 65) (h := ?hj) (Nat.le_refl _)]
  case hj => repeat (first | exact FZ_c | exact FZ_mono FZ_JA (by decide) | apply FZ_zup (by decide))
  refine z_putR (ci := 9) (kf := 33) dX9_init_380 rfl (by decide) (by decide) rfl (by decide) (fun _ => rfl) (fun _ => rfl) w_809 ?_
  refine z_aload_n dX9_init_383 rfl rfl ?_
  refine c_iconst dX9_init_384 ?_
  refine c_putI (ci := 9) (kf := 2) dX9_init_385 rfl (by decide) (by decide) rfl (by decide) w_778 ?_
  refine z_return dX9_init_388 rfl ?_
  subst hQ0; exact ⟨rfl, _, rfl, by omega⟩
def KZ : ZK := fun _ => (0, 0)
def RZ : ZR := fun a k => if a = 40 ∧ k = 3 then some 41 else none
theorem KZ_e : KT 66 = KF KZ := by
  funext a
  unfold KT KF KZ
  by_cases h : a < 66
  · rw [if_pos h]
    by_cases h4 : a < 4
    · rw [if_pos h4, if_neg (by omega)]
    · rw [if_neg h4, if_pos (by omega)]
  · rw [if_neg h, if_neg (by omega)]
def lo (R : ZR) : Prop := ∀ a k, 66 ≤ a ∨ 34 ≤ k → R a k = none
theorem lo_zup {R : ZR} {a k : Nat} {x : Option Nat} (ha : a < 66) (hk : k < 34) (h : lo R) : lo (zup R a k x) := fun b j hb => by
  by_cases e : b = a
  · subst e; rw [zzi (by omega)]; exact h b j hb
  · rw [zzr e]; exact h b j hb
theorem lo_RN : lo RN := fun _ _ _ => rfl
theorem lo_RA : lo RA := by unfold RA; repeat (first | exact lo_RN | apply lo_zup (by decide) (by decide))
theorem lo_RR : lo RR := by unfold RR; repeat (first | exact lo_RA | apply lo_zup (by decide) (by decide))
theorem rst_hi {a k : Nat} (h : 34 ≤ k) : rst a k = none := by
  unfold rst
  split <;> (try split) <;> first | rfl | omega
theorem RR_in : ∀ (a : Fin 66) (k : Fin 34), RR a.val k.val = RF RZ a.val k.val := by decide +kernel
theorem RZ_e : RR = RF RZ := by
  funext a k
  by_cases h : 66 ≤ a ∨ 34 ≤ k
  · rw [lo_RR a k h]
    by_cases ha : 66 ≤ a
    · rw [RF_dyn ha]; unfold RZ; rw [if_neg (by omega)]
    · have hk : 34 ≤ k := by omega
      have e : RZ a k = none := by unfold RZ; rw [if_neg (by omega)]
      unfold RF
      simp [rst_hi hk, e]
  · exact RR_in ⟨a, by omega⟩ ⟨k, by omega⟩
theorem okR_0 : okR JR := by
  have h : ∀ q : Fin 33, JR 56 q.val = ruleT.getD q.val 0 := by decide +kernel
  exact fun q hq => h ⟨q, hq⟩
theorem WD_0 (hs : s0 ≤ 20000) : WD JR 0 KZ JR RZ 66 s0 := by
  have nf : ∀ n r, ¬ isF KZ n r := fun n r h => by have := h.2.2; cases this
  have z44 : ∀ q, JR 44 q = 0 := fun _ => rfl
  have z422 : JR 42 2 = 0 := rfl
  have z425 : JR 42 5 = 0 := rfl
  have z428 : JR 42 8 = 0 := rfl
  have c0 : ∀ k, cnt (lckT KZ RZ k) 66 = 0 := fun k => cnt_none (fun i hi => by unfold lckT; rw [decide_eq_false (show ¬ KZ i = (13, 0) from fun z => by cases z)]; rfl)
  refine ⟨Nat.le_refl _, ⟨fun r h => absurd h (nf 66 r), fun r q b h => absurd h (nf 66 r)⟩, ⟨fun s hs => Or.inl ⟨rfl, rfl⟩, fun s hs => Or.inl ⟨rfl, rfl⟩, ⟨rfl, fun k hk => by rw [z422] at hk; omega⟩, ⟨rfl, fun k hk => by rw [z425] at hk; omega⟩, fun k hk => ⟨Or.inl rfl, Or.inl rfl⟩, rfl, fun q hq => ?_⟩, ⟨fun q hq => Or.inl rfl, ?_, ?_⟩, 41, 0, ⟨⟨rfl, rfl, by decide, Or.inl rfl⟩, Or.inl rfl⟩, ?_⟩
  · rcases (show q = 0 ∨ q = 1 ∨ q = 2 ∨ q = 3 by omega) with rfl | rfl | rfl | rfl <;> exact ⟨rfl, rfl, fun i hi => rfl⟩
  · refine ⟨⟨by decide, by decide, fun z => absurd z (by decide), fun k h1 h2 => by rw [z422] at h2; omega, fun k hk => ⟨by show rI 0; omega, by show rI 0; omega⟩⟩, ⟨by decide, by decide, fun z => absurd z (by decide), fun k h1 h2 => by rw [z425] at h2; omega, fun k hk => ⟨by show rI 0; omega, by show rI 0; omega⟩⟩, Or.inl rfl, fun k hk => by rw [z422] at hk; omega, fun k hk => by rw [z425] at hk; omega⟩
  · refine ⟨fun q hq => ?_, fun q hq => by show rI 0; omega⟩
    rcases (show q = 0 ∨ q = 1 ∨ q = 2 ∨ q = 3 by omega) with rfl | rfl | rfl | rfl <;> exact ⟨Or.inl ⟨rfl, rfl⟩, by decide, by decide⟩
  · unfold RM
    rw [c0, c0]
    simp
    omega
theorem WD_room {A : Nat → Nat → Int} (h : WD A c Kd J Rd n s0) (hc : c ≤ 512) : n ≤ 600004 ∧ s0 ≤ 7302250 := by
  obtain ⟨_, _, _, _, rw, j, ⟨⟨_, _, hj, _⟩, _⟩, h6⟩ := h
  have p := Nat.pow_le_pow_right (n := 2) (by decide) hj
  have e15 : (2 : Nat) ^ 15 = 32768 := rfl
  have b4 := cnt_bd (lckT Kd Rd 4) n
  have b5 := cnt_bd (lckT Kd Rd 5) n
  unfold RM at h6
  generalize hp : 2 ^ j = y at *
  omega
end Init2
