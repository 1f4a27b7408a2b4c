def arrM (k : Nat) : AC := if k = 8 then bar 16 (fun _ => 0) else if k = 17 ∨ k = 18 then iar 16 (fun _ => 0) else if k = 21 then iar 8 (fun _ => 0) else lar (mlen k) (fun _ => 0)
def iH (h : Hp) (m k : Nat) : Hp := fun y => if m < y ∧ y ≤ m + k then some (arrM (y - m)) else h y
theorem iH_0 (h : Hp) (m : Nat) : iH h m 0 = h := by funext y; unfold iH; rw [if_neg (by omega)]
theorem iH_s {h : Hp} {m k : Nat} {v w : AC} (e : w = arrM (k + 1)) : hup (hup (iH h m k) m v) (m + k + 1) w = hup (iH h m (k + 1)) m v := by
  funext y
  unfold hup iH
  by_cases h1 : y = m + k + 1
  · rw [if_pos h1, if_neg (by omega), if_pos (by omega), e, h1, show m + k + 1 - m = k + 1 by omega]
  · rw [if_neg h1]
    by_cases h2 : y = m
    · rw [if_pos h2, if_pos h2]
    · rw [if_neg h2, if_neg h2]
      by_cases h3 : m < y ∧ y ≤ m + k
      · rw [if_pos h3, if_pos (by omega)]
      · rw [if_neg h3, if_neg (by omega)]
theorem ct_X8_init (m : Nat) (h : Hp) (hm : h m = some (.inr (8, [.null, .null, .null, .null, .null, .null, .null, .null, .null, .null, .null, .null, .null, .null, .null, .null, .int 0, .null, .null, .null, .null, .int 0, .null, .null, .null, .null, .null, .null, .null, .null, .null, .int 0, .null, .null, .int 0, .int 0, .int 0, .int 0, .int 0]))) : CT mX8_init 31 25292 (m + 1) h [.ref m] (fun r n' h' => r = none ∧ m + 32 = n' ∧ MRep h' m S0 ∧ ∀ y, y < m ∨ m + 32 ≤ y → h' y = h y) := by
  refine CT.intro [some (.ref m)] 0 rfl rfl (by decide) ?_
  intro Q hQ
  refine AW.hp (show h = hup (iH h m 0) m (.inr (8, [.null, .null, .null, .null, .null, .null, .null, .null, .null, .null, .null, .null, .null, .null, .null, .null, .int 0, .null, .null, .null, .null, .int 0, .null, .null, .null, .null, .null, .null, .null, .null, .null, .int 0, .null, .null, .int 0, .int 0, .int 0, .int 0, .int 0])) by rw [iH_0, hup_id hm]) ?_
  refine aw_aload_n (i := 0) dX8_init_0 rfl rfl ?_
  refine aw_objinit kX8_1 obj_i obj_c dX8_init_1 (by decide) (Nat.le_of_ble_eq_true rfl) ?_
  refine aw_aload_n (i := 0) dX8_init_4 rfl rfl ?_
  refine aw_bipush (v := 96) dX8_init_5 (by decide +kernel) ?_
  refine aw_newlong dX8_init_7 96 (by decide +kernel) (by decide) (Nat.le_of_ble_eq_true rfl) (Nat.le_of_ble_eq_true rfl) ?_
  refine AW.hp (iH_s (k := 0) rfl) ?_
  refine aw_putfinal fX8_7 rfl dX8_init_9 (hup_self _ _ _) rfl rfl (Nat.le_of_ble_eq_true rfl) ?_
  dsimp only [List.set]
  rw [hup_hup]
  refine aw_aload_n (i := 0) dX8_init_12 rfl rfl ?_
  refine aw_bipush (v := 96) dX8_init_13 (by decide +kernel) ?_
  refine aw_newlong dX8_init_15 96 (by decide +kernel) (by decide) (Nat.le_of_ble_eq_true rfl) (Nat.le_of_ble_eq_true rfl) ?_
  refine AW.hp (iH_s (k := 1) rfl) ?_
  refine aw_putfinal fX8_13 rfl dX8_init_17 (hup_self _ _ _) rfl rfl (Nat.le_of_ble_eq_true rfl) ?_
  dsimp only [List.set]
  rw [hup_hup]
  refine aw_aload_n (i := 0) dX8_init_20 rfl rfl ?_
  refine aw_bipush (v := 96) dX8_init_21 (by decide +kernel) ?_
  refine aw_newlong dX8_init_23 96 (by decide +kernel) (by decide) (Nat.le_of_ble_eq_true rfl) (Nat.le_of_ble_eq_true rfl) ?_
  refine AW.hp (iH_s (k := 2) rfl) ?_
  refine aw_putfinal fX8_16 rfl dX8_init_25 (hup_self _ _ _) rfl rfl (Nat.le_of_ble_eq_true rfl) ?_
  dsimp only [List.set]
  rw [hup_hup]
  refine aw_aload_n (i := 0) dX8_init_28 rfl rfl ?_
  refine aw_bipush (v := 96) dX8_init_29 (by decide +kernel) ?_
  refine aw_newlong dX8_init_31 96 (by decide +kernel) (by decide) (Nat.le_of_ble_eq_true rfl) (Nat.le_of_ble_eq_true rfl) ?_
  refine AW.hp (iH_s (k := 3) rfl) ?_
  refine aw_putfinal fX8_19 rfl dX8_init_33 (hup_self _ _ _) rfl rfl (Nat.le_of_ble_eq_true rfl) ?_
  dsimp only [List.set]
  rw [hup_hup]
  refine aw_aload_n (i := 0) dX8_init_36 rfl rfl ?_
  refine aw_bipush (v := 96) dX8_init_37 (by decide +kernel) ?_
  refine aw_newlong dX8_init_39 96 (by decide +kernel) (by decide) (Nat.le_of_ble_eq_true rfl) (Nat.le_of_ble_eq_true rfl) ?_
  refine AW.hp (iH_s (k := 4) rfl) ?_
  refine aw_putfinal fX8_22 rfl dX8_init_41 (hup_self _ _ _) rfl rfl (Nat.le_of_ble_eq_true rfl) ?_
  dsimp only [List.set]
  rw [hup_hup]
  refine aw_aload_n (i := 0) dX8_init_44 rfl rfl ?_
  refine aw_sipush (v := 640) dX8_init_45 (by decide +kernel) ?_
  refine aw_newlong dX8_init_48 640 (by decide +kernel) (by decide) (Nat.le_of_ble_eq_true rfl) (Nat.le_of_ble_eq_true rfl) ?_
  refine AW.hp (iH_s (k := 5) rfl) ?_
  refine aw_putfinal fX8_25 rfl dX8_init_50 (hup_self _ _ _) rfl rfl (Nat.le_of_ble_eq_true rfl) ?_
  dsimp only [List.set]
  rw [hup_hup]
  refine aw_aload_n (i := 0) dX8_init_53 rfl rfl ?_
  refine aw_sipush (v := 640) dX8_init_54 (by decide +kernel) ?_
  refine aw_newlong dX8_init_57 640 (by decide +kernel) (by decide) (Nat.le_of_ble_eq_true rfl) (Nat.le_of_ble_eq_true rfl) ?_
  refine AW.hp (iH_s (k := 6) rfl) ?_
  refine aw_putfinal fX8_28 rfl dX8_init_59 (hup_self _ _ _) rfl rfl (Nat.le_of_ble_eq_true rfl) ?_
  dsimp only [List.set]
  rw [hup_hup]
  refine aw_aload_n (i := 0) dX8_init_62 rfl rfl ?_
  refine aw_bipush (v := 16) dX8_init_63 (by decide +kernel) ?_
  refine aw_newbool dX8_init_65 16 (by decide +kernel) (by decide) (Nat.le_of_ble_eq_true rfl) (Nat.le_of_ble_eq_true rfl) ?_
  refine AW.hp (iH_s (k := 7) rfl) ?_
  refine aw_putfinal fX8_31 rfl dX8_init_67 (hup_self _ _ _) rfl rfl (Nat.le_of_ble_eq_true rfl) ?_
  dsimp only [List.set]
  rw [hup_hup]
  refine aw_aload_n (i := 0) dX8_init_70 rfl rfl ?_
  refine aw_bipush (v := 96) dX8_init_71 (by decide +kernel) ?_
  refine aw_newlong dX8_init_73 96 (by decide +kernel) (by decide) (Nat.le_of_ble_eq_true rfl) (Nat.le_of_ble_eq_true rfl) ?_
  refine AW.hp (iH_s (k := 8) rfl) ?_
  refine aw_putfinal fX8_35 rfl dX8_init_75 (hup_self _ _ _) rfl rfl (Nat.le_of_ble_eq_true rfl) ?_
  dsimp only [List.set]
  rw [hup_hup]
  refine aw_aload_n (i := 0) dX8_init_78 rfl rfl ?_
  refine aw_bipush (v := 96) dX8_init_79 (by decide +kernel) ?_
  refine aw_newlong dX8_init_81 96 (by decide +kernel) (by decide) (Nat.le_of_ble_eq_true rfl) (Nat.le_of_ble_eq_true rfl) ?_
  refine AW.hp (iH_s (k := 9) rfl) ?_
  refine aw_putfinal fX8_38 rfl dX8_init_83 (hup_self _ _ _) rfl rfl (Nat.le_of_ble_eq_true rfl) ?_
  dsimp only [List.set]
  rw [hup_hup]
  refine aw_aload_n (i := 0) dX8_init_86 rfl rfl ?_
  refine aw_bipush (v := 96) dX8_init_87 (by decide +kernel) ?_
  refine aw_newlong dX8_init_89 96 (by decide +kernel) (by decide) (Nat.le_of_ble_eq_true rfl) (Nat.le_of_ble_eq_true rfl) ?_
  refine AW.hp (iH_s (k := 10) rfl) ?_
  refine aw_putfinal fX8_41 rfl dX8_init_91 (hup_self _ _ _) rfl rfl (Nat.le_of_ble_eq_true rfl) ?_
  dsimp only [List.set]
  rw [hup_hup]
  refine aw_aload_n (i := 0) dX8_init_94 rfl rfl ?_
  refine aw_bipush (v := 96) dX8_init_95 (by decide +kernel) ?_
  refine aw_newlong dX8_init_97 96 (by decide +kernel) (by decide) (Nat.le_of_ble_eq_true rfl) (Nat.le_of_ble_eq_true rfl) ?_
  refine AW.hp (iH_s (k := 11) rfl) ?_
  refine aw_putfinal fX8_44 rfl dX8_init_99 (hup_self _ _ _) rfl rfl (Nat.le_of_ble_eq_true rfl) ?_
  dsimp only [List.set]
  rw [hup_hup]
  refine aw_aload_n (i := 0) dX8_init_102 rfl rfl ?_
  refine aw_bipush (v := 96) dX8_init_103 (by decide +kernel) ?_
  refine aw_newlong dX8_init_105 96 (by decide +kernel) (by decide) (Nat.le_of_ble_eq_true rfl) (Nat.le_of_ble_eq_true rfl) ?_
  refine AW.hp (iH_s (k := 12) rfl) ?_
  refine aw_putfinal fX8_47 rfl dX8_init_107 (hup_self _ _ _) rfl rfl (Nat.le_of_ble_eq_true rfl) ?_
  dsimp only [List.set]
  rw [hup_hup]
  refine aw_aload_n (i := 0) dX8_init_110 rfl rfl ?_
  refine aw_bipush (v := 96) dX8_init_111 (by decide +kernel) ?_
  refine aw_newlong dX8_init_113 96 (by decide +kernel) (by decide) (Nat.le_of_ble_eq_true rfl) (Nat.le_of_ble_eq_true rfl) ?_
  refine AW.hp (iH_s (k := 13) rfl) ?_
  refine aw_putfinal fX8_50 rfl dX8_init_115 (hup_self _ _ _) rfl rfl (Nat.le_of_ble_eq_true rfl) ?_
  dsimp only [List.set]
  rw [hup_hup]
  refine aw_aload_n (i := 0) dX8_init_118 rfl rfl ?_
  refine aw_bipush (v := 96) dX8_init_119 (by decide +kernel) ?_
  refine aw_newlong dX8_init_121 96 (by decide +kernel) (by decide) (Nat.le_of_ble_eq_true rfl) (Nat.le_of_ble_eq_true rfl) ?_
  refine AW.hp (iH_s (k := 14) rfl) ?_
  refine aw_putfinal fX8_53 rfl dX8_init_123 (hup_self _ _ _) rfl rfl (Nat.le_of_ble_eq_true rfl) ?_
  dsimp only [List.set]
  rw [hup_hup]
  refine aw_aload_n (i := 0) dX8_init_126 rfl rfl ?_
  refine aw_bipush (v := 96) dX8_init_127 (by decide +kernel) ?_
  refine aw_newlong dX8_init_129 96 (by decide +kernel) (by decide) (Nat.le_of_ble_eq_true rfl) (Nat.le_of_ble_eq_true rfl) ?_
  refine AW.hp (iH_s (k := 15) rfl) ?_
  refine aw_putfinal fX8_56 rfl dX8_init_131 (hup_self _ _ _) rfl rfl (Nat.le_of_ble_eq_true rfl) ?_
  dsimp only [List.set]
  rw [hup_hup]
  refine aw_aload_n (i := 0) dX8_init_134 rfl rfl ?_
  refine aw_bipush (v := 16) dX8_init_135 (by decide +kernel) ?_
  refine aw_newint dX8_init_137 16 (by decide +kernel) (by decide) (Nat.le_of_ble_eq_true rfl) (Nat.le_of_ble_eq_true rfl) ?_
  refine AW.hp (iH_s (k := 16) rfl) ?_
  refine aw_putfinal fX8_59 rfl dX8_init_139 (hup_self _ _ _) rfl rfl (Nat.le_of_ble_eq_true rfl) ?_
  dsimp only [List.set]
  rw [hup_hup]
  refine aw_aload_n (i := 0) dX8_init_142 rfl rfl ?_
  refine aw_bipush (v := 16) dX8_init_143 (by decide +kernel) ?_
  refine aw_newint dX8_init_145 16 (by decide +kernel) (by decide) (Nat.le_of_ble_eq_true rfl) (Nat.le_of_ble_eq_true rfl) ?_
  refine AW.hp (iH_s (k := 17) rfl) ?_
  refine aw_putfinal fX8_63 rfl dX8_init_147 (hup_self _ _ _) rfl rfl (Nat.le_of_ble_eq_true rfl) ?_
  dsimp only [List.set]
  rw [hup_hup]
  refine aw_aload_n (i := 0) dX8_init_150 rfl rfl ?_
  refine aw_sipush (v := 19360) dX8_init_151 (by decide +kernel) ?_
  refine aw_newlong dX8_init_154 19360 (by decide +kernel) (by decide) (Nat.le_of_ble_eq_true rfl) (Nat.le_of_ble_eq_true rfl) ?_
  refine AW.hp (iH_s (k := 18) rfl) ?_
  refine aw_putfinal fX8_66 rfl dX8_init_156 (hup_self _ _ _) rfl rfl (Nat.le_of_ble_eq_true rfl) ?_
  dsimp only [List.set]
  rw [hup_hup]
  refine aw_aload_n (i := 0) dX8_init_159 rfl rfl ?_
  refine aw_sipush (v := 160) dX8_init_160 (by decide +kernel) ?_
  refine aw_newlong dX8_init_163 160 (by decide +kernel) (by decide) (Nat.le_of_ble_eq_true rfl) (Nat.le_of_ble_eq_true rfl) ?_
  refine AW.hp (iH_s (k := 19) rfl) ?_
  refine aw_putfinal fX8_69 rfl dX8_init_165 (hup_self _ _ _) rfl rfl (Nat.le_of_ble_eq_true rfl) ?_
  dsimp only [List.set]
  rw [hup_hup]
  refine aw_aload_n (i := 0) dX8_init_168 rfl rfl ?_
  refine aw_bipush (v := 8) dX8_init_169 (by decide +kernel) ?_
  refine aw_newint dX8_init_171 8 (by decide +kernel) (by decide) (Nat.le_of_ble_eq_true rfl) (Nat.le_of_ble_eq_true rfl) ?_
  refine AW.hp (iH_s (k := 20) rfl) ?_
  refine aw_putfinal fX8_72 rfl dX8_init_173 (hup_self _ _ _) rfl rfl (Nat.le_of_ble_eq_true rfl) ?_
  dsimp only [List.set]
  rw [hup_hup]
  refine aw_aload_n (i := 0) dX8_init_176 rfl rfl ?_
  refine aw_bipush (v := 96) dX8_init_177 (by decide +kernel) ?_
  refine aw_newlong dX8_init_179 96 (by decide +kernel) (by decide) (Nat.le_of_ble_eq_true rfl) (Nat.le_of_ble_eq_true rfl) ?_
  refine AW.hp (iH_s (k := 21) rfl) ?_
  refine aw_putfinal fX8_75 rfl dX8_init_181 (hup_self _ _ _) rfl rfl (Nat.le_of_ble_eq_true rfl) ?_
  dsimp only [List.set]
  rw [hup_hup]
  refine aw_aload_n (i := 0) dX8_init_184 rfl rfl ?_
  refine aw_bipush (v := 96) dX8_init_185 (by decide +kernel) ?_
  refine aw_newlong dX8_init_187 96 (by decide +kernel) (by decide) (Nat.le_of_ble_eq_true rfl) (Nat.le_of_ble_eq_true rfl) ?_
  refine AW.hp (iH_s (k := 22) rfl) ?_
  refine aw_putfinal fX8_78 rfl dX8_init_189 (hup_self _ _ _) rfl rfl (Nat.le_of_ble_eq_true rfl) ?_
  dsimp only [List.set]
  rw [hup_hup]
  refine aw_aload_n (i := 0) dX8_init_192 rfl rfl ?_
  refine aw_bipush (v := 96) dX8_init_193 (by decide +kernel) ?_
  refine aw_newlong dX8_init_195 96 (by decide +kernel) (by decide) (Nat.le_of_ble_eq_true rfl) (Nat.le_of_ble_eq_true rfl) ?_
  refine AW.hp (iH_s (k := 23) rfl) ?_
  refine aw_putfinal fX8_81 rfl dX8_init_197 (hup_self _ _ _) rfl rfl (Nat.le_of_ble_eq_true rfl) ?_
  dsimp only [List.set]
  rw [hup_hup]
  refine aw_aload_n (i := 0) dX8_init_200 rfl rfl ?_
  refine aw_bipush (v := 96) dX8_init_201 (by decide +kernel) ?_
  refine aw_newlong dX8_init_203 96 (by decide +kernel) (by decide) (Nat.le_of_ble_eq_true rfl) (Nat.le_of_ble_eq_true rfl) ?_
  refine AW.hp (iH_s (k := 24) rfl) ?_
  refine aw_putfinal fX8_84 rfl dX8_init_205 (hup_self _ _ _) rfl rfl (Nat.le_of_ble_eq_true rfl) ?_
  dsimp only [List.set]
  rw [hup_hup]
  refine aw_aload_n (i := 0) dX8_init_208 rfl rfl ?_
  refine aw_sipush (v := 1210) dX8_init_209 (by decide +kernel) ?_
  refine aw_newlong dX8_init_212 1210 (by decide +kernel) (by decide) (Nat.le_of_ble_eq_true rfl) (Nat.le_of_ble_eq_true rfl) ?_
  refine AW.hp (iH_s (k := 25) rfl) ?_
  refine aw_putfinal fX8_87 rfl dX8_init_214 (hup_self _ _ _) rfl rfl (Nat.le_of_ble_eq_true rfl) ?_
  dsimp only [List.set]
  rw [hup_hup]
  refine aw_aload_n (i := 0) dX8_init_217 rfl rfl ?_
  refine aw_sipush (v := 1210) dX8_init_218 (by decide +kernel) ?_
  refine aw_newlong dX8_init_221 1210 (by decide +kernel) (by decide) (Nat.le_of_ble_eq_true rfl) (Nat.le_of_ble_eq_true rfl) ?_
  refine AW.hp (iH_s (k := 26) rfl) ?_
  refine aw_putfinal fX8_90 rfl dX8_init_223 (hup_self _ _ _) rfl rfl (Nat.le_of_ble_eq_true rfl) ?_
  dsimp only [List.set]
  rw [hup_hup]
  refine aw_aload_n (i := 0) dX8_init_226 rfl rfl ?_
  refine aw_bipush (v := 96) dX8_init_227 (by decide +kernel) ?_
  refine aw_newlong dX8_init_229 96 (by decide +kernel) (by decide) (Nat.le_of_ble_eq_true rfl) (Nat.le_of_ble_eq_true rfl) ?_
  refine AW.hp (iH_s (k := 27) rfl) ?_
  refine aw_putfinal fX8_93 rfl dX8_init_231 (hup_self _ _ _) rfl rfl (Nat.le_of_ble_eq_true rfl) ?_
  dsimp only [List.set]
  rw [hup_hup]
  refine aw_aload_n (i := 0) dX8_init_234 rfl rfl ?_
  refine aw_bipush (v := 96) dX8_init_235 (by decide +kernel) ?_
  refine aw_newlong dX8_init_237 96 (by decide +kernel) (by decide) (Nat.le_of_ble_eq_true rfl) (Nat.le_of_ble_eq_true rfl) ?_
  refine AW.hp (iH_s (k := 28) rfl) ?_
  refine aw_putfinal fX8_96 rfl dX8_init_239 (hup_self _ _ _) rfl rfl (Nat.le_of_ble_eq_true rfl) ?_
  dsimp only [List.set]
  rw [hup_hup]
  refine aw_aload_n (i := 0) dX8_init_242 rfl rfl ?_
  refine aw_bipush (v := 96) dX8_init_243 (by decide +kernel) ?_
  refine aw_newlong dX8_init_245 96 (by decide +kernel) (by decide) (Nat.le_of_ble_eq_true rfl) (Nat.le_of_ble_eq_true rfl) ?_
  refine AW.hp (iH_s (k := 29) rfl) ?_
  refine aw_putfinal fX8_99 rfl dX8_init_247 (hup_self _ _ _) rfl rfl (Nat.le_of_ble_eq_true rfl) ?_
  dsimp only [List.set]
  rw [hup_hup]
  refine aw_aload_n (i := 0) dX8_init_250 rfl rfl ?_
  refine aw_bipush (v := 96) dX8_init_251 (by decide +kernel) ?_
  refine aw_newlong dX8_init_253 96 (by decide +kernel) (by decide) (Nat.le_of_ble_eq_true rfl) (Nat.le_of_ble_eq_true rfl) ?_
  refine AW.hp (iH_s (k := 30) rfl) ?_
  refine aw_putfinal fX8_102 rfl dX8_init_255 (hup_self _ _ _) rfl rfl (Nat.le_of_ble_eq_true rfl) ?_
  dsimp only [List.set]
  rw [hup_hup]
  refine aw_aload_n (i := 0) dX8_init_258 rfl rfl ?_
  refine aw_iconst (v := 1) dX8_init_259 (by decide +kernel) ?_
  refine aw_putfield fX8_105 dX8_init_260 (hup_self _ _ _) rfl rfl (Nat.le_of_ble_eq_true rfl) ?_
  dsimp only [List.set]
  rw [hup_hup]
  refine aw_aload_n (i := 0) dX8_init_263 rfl rfl ?_
  refine aw_iconst (v := 2) dX8_init_264 (by decide +kernel) ?_
  refine aw_putfield fX8_109 dX8_init_265 (hup_self _ _ _) rfl rfl (Nat.le_of_ble_eq_true rfl) ?_
  dsimp only [List.set]
  rw [hup_hup]
  refine aw_aload_n (i := 0) dX8_init_268 rfl rfl ?_
  refine aw_iconst (v := 1) dX8_init_269 (by decide +kernel) ?_
  refine aw_putfield fX8_112 dX8_init_270 (hup_self _ _ _) rfl rfl (Nat.le_of_ble_eq_true rfl) ?_
  dsimp only [List.set]
  rw [hup_hup]
  refine aw_aload_n (i := 0) dX8_init_273 rfl rfl ?_
  refine aw_iconst (v := 1) dX8_init_274 (by decide +kernel) ?_
  refine aw_putfield fX8_115 dX8_init_275 (hup_self _ _ _) rfl rfl (Nat.le_of_ble_eq_true rfl) ?_
  dsimp only [List.set]
  rw [hup_hup]
  refine AW.hp (show _ = hup (iH h m 31) m (mobS m S0) from rfl) ?_
  refine aw_return dX8_init_278 rfl (Nat.le_of_ble_eq_true rfl) (Nat.le_of_ble_eq_true rfl) ?_
  have hk : ∀ k, 1 ≤ k → k ≤ 31 → hup (iH h m 31) m (mobS m S0) (m + k) = some (arrM k) := fun k h1 h2 => by
    rw [hup_ne (by omega)]; unfold iH; rw [if_pos (by omega), Nat.add_sub_cancel_left]
  refine hQ _ _ _ ⟨rfl, rfl, ⟨hup (iH h m 31) m (mobS m S0), fun _ _ => 0, fun _ => 0, fun _ => 0, fun _ => 0, fun _ => 0, ?_, ⟨hup_self _ _ _, hk 8 (by decide) (by decide), hk 17 (by decide) (by decide), hk 18 (by decide) (by decide), hk 21 (by decide) (by decide), fun i hi => absurd hi (Nat.not_lt_zero i), fun s hs => absurd hs (Nat.not_lt_zero s)⟩, ⟨fun s hs => absurd hs (Nat.not_lt_zero s), fun p hp => ⟨rfl, fun u d q => by cases q⟩⟩⟩, fun y hy => ?_⟩
  · funext y
    unfold mh
    split
    · next hc =>
      obtain ⟨h1, h2⟩ := hc
      obtain ⟨k, rfl⟩ : ∃ k, y = m + k := ⟨y - m, by omega⟩
      rw [Nat.add_sub_cancel_left] at h2 ⊢
      unfold lidx at h2
      simp at h2
      rw [hk k (by omega) (by omega)]
      unfold arrM
      rw [if_neg (by omega), if_neg (by omega), if_neg (by omega)]
    · rfl
  · rw [hup_ne (by omega)]; unfold iH; rw [if_neg (by omega)]
