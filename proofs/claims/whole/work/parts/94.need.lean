theorem abs_sub {p q : Nat} (hp : p < 2 ^ 30) (hq : q < 2 ^ 30) : (if 0 ≤ nI p - nI q then nI p - nI q else 0 - (nI p - nI q)) = nI (if p < q then q - p else p - q) := by
  by_cases h : p < q
  · have e : nI p - nI q = Int32.ofInt ((p : Int) - (q : Int)) := by rw [iI_N, iI_N]; exact (Int32.ofInt_sub _ _).symm
    have e2 : (nI p - nI q).toInt = (p : Int) - (q : Int) := by rw [e]; exact Int32.toInt_ofInt_of_le (by omega) (by omega)
    rw [if_pos h, if_neg (by rw [Int32.le_iff_toInt_le, e2]; show ¬ (0 : Int) ≤ (p : Int) - (q : Int); omega), Int32.zero_sub, Int32.neg_sub, nI_sb (by omega)]
  · rw [if_neg h, nI_sb (by omega), if_pos (nI_pos' (by omega))]
theorem stepC_coins (a b n v : Nat) : stepC a b (cCoins n a b) v = cCoins (n + 1) a b v := by
  rw [cCoins_eq, cCoins_eq]
  unfold stepC
  cases v with
  | zero => rw [if_pos rfl, Nat.add_zero, cC_0]
  | succ v => rw [if_neg (by omega), Nat.add_sub_cancel, cC_s]
theorem cCoins_le {a b n : Nat} (h : a ≤ b) (v : Nat) : cCoins n a b v ≤ b ^ n := by
  by_cases hv : v < n + 1
  · rw [← cCoins_tot h]; exact sg_ge hv
  · rw [cCoins_eq, cC_big (by omega)]; exact Nat.zero_le _
theorem bn_lt {b n : Nat} (hb : b ≤ 60) (hn : n ≤ 40) : b ^ n < (2 ^ 32) ^ 8 := by rw [← lim256.1]; exact coins_lt hb hn
theorem far_le {a b w n m : Nat} (h : a ≤ b) (hm : m ≤ n + 1) : sg (fun k => if farN a b w n k then cCoins n a b k else 0) m ≤ b ^ n := by
  refine Nat.le_trans (sg_mono (g := cCoins n a b) (fun i _ => by split <;> omega)) ?_
  rw [← cCoins_tot h]
  exact sg_le hm
theorem ct_X6_isRareNext (n : Nat) (hc : Hp) (N N0 : NC) (X td a b w u v : Nat) (S : TS) (sh g : Nat → Nat) (h : CS hc N0 X S) (hA : NA (LC X (sN S)) N) (hs : sh 0 = b - a ∧ sh 1 = a) (hab : a ≤ b) (hb : b ≤ 60) (htd : td < 40) (hr : rok 40 8 g (cCoins td a b)) (nA : nv (LC X (sN S)) N (X + 37) 8 (b ^ td)) (hw : w ≤ 100) (hu : u ≤ 1000000) (hv : v ≤ 1000000) : CT mX6_isRareNext 0 0 n (nh (th hc X td sh g) (LC X (sN S)) N) [.ref (X + 36), .int (nI w), .int (nI u), .int (nI v)] (fun r n' h' => r = some (.int (bI (goodN a b 0 w u v (td + 1)))) ∧ n = n' ∧ ∃ g' N', h' = nh (th hc X (td + 1) sh g') (LC X (sN S)) N' ∧ rok 40 8 g' (cCoins (td + 1) a b) ∧ nv (LC X (sN S)) N' (X + 37) 8 (b ^ (td + 1)) ∧ NA (LC X (sN S)) N' ∧ ∀ k, k < X + 6 ∨ X + 46 ≤ k → N' k = N k) := by
  refine CT.intro [some (.ref (X + 36)), some (.int (nI w)), some (.int (nI u)), some (.int (nI v)), none, none] 2 rfl rfl (by decide) ?_
  intro Q hQ
  have W := LC_W X (sN S)
  have l41 : LC X (sN S) (X + 41) = 10 := by rw [LC_at]; rfl
  have l43 : LC X (sN S) (X + 43) = 10 := by rw [LC_at]; rfl
  have z41 : LC X (sN S) (X + 41) ≠ 0 := by rw [l41]; decide
  have z43 : LC X (sN S) (X + 43) ≠ 0 := by rw [l43]; decide
  have hbn := bn_lt (n := td + 1) hb (by omega)
  refine aw_aload_n (i := 0) dX6_isRareNext_0 rfl rfl ?_
  refine aw_invokevirtual kX6_70 dX6_isRareNext_1 (n36 N) (ct_X6_tossNext n hc N N0 X td a b (b ^ td) S sh g (cCoins td a b) h hA hs hab hb htd hr (fun v hv => by rw [cCoins_eq]; exact cC_big hv) (fun v => by rw [stepC_coins]; exact Nat.lt_of_le_of_lt (cCoins_le hab v) hbn) nA (by rw [← Nat.pow_succ]; exact hbn)) rfl rfl (Nat.le_of_ble_eq_true rfl) ⟨Nat.le_of_ble_eq_true rfl, Nat.le_of_ble_eq_true rfl⟩ ⟨Nat.le_of_ble_eq_true rfl, Nat.le_of_ble_eq_true rfl⟩ ?_
  rintro _ _ _ ⟨rfl, rfl, g1, N1, rfl, hr1, v1, A1, f1⟩
  rw [show b ^ td * b = b ^ (td + 1) from rfl] at v1
  replace hr1 : rok 40 8 g1 (cCoins (td + 1) a b) := rok_congr hr1 (fun v _ => (stepC_coins a b td v).symm)
  refine aw_aload_n (i := 0) dX6_isRareNext_4 rfl rfl ?_
  refine aw_getfield fX6_35 dX6_isRareNext_5 (n36 _) rfl ?_
  refine aw_iconst (v := 0) dX6_isRareNext_8 (by decide +kernel) ?_
  refine aw_iald dX6_isRareNext_9 0 (n45 _) (by decide +kernel) (by decide) ?_
  refine aw_aload_n (i := 0) dX6_isRareNext_10 rfl rfl ?_
  refine aw_getfield fX6_35 dX6_isRareNext_11 (n36 _) rfl ?_
  refine aw_iconst (v := 1) dX6_isRareNext_14 (by decide +kernel) ?_
  refine aw_iald dX6_isRareNext_15 1 (n45 _) (by decide +kernel) (by decide) ?_
  refine aw_iadd dX6_isRareNext_16 ?_
  rw [nI_add, hs.1, hs.2, Nat.sub_add_cancel hab]
  refine aw_istore_4 dX6_isRareNext_17 (by decide) rfl ?_
  refine aw_aload_n (i := 0) dX6_isRareNext_19 rfl rfl ?_
  refine aw_getfield fX6_29 dX6_isRareNext_20 (n36 _) rfl ?_
  refine aw_invokevirtual kX6_73 dX6_isRareNext_23 (nh_o _ N1 z41) (cp_clear n _ (LC X (sN S)) N1 (X + 41) W A1 z41) rfl rfl (Nat.le_of_ble_eq_true rfl) ⟨Nat.le_of_ble_eq_true rfl, Nat.le_of_ble_eq_true rfl⟩ ⟨Nat.le_of_ble_eq_true rfl, Nat.le_of_ble_eq_true rfl⟩ ?_
  rintro _ _ _ ⟨rfl, rfl, N2, rfl, v2, A2, f2⟩
  have hn40 : td + 1 ≤ 40 := by omega
  generalize hm : td + 1 = m at *
  have after : ∀ (N' : NC) (y5 : Option Value), nv (LC X (sN S)) N' (X + 41) 8 (sg (fun k => if farN a b w m k then cCoins m a b k else 0) (m + 1)) → nv (LC X (sN S)) N' (X + 37) 8 (b ^ m) → NA (LC X (sN S)) N' → (∀ k, k < X + 6 ∨ X + 46 ≤ k → N' k = N k) → AW mX6_isRareNext (gq 0 0 Q) 93 [some (.ref (X + 36)), some (.int (nI w)), some (.int (nI u)), some (.int (nI v)), some (.int (nI b)), y5] [] 0 0 n (nh (th hc X m sh g1) (LC X (sN S)) N') := by
    intro N' y5 h41 h37 A' f'
    refine aw_aload_n (i := 0) dX6_isRareNext_93 rfl rfl ?_
    refine aw_getfield fX6_29 dX6_isRareNext_94 (n36 _) rfl ?_
    refine aw_iload_n (i := 3) dX6_isRareNext_97 rfl rfl ?_
    refine aw_i2l dX6_isRareNext_98 rfl ?_
    rw [nI_l (by omega)]
    refine aw_invokevirtual kX6_54 dX6_isRareNext_99 (nh_o _ N' z41) (cp_scale n _ (LC X (sN S)) N' (X + 41) _ v 8 W A' h41 (by omega) (by rw [l41]; decide)) rfl rfl (Nat.le_of_ble_eq_true rfl) ⟨Nat.le_of_ble_eq_true rfl, Nat.le_of_ble_eq_true rfl⟩ ⟨Nat.le_of_ble_eq_true rfl, Nat.le_of_ble_eq_true rfl⟩ ?_
    rintro _ _ _ ⟨rfl, rfl, N3, rfl, v3, A3, f3⟩
    refine aw_aload_n (i := 0) dX6_isRareNext_102 rfl rfl ?_
    refine aw_getfield fX6_32 dX6_isRareNext_103 (n36 _) rfl ?_
    refine aw_aload_n (i := 0) dX6_isRareNext_106 rfl rfl ?_
    refine aw_getfield fX6_14 dX6_isRareNext_107 (n36 _) rfl ?_
    refine aw_invokevirtual kX6_80 dX6_isRareNext_110 (nh_o _ N3 z43) (cp_copy n _ (LC X (sN S)) N3 (X + 43) (X + 37) _ 8 W A3 z43 (h37.fr (f3 _ (by omega))) (by omega) (by rw [l43]; decide)) rfl rfl (Nat.le_of_ble_eq_true rfl) ⟨Nat.le_of_ble_eq_true rfl, Nat.le_of_ble_eq_true rfl⟩ ⟨Nat.le_of_ble_eq_true rfl, Nat.le_of_ble_eq_true rfl⟩ ?_
    rintro _ _ _ ⟨rfl, rfl, N4, rfl, v4, A4, f4⟩
    refine aw_aload_n (i := 0) dX6_isRareNext_113 rfl rfl ?_
    refine aw_getfield fX6_32 dX6_isRareNext_114 (n36 _) rfl ?_
    refine aw_iload_n (i := 2) dX6_isRareNext_117 rfl rfl ?_
    refine aw_i2l dX6_isRareNext_118 rfl ?_
    rw [nI_l (by omega)]
    refine aw_invokevirtual kX6_54 dX6_isRareNext_119 (nh_o _ N4 z43) (cp_scale n _ (LC X (sN S)) N4 (X + 43) _ u 8 W A4 v4 (by omega) (by rw [l43]; decide)) rfl rfl (Nat.le_of_ble_eq_true rfl) ⟨Nat.le_of_ble_eq_true rfl, Nat.le_of_ble_eq_true rfl⟩ ⟨Nat.le_of_ble_eq_true rfl, Nat.le_of_ble_eq_true rfl⟩ ?_
    rintro _ _ _ ⟨rfl, rfl, N5, rfl, v5, A5, f5⟩
    refine aw_aload_n (i := 0) dX6_isRareNext_122 rfl rfl ?_
    refine aw_getfield fX6_29 dX6_isRareNext_123 (n36 _) rfl ?_
    refine aw_aload_n (i := 0) dX6_isRareNext_126 rfl rfl ?_
    refine aw_getfield fX6_32 dX6_isRareNext_127 (n36 _) rfl ?_
    refine aw_invokevirtual kX6_84 dX6_isRareNext_130 (nh_o _ N5 z41) (cp_against n _ (LC X (sN S)) N5 (X + 41) (X + 43) _ _ 9 9 W (v3.fr (by rw [f5 _ (by omega), f4 _ (by omega)])) v5) rfl rfl (Nat.le_of_ble_eq_true rfl) ⟨Nat.le_of_ble_eq_true rfl, Nat.le_of_ble_eq_true rfl⟩ ⟨Nat.le_of_ble_eq_true rfl, Nat.le_of_ble_eq_true rfl⟩ ?_
    rintro _ _ _ ⟨rfl, rfl, rfl⟩
    have hg : goodN a b 0 w u v m = decide (sg (fun k => if farN a b w m k then cCoins m a b k else 0) (m + 1) * v ≤ b ^ m * u) := by unfold goodN; rw [if_neg (by decide), Nat.mul_comm u]
    have fin : ∀ bb : Bool, decide (sg (fun k => if farN a b w m k then cCoins m a b k else 0) (m + 1) * v ≤ b ^ m * u) = bb → Q (some (.int (bI bb))) n (nh (th hc X m sh g1) (LC X (sN S)) N5) := fun bb e => hQ _ _ _ ⟨by rw [hg, e], rfl, g1, N5, rfl, hr1, h37.fr (by rw [f5 _ (by omega), f4 _ (by omega), f3 _ (by omega)]), A5, fun k hk => by rw [f5 _ (by omega), f4 _ (by omega), f3 _ (by omega), f' _ hk]⟩
    by_cases hle : sg (fun k => if farN a b w m k then cCoins m a b k else 0) (m + 1) * v ≤ b ^ m * u
    · refine aw_if_gt (tgt := 140) dX6_isRareNext_133 (by decide) (fun c => absurd c (fun q => absurd (cmpI_pos.mp q) (by omega))) (fun _ => ?_)
      refine aw_iconst (v := 1) dX6_isRareNext_136 (by decide +kernel) ?_
      refine aw_goto (tgt := 141) dX6_isRareNext_137 (by decide) ?_
      refine aw_ireturn dX6_isRareNext_141 rfl rfl (Nat.le_of_ble_eq_true rfl) (Nat.le_of_ble_eq_true rfl) ?_
      exact fin true (decide_eq_true hle)
    · refine aw_if_gt (tgt := 140) dX6_isRareNext_133 (by decide) (fun _ => ?_) (fun c => (c (cmpI_pos.mpr (by omega))).elim)
      refine aw_iconst (v := 0) dX6_isRareNext_140 (by decide +kernel) ?_
      refine aw_ireturn dX6_isRareNext_141 rfl rfl (Nat.le_of_ble_eq_true rfl) (Nat.le_of_ble_eq_true rfl) ?_
      exact fin false (decide_eq_false hle)
  have loop : ∀ (z k : Nat) (N' : NC), k + z = m + 1 → nv (LC X (sN S)) N' (X + 41) 8 (sg (fun k => if farN a b w m k then cCoins m a b k else 0) k) → nv (LC X (sN S)) N' (X + 37) 8 (b ^ m) → NA (LC X (sN S)) N' → (∀ k, k < X + 6 ∨ X + 46 ≤ k → N' k = N k) → AW mX6_isRareNext (gq 0 0 Q) 29 [some (.ref (X + 36)), some (.int (nI w)), some (.int (nI u)), some (.int (nI v)), some (.int (nI b)), some (.int (nI k))] [] 0 0 n (nh (th hc X m sh g1) (LC X (sN S)) N') := by
    intro z
    induction z with
    | zero =>
      intro k N' hk h41 h37 A' f'
      obtain rfl : k = m + 1 := by omega
      refine aw_iload dX6_isRareNext_29 rfl ?_
      refine aw_aload_n (i := 0) dX6_isRareNext_31 rfl rfl ?_
      refine aw_getfield fX6_39 dX6_isRareNext_32 (n36 _) rfl ?_
      refine aw_icmp_gt (tgt := 93) dX6_isRareNext_35 (by decide) (fun _ => ?_) (fun c => (c (nI_lt (by omega) (by omega))).elim)
      exact after N' _ h41 h37 A' f'
    | succ z ih =>
      intro k N' hk h41 h37 A' f'
      have b1 : k * b ≤ 40 * 60 := Nat.mul_le_mul (by omega) hb
      have b2 : a * m ≤ 60 * 40 := Nat.mul_le_mul (by omega) hn40
      have b3 : w * m ≤ 100 * 40 := Nat.mul_le_mul hw hn40
      have b4 : w * m * b ≤ 100 * 40 * 60 := Nat.mul_le_mul b3 hb
      have hfd : (if k * b < a * m then a * m - k * b else k * b - a * m) ≤ 2400 := by split <;> omega
      have hfar : farN a b w m k = decide (w * m * b ≤ (if k * b < a * m then a * m - k * b else k * b - a * m) * 100) := by unfold farN; rw [Nat.mul_comm 100]
      generalize hf : (if k * b < a * m then a * m - k * b else k * b - a * m) = f at *
      refine aw_iload dX6_isRareNext_29 rfl ?_
      refine aw_aload_n (i := 0) dX6_isRareNext_31 rfl rfl ?_
      refine aw_getfield fX6_39 dX6_isRareNext_32 (n36 _) rfl ?_
      refine aw_icmp_gt (tgt := 93) dX6_isRareNext_35 (by decide) (fun c => absurd c (nI_nlt (by omega) (by omega))) (fun _ => ?_)
      refine aw_iload dX6_isRareNext_38 rfl ?_
      refine aw_iload dX6_isRareNext_40 rfl ?_
      refine aw_imul dX6_isRareNext_42 ?_
      refine aw_aload_n (i := 0) dX6_isRareNext_43 rfl rfl ?_
      refine aw_getfield fX6_35 dX6_isRareNext_44 (n36 _) rfl ?_
      refine aw_iconst (v := 1) dX6_isRareNext_47 (by decide +kernel) ?_
      refine aw_iald dX6_isRareNext_48 1 (n45 _) (by decide +kernel) (by decide) ?_
      refine aw_aload_n (i := 0) dX6_isRareNext_49 rfl rfl ?_
      refine aw_getfield fX6_39 dX6_isRareNext_50 (n36 _) rfl ?_
      refine aw_imul dX6_isRareNext_53 ?_
      refine aw_isub dX6_isRareNext_54 ?_
      refine aw_mabs kX6_76 mathabs_s math_i mathabs_c dX6_isRareNext_55 (by decide) (Nat.le_of_ble_eq_true rfl) (Nat.le_of_ble_eq_true rfl) (Nat.le_of_ble_eq_true rfl) ?_
      rw [pk_mul, hs.2, pk_mul, abs_sub (by omega) (by omega), hf]
      refine aw_bipush (v := 100) dX6_isRareNext_58 (by decide +kernel) ?_
      refine aw_imul dX6_isRareNext_60 ?_
      refine aw_iload_n (i := 1) dX6_isRareNext_61 rfl rfl ?_
      refine aw_aload_n (i := 0) dX6_isRareNext_62 rfl rfl ?_
      refine aw_getfield fX6_39 dX6_isRareNext_63 (n36 _) rfl ?_
      refine aw_imul dX6_isRareNext_66 ?_
      refine aw_iload dX6_isRareNext_67 rfl ?_
      refine aw_imul dX6_isRareNext_69 ?_
      rw [show (100 : Int32) = nI 100 from rfl, pk_mul, pk_mul, pk_mul]
      by_cases hq : w * m * b ≤ f * 100
      · have hfit := far_le (w := w) hab (show k + 1 ≤ m + 1 by omega)
        rw [sg_s, hfar, decide_eq_true hq, if_pos rfl] at hfit
        have hf8 : sg (fun k => if farN a b w m k then cCoins m a b k else 0) k + cCoins m a b k * 1 < (2 ^ 32) ^ 8 := by omega
        have hR := (h.trow m sh g1).nh (nr_39 X (sN S)) N'
        refine aw_icmp_lt (tgt := 87) dX6_isRareNext_70 (by decide) (fun c => absurd c (nI_nlt hq (by omega))) (fun _ => ?_)
        refine aw_aload_n (i := 0) dX6_isRareNext_73 rfl rfl ?_
        refine aw_getfield fX6_25 dX6_isRareNext_74 (n36 _) rfl ?_
        refine aw_aload_n (i := 0) dX6_isRareNext_77 rfl rfl ?_
        refine aw_getfield fX6_29 dX6_isRareNext_78 (n36 _) rfl ?_
        refine aw_iload dX6_isRareNext_81 rfl ?_
        refine aw_iconst (v := 1) dX6_isRareNext_83 (by decide +kernel) ?_
        refine aw_invokevirtual kX6_63 dX6_isRareNext_84 hR.1 (npo_of A' z41 hf8 (ct_X4_addTo n (th hc X m sh g1) (LC X (sN S)) N' (X + 39) 40 8 k (X + 41) _ 1 g1 _ W (h.trow m sh g1) (nr_39 X (sN S)) hr1 (by omega) z41 h41.2.1 (by rw [l41]; decide) (by decide) (by rw [l41]; exact Nat.lt_of_lt_of_le hf8 (Bp_le (by decide))))) rfl rfl (Nat.le_of_ble_eq_true rfl) ⟨Nat.le_of_ble_eq_true rfl, Nat.le_of_ble_eq_true rfl⟩ ⟨Nat.le_of_ble_eq_true rfl, Nat.le_of_ble_eq_true rfl⟩ ?_
        rintro _ _ _ ⟨rfl, rfl, N3, rfl, v3, A3, f3⟩
        refine aw_iinc_5 (c0 := 1) dX6_isRareNext_87 (by decide) (by decide) rfl ?_
        refine aw_goto (tgt := 29) dX6_isRareNext_90 (by decide) ?_
        rw [nI_1]
        refine ih (k + 1) N3 (by omega) ?_ (h37.fr (f3 _ (by omega))) A3 (fun a ha => by rw [f3 _ (by omega), f' _ ha])
        rw [sg_s, hfar, decide_eq_true hq, if_pos rfl]
        rw [Nat.mul_one] at v3
        exact v3
      · refine aw_icmp_lt (tgt := 87) dX6_isRareNext_70 (by decide) (fun _ => ?_) (fun c => (c (nI_lt (by omega) (by omega))).elim)
        refine aw_iinc_5 (c0 := 1) dX6_isRareNext_87 (by decide) (by decide) rfl ?_
        refine aw_goto (tgt := 29) dX6_isRareNext_90 (by decide) ?_
        rw [nI_1]
        refine ih (k + 1) N' (by omega) ?_ h37 A' f'
        rw [sg_s, hfar, decide_eq_false hq, if_neg (by decide), Nat.add_zero]
        exact h41
  refine aw_iconst (v := 0) dX6_isRareNext_26 (by decide +kernel) ?_
  refine aw_istore_5 dX6_isRareNext_27 (by decide) rfl ?_
  exact loop (m + 1) 0 N2 (by omega) (v2.up (Nat.pow_pos (by decide))) (v1.fr (f2 _ (by omega))) A2 (fun k hk => by rw [f2 _ (by omega), f1 _ (by omega)])
theorem ct_X7_isNarrow (n : Nat) (h : Hp) (X x w u v : Nat) (S : TS) (hX : h X = some (cob X S)) (hI : SInv S) (hx : x ≤ 40) (hw : w ≤ 100) (hu : u ≤ 1000000) (hv : v ≤ 1000000) : CT mX7_isNarrow 0 0 n h [.ref X, .int (nI x), .int (nI w), .int (nI u), .int (nI v)] (pint n h (bI (goodN (sCA S) (sCB S) 1 w u v x))) := by
  refine CT.intro [some (.ref X), some (.int (nI x)), some (.int (nI w)), some (.int (nI u)), some (.int (nI v)), none, none, none, none] 4 rfl rfl (by decide) ?_
  intro Q hQ
  obtain ⟨hab, h1b, hb⟩ := hI.2.2.2.2.1
  obtain ⟨g1, g2, -⟩ := good_lt (w := w) (u := u) (v := v) (x := x) hab hb hw hu hv hx
  have hg : goodN (sCA S) (sCB S) 1 w u v x = (decide (v ≤ u) || decide (10000 * sCA S * (sCB S - sCA S) * v ≤ x * sCB S * sCB S * w * w * u)) := by unfold goodN; rw [if_pos rfl]
  have e2 : u * x * sCB S * sCB S * w * w = x * sCB S * sCB S * w * w * u := by simp only [Nat.mul_assoc, Nat.mul_comm, Nat.mul_left_comm]
  rw [hg] at hQ
  refine aw_ldc2_w qX7_312 dX7_isNarrow_0 ?_
  refine aw_aload_n (i := 0) dX7_isNarrow_3 rfl rfl ?_
  refine aw_getfield fX7_73 dX7_isNarrow_4 hX rfl ?_
  refine aw_i2l dX7_isNarrow_7 rfl ?_
  refine aw_lmul dX7_isNarrow_8 ?_
  refine aw_aload_n (i := 0) dX7_isNarrow_9 rfl rfl ?_
  refine aw_getfield fX7_76 dX7_isNarrow_10 hX rfl ?_
  refine aw_aload_n (i := 0) dX7_isNarrow_13 rfl rfl ?_
  refine aw_getfield fX7_73 dX7_isNarrow_14 hX rfl ?_
  refine aw_isub dX7_isNarrow_17 ?_
  refine aw_i2l dX7_isNarrow_18 rfl ?_
  refine aw_lmul dX7_isNarrow_19 ?_
  refine aw_iload dX7_isNarrow_20 rfl ?_
  refine aw_i2l dX7_isNarrow_22 rfl ?_
  refine aw_lmul dX7_isNarrow_23 ?_
  rw [nI_sb hab, nI_l (by omega), nI_l (by omega), nI_l (by omega), show (10000 : Int64) = lN 10000 from rfl, lN_mul, lN_mul, lN_mul]
  refine aw_lstore_5 dX7_isNarrow_24 (by decide) rfl ?_
  refine aw_iload_n (i := 3) dX7_isNarrow_26 rfl rfl ?_
  refine aw_i2l dX7_isNarrow_27 rfl ?_
  refine aw_iload_n (i := 1) dX7_isNarrow_28 rfl rfl ?_
  refine aw_i2l dX7_isNarrow_29 rfl ?_
  refine aw_lmul dX7_isNarrow_30 ?_
  refine aw_aload_n (i := 0) dX7_isNarrow_31 rfl rfl ?_
  refine aw_getfield fX7_76 dX7_isNarrow_32 hX rfl ?_
  refine aw_i2l dX7_isNarrow_35 rfl ?_
  refine aw_lmul dX7_isNarrow_36 ?_
  refine aw_aload_n (i := 0) dX7_isNarrow_37 rfl rfl ?_
  refine aw_getfield fX7_76 dX7_isNarrow_38 hX rfl ?_
  refine aw_i2l dX7_isNarrow_41 rfl ?_
  refine aw_lmul dX7_isNarrow_42 ?_
  refine aw_iload_n (i := 2) dX7_isNarrow_43 rfl rfl ?_
  refine aw_i2l dX7_isNarrow_44 rfl ?_
  refine aw_lmul dX7_isNarrow_45 ?_
  refine aw_iload_n (i := 2) dX7_isNarrow_46 rfl rfl ?_
  refine aw_i2l dX7_isNarrow_47 rfl ?_
  refine aw_lmul dX7_isNarrow_48 ?_
  rw [nI_l (by omega), nI_l (by omega), nI_l (by omega), nI_l (by omega), lN_mul, lN_mul, lN_mul, lN_mul, lN_mul, e2]
  by_cases h1 : v ≤ u
  · refine aw_lstore_7 dX7_isNarrow_49 (by decide) rfl ?_
    refine aw_iload_n (i := 3) dX7_isNarrow_51 rfl rfl ?_
    refine aw_iload dX7_isNarrow_52 rfl ?_
    refine aw_icmp_ge (tgt := 65) dX7_isNarrow_54 (by decide) (fun _ => ?_) (fun c => (c (nI_le h1 (by omega))).elim)
    refine aw_iconst (v := 1) dX7_isNarrow_65 (by decide +kernel) ?_
    refine aw_goto (tgt := 70) dX7_isNarrow_66 (by decide) ?_
    refine aw_ireturn dX7_isNarrow_70 rfl rfl (Nat.le_of_ble_eq_true rfl) (Nat.le_of_ble_eq_true rfl) ?_
    exact hQ _ _ _ ⟨by rw [decide_eq_true h1]; rfl, rfl, rfl⟩
  · refine aw_lstore_7 dX7_isNarrow_49 (by decide) rfl ?_
    refine aw_iload_n (i := 3) dX7_isNarrow_51 rfl rfl ?_
    refine aw_iload dX7_isNarrow_52 rfl ?_
    refine aw_icmp_ge (tgt := 65) dX7_isNarrow_54 (by decide) (fun c => absurd c (nI_ge (by omega) (by omega))) (fun _ => ?_)
    refine aw_lload dX7_isNarrow_57 rfl ?_
    refine aw_lload dX7_isNarrow_59 rfl ?_
    refine aw_lcmp dX7_isNarrow_61 ?_
    by_cases h2 : 10000 * sCA S * (sCB S - sCA S) * v ≤ x * sCB S * sCB S * w * w * u
    · refine aw_if_gt (tgt := 69) dX7_isNarrow_62 (by decide) (fun c => absurd c (fun q => absurd ((lg_cmp_gt _ _).mp q) (Int64.not_lt.mpr ((pk_lLE (by omega) (by omega)).mpr h2)))) (fun _ => ?_)
      refine aw_iconst (v := 1) dX7_isNarrow_65 (by decide +kernel) ?_
      refine aw_goto (tgt := 70) dX7_isNarrow_66 (by decide) ?_
      refine aw_ireturn dX7_isNarrow_70 rfl rfl (Nat.le_of_ble_eq_true rfl) (Nat.le_of_ble_eq_true rfl) ?_
      exact hQ _ _ _ ⟨by rw [decide_eq_false h1, decide_eq_true h2]; rfl, rfl, rfl⟩
    · refine aw_if_gt (tgt := 69) dX7_isNarrow_62 (by decide) (fun _ => ?_) (fun c => (c ((lg_cmp_gt _ _).mpr (Int64.not_le.mp (fun q => h2 ((pk_lLE (by omega) (by omega)).mp q))))).elim)
      refine aw_iconst (v := 0) dX7_isNarrow_69 (by decide +kernel) ?_
      refine aw_ireturn dX7_isNarrow_70 rfl rfl (Nat.le_of_ble_eq_true rfl) (Nat.le_of_ble_eq_true rfl) ?_
      exact hQ _ _ _ ⟨by rw [decide_eq_false h1, decide_eq_false h2]; rfl, rfl, rfl⟩
theorem leastG_none {g : Nat → Bool} : ∀ {m : Nat} (f : Int32), (∀ k, 1 ≤ k → k ≤ m → g k = false) → leastG g m f = f
  | 0, _, _ => rfl
  | m + 1, f, h => by
    show leastG g m (if g (m + 1) then nI (m + 1) else f) = f
    rw [h (m + 1) (by omega) (Nat.le_refl _), if_neg (by decide)]
    exact leastG_none f (fun k h1 h2 => h k h1 (by omega))
theorem leastG_first {g : Nat → Bool} {i : Nat} (h : ∀ k, 1 ≤ k → k ≤ i → g k = false) (hi : g (i + 1) = true) : ∀ (d : Nat) (f : Int32), leastG g (i + 1 + d) f = nI (i + 1)
  | 0, f => by
    show leastG g i (if g (i + 1) then nI (i + 1) else f) = _
    rw [hi, if_pos rfl]
    exact leastG_none _ h
  | d + 1, f => leastG_first h hi d _
def fwG (g : Nat → Bool) : Nat → Int32
  | 0 => -5
  | i + 1 => if g (i + 1) then (if fwG g i = -5 then nI (i + 1) else fwG g i) else -5
theorem nI_n5 {m : Nat} (h : m < 2 ^ 31) : nI m ≠ -5 := fun e => by
  have := nI_pos h
  rw [e] at this
  exact this (by decide)
theorem sinceG_fw {g : Nat → Bool} : ∀ (i : Nat) (f : Int32), i ≤ 40 → sinceG g i f = if fwG g i = -5 then f else fwG g i
  | 0, f, _ => (if_pos rfl).symm
  | i + 1, f, h => by
    show (if g (i + 1) then sinceG g i (nI (i + 1)) else f) = if (if g (i + 1) then (if fwG g i = -5 then nI (i + 1) else fwG g i) else -5) = -5 then f else (if g (i + 1) then (if fwG g i = -5 then nI (i + 1) else fwG g i) else -5)
    by_cases hg : g (i + 1) = true
    · rw [if_pos hg, if_pos hg, sinceG_fw i _ (by omega)]
      by_cases h5 : fwG g i = -5
      · rw [if_pos h5, if_neg (nI_n5 (by omega))]
      · rw [if_neg h5, if_neg h5]
    · rw [if_neg hg, if_neg hg, if_pos rfl]
