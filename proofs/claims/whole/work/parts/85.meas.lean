/-! numbers with a bound -/
def nv (L : Nat → Nat) (N : NC) (a p v : Nat) : Prop := L a ≠ 0 ∧ num (L a) (N a) v ∧ v < (2 ^ 32) ^ p
theorem nv.fr {L : Nat → Nat} {N N' : NC} {a p v : Nat} (h : nv L N a p v) (e : N' a = N a) : nv L N' a p v := ⟨h.1, by rw [e]; exact h.2.1, h.2.2⟩
def npo (n : Nat) (h : Hp) (L : Nat → Nat) (N : NC) (a p v : Nat) : Option Value → Nat → Hp → Prop := pv n (fun h' => ∃ N', h' = nh h L N' ∧ nv L N' a p v ∧ NA L N' ∧ ∀ k, k ≠ a → N' k = N k)
theorem npo_of {n mc ms : Nat} {h : Hp} {L : Nat → Nat} {N : NC} {a p v : Nat} {M : MI} {args : List Value} (hA : NA L N) (ha : L a ≠ 0) (hp : v < (2 ^ 32) ^ p) (c : CT M mc ms n (nh h L N) args (nto n h L N a v)) : CT M mc ms n (nh h L N) args (npo n h L N a p v) :=
  c.weaken (fun r n' h' q => by obtain ⟨e1, e2, C', e3, d, f⟩ := q; exact ⟨e1, e2, C', e3, ⟨ha, d, hp⟩, hA.one ⟨d, f⟩, f⟩)
theorem Bp_le {p q : Nat} (h : p ≤ q) : ((2 : Nat) ^ 32) ^ p ≤ (2 ^ 32) ^ q := Nat.pow_le_pow_right (by decide) h
theorem mul_ltp {u v p q : Nat} (hu : u < (2 ^ 32) ^ p) (hv : v < (2 ^ 32) ^ q) : u * v < (2 ^ 32) ^ (p + q) := by
  rw [Nat.pow_add]; exact Nat.mul_lt_mul'' hu hv
theorem cp_prod (n : Nat) (h : Hp) (L : Nat → Nat) (N : NC) (a b d u v p q : Nat) (W : LW L) (hA : NA L N) (ha : L a ≠ 0) (hb : nv L N b p u) (hd : nv L N d q v) (hab : b ≠ a) (had : d ≠ a) (hl : p + q ≤ L a) : CT mX3_product 0 0 n (nh h L N) [.ref a, .ref b, .ref d] (npo n h L N a (p + q) (u * v)) := by
  obtain ⟨z, hz⟩ := hA a ha
  exact npo_of hA ha (mul_ltp hb.2.2 hd.2.2) (ct_X3_product n h L N a b d u v z W ha hb.1 hd.1 hab had hz hb.2.1 hd.2.1 (Nat.le_trans (Nat.add_le_add (num_le hb.2.1 hb.2.2) (num_le hd.2.1 hd.2.2)) hl))
theorem cp_copy (n : Nat) (h : Hp) (L : Nat → Nat) (N : NC) (a b v p : Nat) (W : LW L) (hA : NA L N) (ha : L a ≠ 0) (hb : nv L N b p v) (hab : b ≠ a) (hl : p ≤ L a) : CT mX3_copy 0 0 n (nh h L N) [.ref a, .ref b] (npo n h L N a p v) := by
  obtain ⟨z, hz⟩ := hA a ha
  exact npo_of hA ha hb.2.2 (ct_X3_copy n h L N a b z v W ha hb.1 hab hz hb.2.1 (Nat.lt_of_lt_of_le hb.2.2 (Bp_le hl)))
theorem cp_scale (n : Nat) (h : Hp) (L : Nat → Nat) (N : NC) (a u f p : Nat) (W : LW L) (hA : NA L N) (ha : nv L N a p u) (hf : f < 2 ^ 32) (hl : p + 1 ≤ L a) : CT mX3_scale 0 0 n (nh h L N) [.ref a, .long (lN f)] (npo n h L N a (p + 1) (u * f)) := by
  have hb : u * f < (2 ^ 32) ^ (p + 1) := mul_ltp ha.2.2 (by rw [Nat.pow_one]; exact hf)
  exact npo_of hA ha.1 hb (ct_X3_scale n h L N a u f W ha.1 ha.2.1 hf (Nat.lt_of_lt_of_le hb (Bp_le hl)))
theorem add_ltp {u v p q r : Nat} (hu : u < (2 ^ 32) ^ p) (hv : v < (2 ^ 32) ^ q) (hp : p < r) (hq : q < r) : u + v < (2 ^ 32) ^ r := by
  obtain ⟨r, rfl⟩ : ∃ r', r = r' + 1 := ⟨r - 1, by omega⟩
  have a1 := Bp_le (show p ≤ r by omega)
  have a2 := Bp_le (show q ≤ r by omega)
  rw [p32s]
  have : ((2 : Nat) ^ 32) ^ r * 2 ≤ (2 ^ 32) ^ r * 2 ^ 32 := Nat.mul_le_mul_left _ (by decide)
  omega
theorem cp_add (n : Nat) (h : Hp) (L : Nat → Nat) (N : NC) (a b u v p q r : Nat) (W : LW L) (hA : NA L N) (ha : nv L N a p u) (hb : nv L N b q v) (hab : b ≠ a) (hp : p < r) (hq : q < r) (hl : r ≤ L a) : CT mX3_add 0 0 n (nh h L N) [.ref a, .ref b] (npo n h L N a r (u + v)) := by
  have hh := add_ltp ha.2.2 hb.2.2 hp hq
  exact npo_of hA ha.1 hh (ct_X3_add n h L N a b u v W ha.1 hb.1 hab ha.2.1 hb.2.1 (Nat.lt_of_lt_of_le hh (Bp_le hl)))
theorem cp_sub (n : Nat) (h : Hp) (L : Nat → Nat) (N : NC) (a b u v p q : Nat) (W : LW L) (hA : NA L N) (ha : nv L N a p u) (hb : nv L N b q v) (hab : b ≠ a) (hf : v ≤ u) : CT mX3_subtract 0 0 n (nh h L N) [.ref a, .ref b] (npo n h L N a p (u - v)) :=
  npo_of hA ha.1 (Nat.lt_of_le_of_lt (Nat.sub_le _ _) ha.2.2) (ct_X3_subtract n h L N a b u v W ha.1 hb.1 hab ha.2.1 hb.2.1 hf)
theorem cp_clear (n : Nat) (h : Hp) (L : Nat → Nat) (N : NC) (a : Nat) (W : LW L) (hA : NA L N) (ha : L a ≠ 0) : CT mX3_clear 0 0 n (nh h L N) [.ref a] (npo n h L N a 0 0) := by
  obtain ⟨z, hz⟩ := hA a ha
  exact npo_of hA ha (Nat.pow_pos (by decide)) (ct_X3_clear n h L N a z W ha hz)
theorem cp_shift (n : Nat) (h : Hp) (L : Nat → Nat) (N : NC) (a b v p sh : Nat) (W : LW L) (hA : NA L N) (ha : L a ≠ 0) (hb : nv L N b p v) (hab : b ≠ a) (hsh : sh < 2304) (hl : p + (sh / 32 + 1) ≤ L a) : CT mX3_copyShifted 0 0 n (nh h L N) [.ref a, .ref b, .int (nI sh)] (npo n h L N a (p + (sh / 32 + 1)) (v * 2 ^ sh)) := by
  obtain ⟨z, hz⟩ := hA a ha
  have hs : 2 ^ sh < (2 ^ 32) ^ (sh / 32 + 1) := by rw [p32]; exact Nat.pow_lt_pow_right (by decide) (by omega)
  have := num_le hb.2.1 hb.2.2
  exact npo_of hA ha (mul_ltp hb.2.2 hs) (ct_X3_copyShifted n h L N a b z v sh W ha hb.1 hab hz hb.2.1 hsh (by omega))
theorem cp_against (n : Nat) (h : Hp) (L : Nat → Nat) (N : NC) (a b u v p q : Nat) (W : LW L) (ha : nv L N a p u) (hb : nv L N b q v) : CT mX3_against 0 0 n (nh h L N) [.ref a, .ref b] (pint n (nh h L N) (cmpI u v)) := ct_X3_against n h L N a b u v W ha.1 hb.1 ha.2.1 hb.2.1
theorem nv.up {L : Nat → Nat} {N : NC} {a p q v : Nat} (h : nv L N a p v) (hq : v < (2 ^ 32) ^ q) : nv L N a q v := ⟨h.1, h.2.1, hq⟩
theorem CS.nv3 {hc : Hp} {N : NC} {X j : Nat} {S : TS} (h : CS hc N X S) (hI : SInv S) (hj : j < sN S) : nv (LC X (sN S)) N (sob X j + 3) 8 (stot S j) := by
  have l : LC X (sN S) (sob X j + 3) = 8 := L_so (c := 3) hj (by decide)
  exact ⟨by rw [l]; decide, by rw [l]; exact h.tt hj, by rw [← lim256.1]; exact (hI.2.1.2 j hj).2.2.2⟩
theorem CS.nv6 {hc : Hp} {N : NC} {X j : Nat} {S : TS} (h : CS hc N X S) (hj : j < sN S) : nv (LC X (sN S)) N (sob X j + 6) 9 (sS S j) := by
  have l : LC X (sN S) (sob X j + 6) = 9 := L_so (c := 6) hj (by decide)
  have q := (h.2.2.2.1 j hj).2.2.2.2.1
  exact ⟨by rw [l]; decide, by rw [l]; exact q, Nat.lt_of_lt_of_le (raw_lt q.1) (Bp_le q.1.1)⟩
theorem CS.nv8 {hc : Hp} {N : NC} {X j : Nat} {S : TS} (h : CS hc N X S) (hI : SInv S) (hj : j < sN S) : nv (LC X (sN S)) N (sob X j + 8) 8 (tS S j) := by
  have l : LC X (sN S) (sob X j + 8) = 9 := L_so (c := 8) hj (by decide)
  have q := (h.2.2.2.1 j hj).2.2.2.2.2
  exact ⟨by rw [l]; decide, by rw [l]; exact q, by rw [← lim256.1]; exact div_le_lt (hI.2.1.2 j hj).2.2.2⟩
theorem CS.mm {hc : Hp} {N : NC} {X : Nat} {S : TS} (h : CS hc N X S) (N' : NC) : nh hc (LC X (sN S)) N' (X + 23) = some (mem (X + 23)) := by
  rw [nh_X (c := 23) N' rfl (Or.inr rfl)]; exact h.2.1.2.2.2.2.2.2.1
theorem ct_X2_raise (n : Nat) (hc : Hp) (N N0 : NC) (X e u p : Nat) (S : TS) (h : CS hc N0 X S) (hA : NA (LC X (sN S)) N) (he : e = 2 ∨ e = 4) (hu : nv (LC X (sN S)) N (X + 26) p u) (hp : e * p ≤ 72) : CT mX2_raise 0 0 n (nh hc (LC X (sN S)) N) [.ref (X + 23), .ref (X + 26), .int (nI e)] (pv n (fun h' => ∃ N', h' = nh hc (LC X (sN S)) N' ∧ nv (LC X (sN S)) N' (X + 26) (e * p) (u ^ e) ∧ NA (LC X (sN S)) N' ∧ ∀ k, k ≠ X + 24 → k ≠ X + 26 → N' k = N k)) := by
  refine CT.intro [some (.ref (X + 23)), some (.ref (X + 26)), some (.int (nI e)), none] 1 rfl rfl (by decide) ?_
  intro Q hQ
  have W := LC_W X (sN S)
  have l24 : LC X (sN S) (X + 24) = 72 := L72 rfl
  have l26 : LC X (sN S) (X + 26) = 72 := L72 rfl
  have step : ∀ (d : Nat) (u p : Nat) (N : NC), nv (LC X (sN S)) N (X + 26) p u → NA (LC X (sN S)) N → p + p ≤ 72 → (∀ N', nv (LC X (sN S)) N' (X + 26) (p + p) (u * u) → NA (LC X (sN S)) N' → (∀ k, k ≠ X + 24 → k ≠ X + 26 → N' k = N k) → AW mX2_raise (gq 0 0 Q) 2 [some (.ref (X + 23)), some (.ref (X + 26)), some (.int (nI e)), some (.int (nI (d + d)))] [] 0 0 n (nh hc (LC X (sN S)) N')) → AW mX2_raise (gq 0 0 Q) 12 [some (.ref (X + 23)), some (.ref (X + 26)), some (.int (nI e)), some (.int (nI d))] [] 0 0 n (nh hc (LC X (sN S)) N) := by
    intro d u p N hu hA hl go
    refine aw_aload_n (i := 0) dX2_raise_12 rfl rfl ?_
    refine aw_getfield fX2_14 dX2_raise_13 (h.mm _) rfl ?_
    refine aw_aload_n (i := 1) dX2_raise_16 rfl rfl ?_
    refine aw_aload_n (i := 1) dX2_raise_17 rfl rfl ?_
    refine aw_invokevirtual kX2_99 dX2_raise_18 (nh_o hc N (by rw [l24]; decide)) (cp_prod n hc (LC X (sN S)) N (X + 24) (X + 26) (X + 26) u u p p W hA (by rw [l24]; decide) hu hu (by omega) (by omega) (by rw [l24]; exact hl)) rfl rfl (Nat.le_of_ble_eq_true rfl) ⟨Nat.le_of_ble_eq_true rfl, Nat.le_of_ble_eq_true rfl⟩ ⟨Nat.le_of_ble_eq_true rfl, Nat.le_of_ble_eq_true rfl⟩ ?_
    rintro _ _ _ ⟨rfl, rfl, N1, rfl, v1, A1, f1⟩
    refine aw_aload_n (i := 1) dX2_raise_21 rfl rfl ?_
    refine aw_aload_n (i := 0) dX2_raise_22 rfl rfl ?_
    refine aw_getfield fX2_14 dX2_raise_23 (h.mm _) rfl ?_
    refine aw_invokevirtual kX2_77 dX2_raise_26 (nh_o hc N1 (by rw [l26]; decide)) (cp_copy n hc (LC X (sN S)) N1 (X + 26) (X + 24) (u * u) (p + p) W A1 (by rw [l26]; decide) v1 (by omega) (by rw [l26]; exact hl)) rfl rfl (Nat.le_of_ble_eq_true rfl) ⟨Nat.le_of_ble_eq_true rfl, Nat.le_of_ble_eq_true rfl⟩ ⟨Nat.le_of_ble_eq_true rfl, Nat.le_of_ble_eq_true rfl⟩ ?_
    rintro _ _ _ ⟨rfl, rfl, N2, rfl, v2, A2, f2⟩
    refine aw_iload_n (i := 3) dX2_raise_29 rfl rfl ?_
    refine aw_iload_n (i := 3) dX2_raise_30 rfl rfl ?_
    refine aw_iadd dX2_raise_31 ?_
    rw [nI_add]
    refine aw_istore_3 dX2_raise_32 (by decide) rfl ?_
    refine aw_goto (tgt := 2) dX2_raise_33 (by decide) ?_
    exact go N2 v2 A2 (fun k h1 h2 => by rw [f2 k h2, f1 k h1])
  refine aw_iconst (v := 1) dX2_raise_0 (by decide +kernel) ?_
  refine aw_istore_3 dX2_raise_1 (by decide) rfl ?_
  rcases he with rfl | rfl
  · refine aw_iload_n (i := 3) dX2_raise_2 rfl rfl ?_
    refine aw_iload_n (i := 2) dX2_raise_3 rfl rfl ?_
    refine aw_icmp_ge (tgt := 36) dX2_raise_4 (by decide) (fun c => absurd c (by decide +kernel)) (fun _ => ?_)
    refine aw_iload_n (i := 3) dX2_raise_7 rfl rfl ?_
    refine aw_iconst (v := 4) dX2_raise_8 (by decide +kernel) ?_
    refine aw_icmp_ge (tgt := 36) dX2_raise_9 (by decide) (fun c => absurd c (by decide +kernel)) (fun _ => ?_)
    refine step 1 u p N hu hA (by omega) (fun N1 v1 A1 f1 => ?_)
    refine aw_iload_n (i := 3) dX2_raise_2 rfl rfl ?_
    refine aw_iload_n (i := 2) dX2_raise_3 rfl rfl ?_
    refine aw_icmp_ge (tgt := 36) dX2_raise_4 (by decide) (fun _ => ?_) (fun c => (c (by decide +kernel)).elim)
    refine aw_return dX2_raise_36 rfl (Nat.le_of_ble_eq_true rfl) (Nat.le_of_ble_eq_true rfl) ?_
    exact hQ _ _ _ ⟨rfl, rfl, N1, rfl, by rw [Nat.two_mul, Nat.pow_two]; exact v1, A1, f1⟩
  · refine aw_iload_n (i := 3) dX2_raise_2 rfl rfl ?_
    refine aw_iload_n (i := 2) dX2_raise_3 rfl rfl ?_
    refine aw_icmp_ge (tgt := 36) dX2_raise_4 (by decide) (fun c => absurd c (by decide +kernel)) (fun _ => ?_)
    refine aw_iload_n (i := 3) dX2_raise_7 rfl rfl ?_
    refine aw_iconst (v := 4) dX2_raise_8 (by decide +kernel) ?_
    refine aw_icmp_ge (tgt := 36) dX2_raise_9 (by decide) (fun c => absurd c (by decide +kernel)) (fun _ => ?_)
    refine step 1 u p N hu hA (by omega) (fun N1 v1 A1 f1 => ?_)
    refine aw_iload_n (i := 3) dX2_raise_2 rfl rfl ?_
    refine aw_iload_n (i := 2) dX2_raise_3 rfl rfl ?_
    refine aw_icmp_ge (tgt := 36) dX2_raise_4 (by decide) (fun c => absurd c (by decide +kernel)) (fun _ => ?_)
    refine aw_iload_n (i := 3) dX2_raise_7 rfl rfl ?_
    refine aw_iconst (v := 4) dX2_raise_8 (by decide +kernel) ?_
    refine aw_icmp_ge (tgt := 36) dX2_raise_9 (by decide) (fun c => absurd c (by decide +kernel)) (fun _ => ?_)
    refine step 2 (u * u) (p + p) N1 v1 A1 (by omega) (fun N2 v2 A2 f2 => ?_)
    refine aw_iload_n (i := 3) dX2_raise_2 rfl rfl ?_
    refine aw_iload_n (i := 2) dX2_raise_3 rfl rfl ?_
    refine aw_icmp_ge (tgt := 36) dX2_raise_4 (by decide) (fun _ => ?_) (fun c => (c (by decide +kernel)).elim)
    refine aw_return dX2_raise_36 rfl (Nat.le_of_ble_eq_true rfl) (Nat.le_of_ble_eq_true rfl) ?_
    exact hQ _ _ _ ⟨rfl, rfl, N2, rfl, by rw [show 4 * p = p + p + (p + p) by omega, show u ^ 4 = u * u * (u * u) by grind]; exact v2, A2, fun k h1 h2 => by rw [f2 k h1 h2, f1 k h1 h2]⟩
theorem spw_lt {S : TS} {j : Nat} (hI : SInv S) (hj : j < sN S) {e : Nat} (he : e ≤ 4) {m : Nat} (hm : m ≤ sT S j + 1) : sg (fun v => sC S j v * v ^ e) m < (2 ^ 32) ^ 9 := by
  obtain ⟨-, ht, -, hl⟩ := hI.2.1.2 j hj
  have a : sg (fun v => sC S j v * v ^ e) m ≤ sg (sC S j) m * 120 ^ 4 := by
    rw [← sg_mul]
    exact sg_mono (fun i hi => Nat.mul_le_mul_left _ (Nat.le_trans (Nat.pow_le_pow_left (show i ≤ 120 by omega) e) (Nat.pow_le_pow_right (by decide) he)))
  have b : sg (sC S j) m ≤ stot S j := sg_le hm
  exact Nat.lt_of_le_of_lt (Nat.le_trans a (Nat.mul_le_mul_right _ (Nat.le_trans b (Nat.le_of_lt hl)))) (by decide +kernel)
theorem ct_X2_sumOfPowers (n : Nat) (hc : Hp) (N N0 : NC) (X j e a : Nat) (S : TS) (h : CS hc N0 X S) (hI : SInv S) (hj : j < sN S) (hA : NA (LC X (sN S)) N) (he1 : 1 ≤ e) (he : e ≤ 4) (ha : LC X (sN S) a = 72) : CT mX2_sumOfPowers 0 0 n (nh hc (LC X (sN S)) N) [.ref (X + 23), .ref (sob X j + 2), .int (nI e), .ref a] (npo n hc (LC X (sN S)) N a 9 (spw S j e)) := by
  refine CT.intro [some (.ref (X + 23)), some (.ref (sob X j + 2)), some (.int (nI e)), some (.ref a), none, none, none] 3 rfl rfl (by decide) ?_
  intro Q hQ
  have W := LC_W X (sN S)
  obtain ⟨g, hR, hr⟩ := h.rw hj
  obtain ⟨-, ht, hp, hl⟩ := hI.2.1.2 j hj
  obtain ⟨w1, w8, -⟩ := wdt_b hp hl
  refine aw_aload_n (i := 3) dX2_sumOfPowers_0 rfl rfl ?_
  refine aw_invokevirtual kX2_40 dX2_sumOfPowers_1 (nh_o hc N (by rw [ha]; decide)) (cp_clear n hc (LC X (sN S)) N a W hA (by rw [ha]; decide)) rfl rfl (Nat.le_of_ble_eq_true rfl) ⟨Nat.le_of_ble_eq_true rfl, Nat.le_of_ble_eq_true rfl⟩ ⟨Nat.le_of_ble_eq_true rfl, Nat.le_of_ble_eq_true rfl⟩ ?_
  rintro _ _ _ ⟨rfl, rfl, N1, rfl, v1, A1, f1⟩
  have vle : ∀ v i, v ≤ 120 → i ≤ 4 → v ^ i < 2 ^ 31 := fun v i h1 h2 => Nat.lt_of_le_of_lt (Nat.le_trans (Nat.pow_le_pow_left h1 i) (Nat.pow_le_pow_right (by decide) h2)) (show (120 : Nat) ^ 4 < 2 ^ 31 by decide)
  have loop : ∀ (z v : Nat) (N' : NC) (y5 y6 : Option Value), (y5 = none ∨ ∃ i, y5 = some (.int i)) → v + z = sT S j + 1 → 1 ≤ v → nv (LC X (sN S)) N' a 9 (sg (fun v => sC S j v * v ^ e) v) → NA (LC X (sN S)) N' → (∀ k, k ≠ a → N' k = N k) → AW mX2_sumOfPowers (gq 0 0 Q) 7 [some (.ref (X + 23)), some (.ref (sob X j + 2)), some (.int (nI e)), some (.ref a), some (.int (nI v)), y5, y6] [] 0 0 n (nh hc (LC X (sN S)) N') := by
    intro z
    induction z with
    | zero =>
      intro v N' y5 y6 hy hv hv1 hN hA' hf
      obtain rfl : v = sT S j + 1 := by omega
      refine aw_iload dX2_sumOfPowers_7 rfl ?_
      refine aw_aload_n (i := 1) dX2_sumOfPowers_9 rfl rfl ?_
      refine aw_getfield fX2_53 dX2_sumOfPowers_10 (h.so hj N') rfl ?_
      refine aw_getfield fX2_57 dX2_sumOfPowers_13 (h.ro hj N') rfl ?_
      refine aw_icmp_gt (tgt := 62) dX2_sumOfPowers_16 (by decide) (fun _ => ?_) (fun c => (c (nI_lt (by omega) (by omega))).elim)
      refine aw_return dX2_sumOfPowers_62 rfl (Nat.le_of_ble_eq_true rfl) (Nat.le_of_ble_eq_true rfl) ?_
      exact hQ _ _ _ ⟨rfl, rfl, N', rfl, hN, hA', hf⟩
    | succ z ih =>
      intro v N' y5 y6 hy hv hv1 hN hA' hf
      refine aw_iload dX2_sumOfPowers_7 rfl ?_
      refine aw_aload_n (i := 1) dX2_sumOfPowers_9 rfl rfl ?_
      refine aw_getfield fX2_53 dX2_sumOfPowers_10 (h.so hj N') rfl ?_
      refine aw_getfield fX2_57 dX2_sumOfPowers_13 (h.ro hj N') rfl ?_
      refine aw_icmp_gt (tgt := 62) dX2_sumOfPowers_16 (by decide) (fun c => absurd c (nI_nlt (by omega) (by omega))) (fun _ => ?_)
      refine aw_iconst (v := 1) dX2_sumOfPowers_19 (by decide +kernel) ?_
      refine aw_istore_5 dX2_sumOfPowers_20 (by decide) rfl ?_
      have inner : ∀ (q i : Nat) (y6 : Option Value), i + q = e → AW mX2_sumOfPowers (gq 0 0 Q) 25 [some (.ref (X + 23)), some (.ref (sob X j + 2)), some (.int (nI e)), some (.ref a), some (.int (nI v)), some (.int (nI (v ^ i))), some (.int (nI i))] [] 0 0 n (nh hc (LC X (sN S)) N') := by
        intro q
        induction q with
        | zero =>
          intro i y6 hi
          obtain rfl : i = e := by omega
          have hfit := spw_lt hI hj he (show v + 1 ≤ sT S j + 1 by omega)
          rw [sg_s] at hfit
          refine aw_iload dX2_sumOfPowers_25 rfl ?_
          refine aw_iload_n (i := 2) dX2_sumOfPowers_27 rfl rfl ?_
          refine aw_icmp_ge (tgt := 44) dX2_sumOfPowers_28 (by decide) (fun _ => ?_) (fun c => (c (nI_le (Nat.le_refl _) (by omega))).elim)
          refine aw_aload_n (i := 1) dX2_sumOfPowers_44 rfl rfl ?_
          refine aw_getfield fX2_53 dX2_sumOfPowers_45 (h.so hj N') rfl ?_
          refine aw_aload_n (i := 3) dX2_sumOfPowers_48 rfl rfl ?_
          refine aw_iload dX2_sumOfPowers_49 rfl ?_
          refine aw_iload dX2_sumOfPowers_51 rfl ?_
          refine aw_invokevirtual kX2_67 dX2_sumOfPowers_53 (h.ro hj N') (npo_of hA' hN.1 hfit (ct_X4_addTo n hc (LC X (sN S)) N' (sob X j) (sT S j) _ v a _ (v ^ i) g (sC S j) W hR (nr_so hj) hr (by omega) hN.1 hN.2.1 (by rw [ha]; omega) (vle v i (by omega) he) (by rw [ha]; exact Nat.lt_of_lt_of_le hfit (Bp_le (by decide))))) rfl rfl (Nat.le_of_ble_eq_true rfl) ⟨Nat.le_of_ble_eq_true rfl, Nat.le_of_ble_eq_true rfl⟩ ⟨Nat.le_of_ble_eq_true rfl, Nat.le_of_ble_eq_true rfl⟩ ?_
          rintro _ _ _ ⟨rfl, rfl, N2, rfl, v2, A2, f2⟩
          refine aw_iinc_4 (c0 := 1) dX2_sumOfPowers_56 (by decide) (by decide) rfl ?_
          refine aw_goto (tgt := 7) dX2_sumOfPowers_59 (by decide) ?_
          rw [nI_1]
          exact ih (v + 1) N2 _ _ (Or.inr ⟨_, rfl⟩) (by omega) (by omega) (by rw [sg_s]; exact v2) A2 (fun k hk => by rw [f2 k hk, hf k hk])
        | succ q ihq =>
          intro i y6 hi
          have := ihq (i + 1) none (by omega)
          rw [Nat.pow_succ] at this
          refine aw_iload dX2_sumOfPowers_25 rfl ?_
          refine aw_iload_n (i := 2) dX2_sumOfPowers_27 rfl rfl ?_
          refine aw_icmp_ge (tgt := 44) dX2_sumOfPowers_28 (by decide) (fun c => absurd c (nI_ge (by omega) (by omega))) (fun _ => ?_)
          refine aw_iload dX2_sumOfPowers_31 rfl ?_
          refine aw_iload dX2_sumOfPowers_33 rfl ?_
          refine aw_imul dX2_sumOfPowers_35 ?_
          rw [pk_mul]
          refine aw_istore_5 dX2_sumOfPowers_36 (by decide) rfl ?_
          refine aw_iinc_6 (c0 := 1) dX2_sumOfPowers_38 (by decide) (by decide) rfl ?_
          refine aw_goto (tgt := 25) dX2_sumOfPowers_41 (by decide) ?_
          rw [nI_1]
          exact this
      rcases hy with rfl | ⟨i5, rfl⟩
      · refine aw_iconst (v := 0) dX2_sumOfPowers_22 (by decide +kernel) ?_
        refine aw_istore_6 dX2_sumOfPowers_23 (by decide) rfl ?_
        exact inner e 0 none (by omega)
      · refine aw_iconst (v := 0) dX2_sumOfPowers_22 (by decide +kernel) ?_
        refine aw_istore_6 dX2_sumOfPowers_23 (by decide) rfl ?_
        exact inner e 0 none (by omega)
  refine aw_iconst (v := 1) dX2_sumOfPowers_4 (by decide +kernel) ?_
  refine aw_istore_4 dX2_sumOfPowers_5 (by decide) rfl ?_
  refine loop (sT S j) 1 N1 none none (Or.inl rfl) (by omega) (by omega) ?_ A1 f1
  have e0 : sg (fun v => sC S j v * v ^ e) 1 = 0 := by rw [sg_s, sg_0, Nat.zero_pow he1]; simp
  rw [e0]
  exact v1.up (Nat.pow_pos (by decide))
