theorem lc0 {x : Nat} (hx : x < 2 ^ 63) : lg_cmp (lN x) 0 = 0 ↔ x = 0 := by rw [lg_cmp_eq, lN_0, pk_lEQ hx (by decide)]
theorem gcd_both {f s : Nat} (h1 : f % 2 = 0) (h2 : s % 2 = 0) : Nat.gcd f s = 2 * Nat.gcd (f / 2) (s / 2) := by
  rw [← Nat.gcd_mul_left]; congr 1 <;> omega
theorem gcd_half {f s : Nat} (h1 : f % 2 = 0) (h2 : s % 2 = 1) : Nat.gcd (f / 2) s = Nat.gcd f s := by
  have hc : Nat.Coprime 2 s := by
    rw [Nat.coprime_iff_gcd_eq_one, Nat.gcd_rec, h2]; rfl
  have := Nat.Coprime.gcd_mul_left_cancel (f / 2) hc
  rw [← this]; congr 1; omega
theorem gcd_minus {f s : Nat} (h : f ≤ s) : Nat.gcd f (s - f) = Nat.gcd f s := by
  obtain ⟨d, rfl⟩ := Nat.le.dest h
  rw [Nat.add_sub_cancel_left, Nat.gcd_self_add_right]
theorem ct_X8_findDivisor (n : Nat) (h : Hp) (m : Nat) (A : Nat → Nat → Nat) (va vb : Nat) (hm : mob h m) (hva : dg (A 9) va) (hvb : dg (A 10) vb) (pa : 0 < va) (pb : 0 < vb) : CT mX8_findDivisor 0 0 n (mh h m A) [.ref m, .ref (m + 9), .ref (m + 10)] (pv n (fun h' => ∃ A', h' = mh h m A' ∧ dg (A' 3) (Nat.gcd va vb) ∧ ∀ k, k ≠ 1 → k ≠ 2 → k ≠ 3 → k ≠ 5 → A' k = A k)) := by
  obtain ⟨so, we, ba, ca, cb, lc, ld, le, hm⟩ := hm
  refine CT.intro [some (.ref m), some (.ref (m + 9)), some (.ref (m + 10)), none, none, none] 3 rfl rfl (by decide) ?_
  intro Q hQ
  have hb := dg_lt hva
  refine aw_aload_n (i := 0) dX8_findDivisor_0 rfl rfl ?_
  refine aw_getfield fX8_7 dX8_findDivisor_1 (by rw [mh_0]; exact hm) rfl ?_
  refine aw_aload_n (i := 1) dX8_findDivisor_4 rfl rfl ?_
  refine aw_invokestatic kX8_128 dX8_findDivisor_5 (mc_copy n h m A 1 9 va rfl rfl rfl rfl (by decide) hva) rfl rfl (Nat.le_of_ble_eq_true rfl) ⟨Nat.le_of_ble_eq_true rfl, Nat.le_of_ble_eq_true rfl⟩ ⟨Nat.le_of_ble_eq_true rfl, Nat.le_of_ble_eq_true rfl⟩ ?_
  rintro _ _ _ ⟨rfl, rfl, A1, rfl, d1, f1⟩
  refine aw_aload_n (i := 0) dX8_findDivisor_8 rfl rfl ?_
  refine aw_getfield fX8_13 dX8_findDivisor_9 (by rw [mh_0]; exact hm) rfl ?_
  refine aw_aload_n (i := 2) dX8_findDivisor_12 rfl rfl ?_
  refine aw_invokestatic kX8_128 dX8_findDivisor_13 (mc_copy n h m A1 2 10 vb rfl rfl rfl rfl (by decide) (by rw [f1 10 (by decide)]; exact hvb)) rfl rfl (Nat.le_of_ble_eq_true rfl) ⟨Nat.le_of_ble_eq_true rfl, Nat.le_of_ble_eq_true rfl⟩ ⟨Nat.le_of_ble_eq_true rfl, Nat.le_of_ble_eq_true rfl⟩ ?_
  rintro _ _ _ ⟨rfl, rfl, A2, rfl, d2, f2⟩
  have d1 : dg (A2 1) va := by rw [f2 1 (by decide)]; exact d1
  have d9 : dg (A2 9) va := by rw [f2 9 (by decide), f1 9 (by decide)]; exact hva
  have d10 : dg (A2 10) vb := by rw [f2 10 (by decide), f1 10 (by decide)]; exact hvb
  have fr : ∀ k, k ≠ 1 → k ≠ 2 → A2 k = A k := fun k h1 h2 => by rw [f2 k h2, f1 k h1]
  -- from the doubling on
  have tail : ∀ (j sh f : Nat) (A' : Nat → Nat → Nat) (x3 : Option Value) (i : Nat), i + j = sh → sh < 2688 → f * 2 ^ sh = Nat.gcd va vb → dg (A' 3) (f * 2 ^ i) → (∀ k, k ≠ 1 → k ≠ 2 → k ≠ 3 → k ≠ 5 → A' k = A k) → AW mX8_findDivisor (gq 0 0 Q) 223 [some (.ref m), some (.ref (m + 9)), some (.ref (m + 10)), x3, some (.int (nI sh)), some (.int (nI i))] [] 0 0 n (mh h m A') := by
    intro j
    induction j with
    | zero =>
      intro sh f A' x3 i hi hs hg d3 fr
      obtain rfl : i = sh := by omega
      refine aw_iload dX8_findDivisor_223 rfl ?_
      refine aw_iload dX8_findDivisor_225 rfl ?_
      refine aw_icmp_ge (tgt := 244) dX8_findDivisor_227 (by decide) (fun _ => ?_) (fun c => (c (nI_le (Nat.le_refl _) (by omega))).elim)
      refine aw_return dX8_findDivisor_244 rfl (Nat.le_of_ble_eq_true rfl) (Nat.le_of_ble_eq_true rfl) ?_
      exact hQ _ _ _ ⟨rfl, rfl, A', rfl, by rw [← hg]; exact d3, fr⟩
    | succ j ih =>
      intro sh f A' x3 i hi hs hg d3 fr
      have hle : Nat.gcd va vb ≤ va := Nat.gcd_le_left _ pa
      have h2 : f * 2 ^ (i + 1) ≤ f * 2 ^ sh := Nat.mul_le_mul_left _ (Nat.pow_le_pow_right (by decide) (by omega))
      have e2 : f * 2 ^ (i + 1) = f * 2 ^ i * 2 + 0 := by rw [Nat.pow_succ, ← Nat.mul_assoc]; rfl
      refine aw_iload dX8_findDivisor_223 rfl ?_
      refine aw_iload dX8_findDivisor_225 rfl ?_
      refine aw_icmp_ge (tgt := 244) dX8_findDivisor_227 (by decide) (fun c => absurd c (nI_ge (by omega) (by omega))) (fun _ => ?_)
      refine aw_aload_n (i := 0) dX8_findDivisor_230 rfl rfl ?_
      refine aw_getfield fX8_16 dX8_findDivisor_231 (by rw [mh_0]; exact hm) rfl ?_
      refine aw_lconst (v := 0) dX8_findDivisor_234 (by decide) ?_
      refine aw_invokestatic kX8_143 dX8_findDivisor_235 (mc_twice n h m A' 3 _ 0 rfl rfl d3 (by decide) (by omega)) rfl rfl (Nat.le_of_ble_eq_true rfl) ⟨Nat.le_of_ble_eq_true rfl, Nat.le_of_ble_eq_true rfl⟩ ⟨Nat.le_of_ble_eq_true rfl, Nat.le_of_ble_eq_true rfl⟩ ?_
      rintro _ _ _ ⟨rfl, rfl, A3, rfl, d3', f3⟩
      refine aw_iinc_5 (c0 := 1) dX8_findDivisor_238 (by decide) (by decide) rfl ?_
      refine aw_goto (tgt := 223) dX8_findDivisor_241 (by decide) ?_
      rw [nI_1]
      exact ih sh f A3 x3 (i + 1) (by omega) hs hg (by rw [e2]; exact d3') (fun k k1 k2 k3 k5 => by rw [f3 k k3]; exact fr k k1 k2 k3 k5)
  have last : ∀ (sh f : Nat) (A' : Nat → Nat → Nat) (x3 x5 : Option Value), sh < 2688 → f * 2 ^ sh = Nat.gcd va vb → dg (A' 1) f → (∀ k, k ≠ 1 → k ≠ 2 → k ≠ 3 → k ≠ 5 → A' k = A k) → AW mX8_findDivisor (gq 0 0 Q) 209 [some (.ref m), some (.ref (m + 9)), some (.ref (m + 10)), x3, some (.int (nI sh)), x5] [] 0 0 n (mh h m A') := by
    intro sh f A' x3 x5 hs hg d1 fr
    refine aw_aload_n (i := 0) dX8_findDivisor_209 rfl rfl ?_
    refine aw_getfield fX8_16 dX8_findDivisor_210 (by rw [mh_0]; exact hm) rfl ?_
    refine aw_aload_n (i := 0) dX8_findDivisor_213 rfl rfl ?_
    refine aw_getfield fX8_7 dX8_findDivisor_214 (by rw [mh_0]; exact hm) rfl ?_
    refine aw_invokestatic kX8_128 dX8_findDivisor_217 (mc_copy n h m A' 3 1 f rfl rfl rfl rfl (by decide) d1) rfl rfl (Nat.le_of_ble_eq_true rfl) ⟨Nat.le_of_ble_eq_true rfl, Nat.le_of_ble_eq_true rfl⟩ ⟨Nat.le_of_ble_eq_true rfl, Nat.le_of_ble_eq_true rfl⟩ ?_
    rintro _ _ _ ⟨rfl, rfl, A3, rfl, d3, f3⟩
    refine aw_iconst (v := 0) dX8_findDivisor_220 (by decide +kernel) ?_
    refine aw_istore_5 dX8_findDivisor_221 (by decide) rfl ?_
    exact tail sh sh f A3 x3 0 (by omega) hs hg (by simpa using d3) (fun k k1 k2 k3 k5 => by rw [f3 k k3]; exact fr k k1 k2 k3 k5)
  -- the main loop
  have main : ∀ (w mo sh f s : Nat) (A' : Nat → Nat → Nat) (x5 : Option Value), f + s ≤ w → mo < 96 → f < (2 ^ 28) ^ (mo + 1) → s < (2 ^ 28) ^ (mo + 1) → f % 2 = 1 → sh < 2688 → Nat.gcd f s * 2 ^ sh = Nat.gcd va vb → dg (A' 1) f → dg (A' 2) s → (∀ k, k ≠ 1 → k ≠ 2 → k ≠ 3 → k ≠ 5 → A' k = A k) → AW mX8_findDivisor (gq 0 0 Q) 114 [some (.ref m), some (.ref (m + 9)), some (.ref (m + 10)), some (.int (nI mo)), some (.int (nI sh)), x5] [] 0 0 n (mh h m A') := by
    intro w
    induction w with
    | zero => intro mo sh f s A' x5 hw _ _ _ ho; omega
    | succ w ih =>
      intro mo sh f s A' x5 hw hmo hf hs ho hsh hg e1 e2 fr
      -- s odd: compare, swap, subtract
      have step : ∀ (s' : Nat) (A' : Nat → Nat → Nat), s' % 2 = 1 → s' ≤ s → Nat.gcd f s' * 2 ^ sh = Nat.gcd va vb → dg (A' 1) f → dg (A' 2) s' → (∀ k, k ≠ 1 → k ≠ 2 → k ≠ 3 → k ≠ 5 → A' k = A k) → AW mX8_findDivisor (gq 0 0 Q) 148 [some (.ref m), some (.ref (m + 9)), some (.ref (m + 10)), some (.int (nI mo)), some (.int (nI sh)), x5] [] 0 0 n (mh h m A') := by
        intro s' A' ho' hle hg e1 e2 fr
        have sub : ∀ (f' s'' : Nat) (A' : Nat → Nat → Nat), f' % 2 = 1 → f' ≤ s'' → f' + s'' ≤ w + 1 → f' < (2 ^ 28) ^ (mo + 1) → s'' < (2 ^ 28) ^ (mo + 1) → Nat.gcd f' s'' * 2 ^ sh = Nat.gcd va vb → dg (A' 1) f' → dg (A' 2) s'' → (∀ k, k ≠ 1 → k ≠ 2 → k ≠ 3 → k ≠ 5 → A' k = A k) → AW mX8_findDivisor (gq 0 0 Q) 195 [some (.ref m), some (.ref (m + 9)), some (.ref (m + 10)), some (.int (nI mo)), some (.int (nI sh)), x5] [] 0 0 n (mh h m A') := by
          intro f' s'' A' o1 l1 l2 l3 l4 hg e1 e2 fr
          refine aw_aload_n (i := 0) dX8_findDivisor_195 rfl rfl ?_
          refine aw_getfield fX8_13 dX8_findDivisor_196 (by rw [mh_0]; exact hm) rfl ?_
          refine aw_aload_n (i := 0) dX8_findDivisor_199 rfl rfl ?_
          refine aw_getfield fX8_7 dX8_findDivisor_200 (by rw [mh_0]; exact hm) rfl ?_
          refine aw_invokestatic kX8_140 dX8_findDivisor_203 (mc_minus n h m A' 2 1 s'' f' rfl rfl rfl rfl (by decide) e2 e1 l1) rfl rfl (Nat.le_of_ble_eq_true rfl) ⟨Nat.le_of_ble_eq_true rfl, Nat.le_of_ble_eq_true rfl⟩ ⟨Nat.le_of_ble_eq_true rfl, Nat.le_of_ble_eq_true rfl⟩ ?_
          rintro _ _ _ ⟨rfl, rfl, A3, rfl, e2', f3⟩
          refine aw_goto (tgt := 114) dX8_findDivisor_206 (by decide) ?_
          exact ih mo sh f' (s'' - f') A3 x5 (by omega) hmo l3 (by omega) o1 hsh (by rw [gcd_minus l1]; exact hg) (by rw [f3 1 (by decide)]; exact e1) e2' (fun k k1 k2 k3 k5 => by rw [f3 k k2]; exact fr k k1 k2 k3 k5)
        refine aw_aload_n (i := 0) dX8_findDivisor_148 rfl rfl ?_
        refine aw_getfield fX8_7 dX8_findDivisor_149 (by rw [mh_0]; exact hm) rfl ?_
        refine aw_aload_n (i := 0) dX8_findDivisor_152 rfl rfl ?_
        refine aw_getfield fX8_13 dX8_findDivisor_153 (by rw [mh_0]; exact hm) rfl ?_
        refine aw_invokestatic kX8_136 dX8_findDivisor_156 (mc_compare n h m A' 1 2 f s' rfl rfl rfl rfl e1 e2) rfl rfl (Nat.le_of_ble_eq_true rfl) ⟨Nat.le_of_ble_eq_true rfl, Nat.le_of_ble_eq_true rfl⟩ ⟨Nat.le_of_ble_eq_true rfl, Nat.le_of_ble_eq_true rfl⟩ ?_
        rintro _ _ _ ⟨rfl, rfl, rfl⟩
        by_cases hc : s' < f
        · refine aw_if_le (tgt := 195) dX8_findDivisor_159 (by decide) (fun c => absurd c (fun q => by have := cmp_le0.mp q; omega)) (fun _ => ?_)
          refine aw_aload_n (i := 0) dX8_findDivisor_162 rfl rfl ?_
          refine aw_getfield fX8_22 dX8_findDivisor_163 (by rw [mh_0]; exact hm) rfl ?_
          refine aw_aload_n (i := 0) dX8_findDivisor_166 rfl rfl ?_
          refine aw_getfield fX8_7 dX8_findDivisor_167 (by rw [mh_0]; exact hm) rfl ?_
          refine aw_invokestatic kX8_128 dX8_findDivisor_170 (mc_copy n h m A' 5 1 f rfl rfl rfl rfl (by decide) e1) rfl rfl (Nat.le_of_ble_eq_true rfl) ⟨Nat.le_of_ble_eq_true rfl, Nat.le_of_ble_eq_true rfl⟩ ⟨Nat.le_of_ble_eq_true rfl, Nat.le_of_ble_eq_true rfl⟩ ?_
          rintro _ _ _ ⟨rfl, rfl, A3, rfl, e5, f3⟩
          refine aw_aload_n (i := 0) dX8_findDivisor_173 rfl rfl ?_
          refine aw_getfield fX8_7 dX8_findDivisor_174 (by rw [mh_0]; exact hm) rfl ?_
          refine aw_aload_n (i := 0) dX8_findDivisor_177 rfl rfl ?_
          refine aw_getfield fX8_13 dX8_findDivisor_178 (by rw [mh_0]; exact hm) rfl ?_
          refine aw_invokestatic kX8_128 dX8_findDivisor_181 (mc_copy n h m A3 1 2 s' rfl rfl rfl rfl (by decide) (by rw [f3 2 (by decide)]; exact e2)) rfl rfl (Nat.le_of_ble_eq_true rfl) ⟨Nat.le_of_ble_eq_true rfl, Nat.le_of_ble_eq_true rfl⟩ ⟨Nat.le_of_ble_eq_true rfl, Nat.le_of_ble_eq_true rfl⟩ ?_
          rintro _ _ _ ⟨rfl, rfl, A4, rfl, e6, f4⟩
          refine aw_aload_n (i := 0) dX8_findDivisor_184 rfl rfl ?_
          refine aw_getfield fX8_13 dX8_findDivisor_185 (by rw [mh_0]; exact hm) rfl ?_
          refine aw_aload_n (i := 0) dX8_findDivisor_188 rfl rfl ?_
          refine aw_getfield fX8_22 dX8_findDivisor_189 (by rw [mh_0]; exact hm) rfl ?_
          refine aw_invokestatic kX8_128 dX8_findDivisor_192 (mc_copy n h m A4 2 5 f rfl rfl rfl rfl (by decide) (by rw [f4 5 (by decide)]; exact e5)) rfl rfl (Nat.le_of_ble_eq_true rfl) ⟨Nat.le_of_ble_eq_true rfl, Nat.le_of_ble_eq_true rfl⟩ ⟨Nat.le_of_ble_eq_true rfl, Nat.le_of_ble_eq_true rfl⟩ ?_
          rintro _ _ _ ⟨rfl, rfl, A5, rfl, e7, f5⟩
          exact sub s' f A5 ho' (by omega) (by omega) (by omega) hf (by rw [Nat.gcd_comm]; exact hg) (by rw [f5 1 (by decide)]; exact e6) e7 (fun k k1 k2 k3 k5 => by rw [f5 k k2, f4 k k1, f3 k k5]; exact fr k k1 k2 k3 k5)
        · refine aw_if_le (tgt := 195) dX8_findDivisor_159 (by decide) (fun _ => ?_) (fun c => (c (cmp_le0.mpr (by omega))).elim)
          exact sub f s' A' ho (by omega) (by omega) hf (by omega) hg e1 e2 fr
      have even : ∀ (q s' : Nat) (A' : Nat → Nat → Nat), s' ≤ q → 0 < s' → s' ≤ s → Nat.gcd f s' * 2 ^ sh = Nat.gcd va vb → dg (A' 1) f → dg (A' 2) s' → (∀ k, k ≠ 1 → k ≠ 2 → k ≠ 3 → k ≠ 5 → A' k = A k) → AW mX8_findDivisor (gq 0 0 Q) 124 [some (.ref m), some (.ref (m + 9)), some (.ref (m + 10)), some (.int (nI mo)), some (.int (nI sh)), x5] [] 0 0 n (mh h m A') := by
        intro q
        induction q with
        | zero => intro s' A' h1 h2; omega
        | succ q ihq =>
          intro s' A' h1 h2 h3 hg e1 e2 fr
          refine aw_aload_n (i := 0) dX8_findDivisor_124 rfl rfl ?_
          refine aw_getfield fX8_13 dX8_findDivisor_125 (by rw [mh_0]; exact hm) rfl ?_
          refine aw_iconst (v := 0) dX8_findDivisor_128 (by decide +kernel) ?_
          refine aw_lald dX8_findDivisor_129 0 (mh_96 h m A' rfl rfl) (by decide +kernel) (by decide) ?_
          refine aw_lconst (v := 1) dX8_findDivisor_130 (by decide) ?_
          refine aw_land dX8_findDivisor_131 ?_
          rw [lN_and1, dg_odd e2]
          by_cases ho' : s' % 2 = 0
          · refine aw_lconst (v := 0) dX8_findDivisor_132 (by decide) ?_
            refine aw_lcmp dX8_findDivisor_133 ?_
            refine aw_if_ne (tgt := 148) dX8_findDivisor_134 (by decide) (fun c => absurd c (fun c => c ((lc0 (by omega)).mpr ho'))) (fun _ => ?_)
            refine aw_aload_n (i := 0) dX8_findDivisor_137 rfl rfl ?_
            refine aw_getfield fX8_13 dX8_findDivisor_138 (by rw [mh_0]; exact hm) rfl ?_
            refine aw_iload_n (i := 3) dX8_findDivisor_141 rfl rfl ?_
            refine aw_invokestatic kX8_132 dX8_findDivisor_142 (mc_half n h m A' 2 s' mo rfl rfl e2 hmo (by omega)) rfl rfl (Nat.le_of_ble_eq_true rfl) ⟨Nat.le_of_ble_eq_true rfl, Nat.le_of_ble_eq_true rfl⟩ ⟨Nat.le_of_ble_eq_true rfl, Nat.le_of_ble_eq_true rfl⟩ ?_
            rintro _ _ _ ⟨rfl, rfl, A3, rfl, e3, f3⟩
            refine aw_goto (tgt := 124) dX8_findDivisor_145 (by decide) ?_
            exact ihq (s' / 2) A3 (by omega) (by omega) (by omega) (by rw [Nat.gcd_comm, gcd_half ho' ho, Nat.gcd_comm]; exact hg) (by rw [f3 1 (by decide)]; exact e1) e3 (fun k k1 k2 k3 k5 => by rw [f3 k k2]; exact fr k k1 k2 k3 k5)
          · refine aw_lconst (v := 0) dX8_findDivisor_132 (by decide) ?_
            refine aw_lcmp dX8_findDivisor_133 ?_
            refine aw_if_ne (tgt := 148) dX8_findDivisor_134 (by decide) (fun _ => ?_) (fun c => ((fun c => ho' ((lc0 (x := s' % 2) (by omega)).mp c)) c).elim)
            exact step s' A' (by omega) h3 hg e1 e2 fr
      refine aw_aload_n (i := 0) dX8_findDivisor_114 rfl rfl ?_
      refine aw_getfield fX8_13 dX8_findDivisor_115 (by rw [mh_0]; exact hm) rfl ?_
      refine aw_invokestatic kX8_120 dX8_findDivisor_118 (mc_top n h m A' 2 s rfl rfl e2) rfl rfl (Nat.le_of_ble_eq_true rfl) ⟨Nat.le_of_ble_eq_true rfl, Nat.le_of_ble_eq_true rfl⟩ ⟨Nat.le_of_ble_eq_true rfl, Nat.le_of_ble_eq_true rfl⟩ ?_
      rintro _ _ _ ⟨rfl, rfl, t, rfl, ht⟩
      have ht96 := ht.1
      by_cases hs0 : s = 0
      · obtain rfl : t = 0 := (tpp_0 ht e2).mpr hs0
        refine aw_if_lt (tgt := 209) dX8_findDivisor_121 (by decide) (fun _ => ?_) (fun c => (c ((pI_lt0 (by decide)).mpr rfl)).elim)
        exact last sh f A' _ x5 hsh (by rw [hs0, Nat.gcd_zero_right] at hg; exact hg) e1 fr
      · refine aw_if_lt (tgt := 209) dX8_findDivisor_121 (by decide) (fun c => absurd c (fun q => hs0 ((tpp_0 ht e2).mp ((pI_lt0 (by omega)).mp q)))) (fun _ => ?_)
        exact even s s A' (Nat.le_refl _) (by omega) (Nat.le_refl _) hg e1 e2 fr
  -- first is even no more
  have odd : ∀ (q mo sh f s : Nat) (A' : Nat → Nat → Nat) (x5 : Option Value), f ≤ q → 0 < f → mo < 96 → f < (2 ^ 28) ^ (mo + 1) → s < (2 ^ 28) ^ (mo + 1) → (f % 2 = 0 → s % 2 = 1) → sh < 2688 → Nat.gcd f s * 2 ^ sh = Nat.gcd va vb → dg (A' 1) f → dg (A' 2) s → (∀ k, k ≠ 1 → k ≠ 2 → k ≠ 3 → k ≠ 5 → A' k = A k) → AW mX8_findDivisor (gq 0 0 Q) 90 [some (.ref m), some (.ref (m + 9)), some (.ref (m + 10)), some (.int (nI mo)), some (.int (nI sh)), x5] [] 0 0 n (mh h m A') := by
    intro q
    induction q with
    | zero => intro mo sh f s A' x5 h1 h2; omega
    | succ q ihq =>
      intro mo sh f s A' x5 h1 h2 hmo hf hs ho hsh hg e1 e2 fr
      refine aw_aload_n (i := 0) dX8_findDivisor_90 rfl rfl ?_
      refine aw_getfield fX8_7 dX8_findDivisor_91 (by rw [mh_0]; exact hm) rfl ?_
      refine aw_iconst (v := 0) dX8_findDivisor_94 (by decide +kernel) ?_
      refine aw_lald dX8_findDivisor_95 0 (mh_96 h m A' rfl rfl) (by decide +kernel) (by decide) ?_
      refine aw_lconst (v := 1) dX8_findDivisor_96 (by decide) ?_
      refine aw_land dX8_findDivisor_97 ?_
      rw [lN_and1, dg_odd e1]
      by_cases hf2 : f % 2 = 0
      · refine aw_lconst (v := 0) dX8_findDivisor_98 (by decide) ?_
        refine aw_lcmp dX8_findDivisor_99 ?_
        refine aw_if_ne (tgt := 114) dX8_findDivisor_100 (by decide) (fun c => absurd c (fun c => c ((lc0 (by omega)).mpr hf2))) (fun _ => ?_)
        refine aw_aload_n (i := 0) dX8_findDivisor_103 rfl rfl ?_
        refine aw_getfield fX8_7 dX8_findDivisor_104 (by rw [mh_0]; exact hm) rfl ?_
        refine aw_iload_n (i := 3) dX8_findDivisor_107 rfl rfl ?_
        refine aw_invokestatic kX8_132 dX8_findDivisor_108 (mc_half n h m A' 1 f mo rfl rfl e1 hmo hf) rfl rfl (Nat.le_of_ble_eq_true rfl) ⟨Nat.le_of_ble_eq_true rfl, Nat.le_of_ble_eq_true rfl⟩ ⟨Nat.le_of_ble_eq_true rfl, Nat.le_of_ble_eq_true rfl⟩ ?_
        rintro _ _ _ ⟨rfl, rfl, A3, rfl, e3, f3⟩
        refine aw_goto (tgt := 90) dX8_findDivisor_111 (by decide) ?_
        exact ihq mo sh (f / 2) s A3 x5 (by omega) (by omega) hmo (by omega) hs (fun _ => ho hf2) hsh (by rw [gcd_half hf2 (ho hf2)]; exact hg) e3 (by rw [f3 2 (by decide)]; exact e2) (fun k k1 k2 k3 k5 => by rw [f3 k k1]; exact fr k k1 k2 k3 k5)
      · refine aw_lconst (v := 0) dX8_findDivisor_98 (by decide) ?_
        refine aw_lcmp dX8_findDivisor_99 ?_
        refine aw_if_ne (tgt := 114) dX8_findDivisor_100 (by decide) (fun _ => ?_) (fun c => ((fun c => hf2 ((lc0 (x := f % 2) (by omega)).mp c)) c).elim)
        exact main (f + s) mo sh f s A' x5 (Nat.le_refl _) hmo hf hs (by omega) hsh hg e1 e2 fr
  have both : ∀ (q mo sh f s : Nat) (A' : Nat → Nat → Nat) (x5 : Option Value), f ≤ q → 0 < f → 0 < s → mo < 96 → f < (2 ^ 28) ^ (mo + 1) → s < (2 ^ 28) ^ (mo + 1) → f * 2 ^ sh = va → Nat.gcd f s * 2 ^ sh = Nat.gcd va vb → dg (A' 1) f → dg (A' 2) s → (∀ k, k ≠ 1 → k ≠ 2 → k ≠ 3 → k ≠ 5 → A' k = A k) → AW mX8_findDivisor (gq 0 0 Q) 42 [some (.ref m), some (.ref (m + 9)), some (.ref (m + 10)), some (.int (nI mo)), some (.int (nI sh)), x5] [] 0 0 n (mh h m A') := by
    intro q
    induction q with
    | zero => intro mo sh f s A' x5 h1 h2; omega
    | succ q ihq =>
      intro mo sh f s A' x5 h1 h2 h3 hmo hf hs hfv hg e1 e2 fr
      have hsh : sh < 2688 := by
        have : 1 * 2 ^ sh ≤ f * 2 ^ sh := Nat.mul_le_mul_right _ h2
        have : 2 ^ sh < 2 ^ 2688 := by omega
        exact (Nat.pow_lt_pow_iff_right (by decide)).mp this
      refine aw_aload_n (i := 0) dX8_findDivisor_42 rfl rfl ?_
      refine aw_getfield fX8_7 dX8_findDivisor_43 (by rw [mh_0]; exact hm) rfl ?_
      refine aw_iconst (v := 0) dX8_findDivisor_46 (by decide +kernel) ?_
      refine aw_lald dX8_findDivisor_47 0 (mh_96 h m A' rfl rfl) (by decide +kernel) (by decide) ?_
      refine aw_lconst (v := 1) dX8_findDivisor_48 (by decide) ?_
      refine aw_land dX8_findDivisor_49 ?_
      rw [lN_and1, dg_odd e1]
      by_cases hf2 : f % 2 = 0
      · refine aw_lconst (v := 0) dX8_findDivisor_50 (by decide) ?_
        refine aw_lcmp dX8_findDivisor_51 ?_
        refine aw_if_ne (tgt := 90) dX8_findDivisor_52 (by decide) (fun c => absurd c (fun c => c ((lc0 (by omega)).mpr hf2))) (fun _ => ?_)
        refine aw_aload_n (i := 0) dX8_findDivisor_55 rfl rfl ?_
        refine aw_getfield fX8_13 dX8_findDivisor_56 (by rw [mh_0]; exact hm) rfl ?_
        refine aw_iconst (v := 0) dX8_findDivisor_59 (by decide +kernel) ?_
        refine aw_lald dX8_findDivisor_60 0 (mh_96 h m A' rfl rfl) (by decide +kernel) (by decide) ?_
        refine aw_lconst (v := 1) dX8_findDivisor_61 (by decide) ?_
        refine aw_land dX8_findDivisor_62 ?_
        rw [lN_and1, dg_odd e2]
        by_cases hs2 : s % 2 = 0
        · refine aw_lconst (v := 0) dX8_findDivisor_63 (by decide) ?_
          refine aw_lcmp dX8_findDivisor_64 ?_
          refine aw_if_ne (tgt := 90) dX8_findDivisor_65 (by decide) (fun c => absurd c (fun c => c ((lc0 (by omega)).mpr hs2))) (fun _ => ?_)
          refine aw_aload_n (i := 0) dX8_findDivisor_68 rfl rfl ?_
          refine aw_getfield fX8_7 dX8_findDivisor_69 (by rw [mh_0]; exact hm) rfl ?_
          refine aw_iload_n (i := 3) dX8_findDivisor_72 rfl rfl ?_
          refine aw_invokestatic kX8_132 dX8_findDivisor_73 (mc_half n h m A' 1 f mo rfl rfl e1 hmo hf) rfl rfl (Nat.le_of_ble_eq_true rfl) ⟨Nat.le_of_ble_eq_true rfl, Nat.le_of_ble_eq_true rfl⟩ ⟨Nat.le_of_ble_eq_true rfl, Nat.le_of_ble_eq_true rfl⟩ ?_
          rintro _ _ _ ⟨rfl, rfl, A3, rfl, e3, f3⟩
          refine aw_aload_n (i := 0) dX8_findDivisor_76 rfl rfl ?_
          refine aw_getfield fX8_13 dX8_findDivisor_77 (by rw [mh_0]; exact hm) rfl ?_
          refine aw_iload_n (i := 3) dX8_findDivisor_80 rfl rfl ?_
          refine aw_invokestatic kX8_132 dX8_findDivisor_81 (mc_half n h m A3 2 s mo rfl rfl (by rw [f3 2 (by decide)]; exact e2) hmo hs) rfl rfl (Nat.le_of_ble_eq_true rfl) ⟨Nat.le_of_ble_eq_true rfl, Nat.le_of_ble_eq_true rfl⟩ ⟨Nat.le_of_ble_eq_true rfl, Nat.le_of_ble_eq_true rfl⟩ ?_
          rintro _ _ _ ⟨rfl, rfl, A4, rfl, e4, f4⟩
          refine aw_iinc_4 (c0 := 1) dX8_findDivisor_84 (by decide) (by decide) rfl ?_
          refine aw_goto (tgt := 42) dX8_findDivisor_87 (by decide) ?_
          rw [nI_1]
          refine ihq mo (sh + 1) (f / 2) (s / 2) A4 x5 (by omega) (by omega) (by omega) hmo (by omega) (by omega) ?_ ?_ (by rw [f4 1 (by decide)]; exact e3) e4 (fun k k1 k2 k3 k5 => by rw [f4 k k2, f3 k k1]; exact fr k k1 k2 k3 k5)
          · rw [← hfv, Nat.pow_succ, Nat.mul_comm (2 ^ sh) 2, ← Nat.mul_assoc]; congr 1; omega
          · rw [← hg, gcd_both hf2 hs2, Nat.pow_succ, Nat.mul_comm (2 ^ sh) 2, ← Nat.mul_assoc, Nat.mul_comm 2]
        · refine aw_lconst (v := 0) dX8_findDivisor_63 (by decide) ?_
          refine aw_lcmp dX8_findDivisor_64 ?_
          refine aw_if_ne (tgt := 90) dX8_findDivisor_65 (by decide) (fun _ => ?_) (fun c => ((fun c => hs2 ((lc0 (x := s % 2) (by omega)).mp c)) c).elim)
          exact odd f mo sh f s A' x5 (Nat.le_refl _) h2 hmo hf hs (fun _ => by omega) hsh hg e1 e2 fr
      · refine aw_lconst (v := 0) dX8_findDivisor_50 (by decide) ?_
        refine aw_lcmp dX8_findDivisor_51 ?_
        refine aw_if_ne (tgt := 90) dX8_findDivisor_52 (by decide) (fun _ => ?_) (fun c => ((fun c => hf2 ((lc0 (x := f % 2) (by omega)).mp c)) c).elim)
        exact odd f mo sh f s A' x5 (Nat.le_refl _) h2 hmo hf hs (fun q => absurd q hf2) hsh hg e1 e2 fr
  -- how many parts
  have start : ∀ (mo : Nat), mo < 96 → va < (2 ^ 28) ^ (mo + 1) → vb < (2 ^ 28) ^ (mo + 1) → AW mX8_findDivisor (gq 0 0 Q) 38 [some (.ref m), some (.ref (m + 9)), some (.ref (m + 10)), none, none, none] [.int (nI mo)] 0 0 n (mh h m A2) := by
    intro mo h1 h2 h3
    refine aw_istore_3 dX8_findDivisor_38 (by decide) rfl ?_
    refine aw_iconst (v := 0) dX8_findDivisor_39 (by decide +kernel) ?_
    refine aw_istore_4 dX8_findDivisor_40 (by decide) rfl ?_
    exact both va mo 0 va vb A2 none (Nat.le_refl _) pa pb h1 h2 h3 (by simp) (by simp) d1 d2 (fun k k1 k2 _ _ => fr k k1 k2)
  refine aw_aload_n (i := 1) dX8_findDivisor_16 rfl rfl ?_
  refine aw_invokestatic kX8_120 dX8_findDivisor_17 (mc_top n h m A2 9 va rfl rfl d9) rfl rfl (Nat.le_of_ble_eq_true rfl) ⟨Nat.le_of_ble_eq_true rfl, Nat.le_of_ble_eq_true rfl⟩ ⟨Nat.le_of_ble_eq_true rfl, Nat.le_of_ble_eq_true rfl⟩ ?_
  rintro _ _ _ ⟨rfl, rfl, ta, rfl, hta⟩
  refine aw_aload_n (i := 2) dX8_findDivisor_20 rfl rfl ?_
  refine aw_invokestatic kX8_120 dX8_findDivisor_21 (mc_top n h m A2 10 vb rfl rfl d10) rfl rfl (Nat.le_of_ble_eq_true rfl) ⟨Nat.le_of_ble_eq_true rfl, Nat.le_of_ble_eq_true rfl⟩ ⟨Nat.le_of_ble_eq_true rfl, Nat.le_of_ble_eq_true rfl⟩ ?_
  rintro _ _ _ ⟨rfl, rfl, tb, rfl, htb⟩
  have la := hta.1
  have lb := htb.1
  have na : ta ≠ 0 := fun q => by have := (tpp_0 hta d9).mp q; omega
  have nb0 : tb ≠ 0 := fun q => by have := (tpp_0 htb d10).mp q; omega
  have va' : va < (2 ^ 28) ^ ta := by rw [tpp_val hta d9]; exact bv_lt (fun i hi => d9.1 i (by omega))
  have vb' : vb < (2 ^ 28) ^ tb := by rw [tpp_val htb d10]; exact bv_lt (fun i hi => d10.1 i (by omega))
  by_cases hc : ta ≤ tb
  · refine aw_icmp_le (tgt := 34) dX8_findDivisor_24 (by decide) (fun _ => ?_) (fun c => (c (by rw [Int32.le_iff_toInt_le, pI_T (by omega), pI_T (by omega)]; omega)).elim)
    refine aw_aload_n (i := 2) dX8_findDivisor_34 rfl rfl ?_
    refine aw_invokestatic kX8_120 dX8_findDivisor_35 (mc_top n h m A2 10 vb rfl rfl d10) rfl rfl (Nat.le_of_ble_eq_true rfl) ⟨Nat.le_of_ble_eq_true rfl, Nat.le_of_ble_eq_true rfl⟩ ⟨Nat.le_of_ble_eq_true rfl, Nat.le_of_ble_eq_true rfl⟩ ?_
    rintro _ _ _ ⟨rfl, rfl, tb', rfl, htb'⟩
    have vb'' : vb < (2 ^ 28) ^ tb' := by rw [tpp_val htb' d10]; exact bv_lt (fun i hi => d10.1 i (by have := htb'.1; omega))
    have hle := tpp_le htb d10 (k := tb') (by rw [Nat.pow_mul]; exact vb'')
    obtain ⟨mo, rfl⟩ : ∃ mo, tb' = mo + 1 := ⟨tb' - 1, by omega⟩
    rw [pI_s]
    exact start mo (by have := htb'.1; omega) (Nat.lt_of_lt_of_le va' (Nat.pow_le_pow_right (by decide) (by omega))) vb''
  · refine aw_icmp_le (tgt := 34) dX8_findDivisor_24 (by decide) (fun c => absurd c (by rw [Int32.le_iff_toInt_le, pI_T (by omega), pI_T (by omega)]; omega)) (fun _ => ?_)
    refine aw_aload_n (i := 1) dX8_findDivisor_27 rfl rfl ?_
    refine aw_invokestatic kX8_120 dX8_findDivisor_28 (mc_top n h m A2 9 va rfl rfl d9) rfl rfl (Nat.le_of_ble_eq_true rfl) ⟨Nat.le_of_ble_eq_true rfl, Nat.le_of_ble_eq_true rfl⟩ ⟨Nat.le_of_ble_eq_true rfl, Nat.le_of_ble_eq_true rfl⟩ ?_
    rintro _ _ _ ⟨rfl, rfl, ta', rfl, hta'⟩
    have va'' : va < (2 ^ 28) ^ ta' := by rw [tpp_val hta' d9]; exact bv_lt (fun i hi => d9.1 i (by have := hta'.1; omega))
    have hle := tpp_le hta d9 (k := ta') (by rw [Nat.pow_mul]; exact va'')
    obtain ⟨mo, rfl⟩ : ∃ mo, ta' = mo + 1 := ⟨ta' - 1, by omega⟩
    refine aw_goto (tgt := 38) dX8_findDivisor_31 (by decide) ?_
    rw [pI_s]
    exact start mo (by have := hta'.1; omega) va'' (Nat.lt_of_lt_of_le vb' (Nat.pow_le_pow_right (by decide) (by omega)))
