/-! how the model holds a state -/
def plc (A : Nat → Nat → Nat) (bo : Nat → Nat) (p : Nat) (o : Option (Nat × Nat)) : Prop := bo p = (if o.isSome then 1 else 0) ∧ ∀ u d, o = some (u, d) → mD (A 6) (40 * p) 40 u ∧ mD (A 7) (40 * p) 40 d
def mobS (m : Nat) (S : TS) : AC := mobj m (nI (sN S)) (nI (sNw S)) (nI (sB S)) (nI (sCA S)) (nI (sCB S)) (nI (sLC S)) (nI (sLD S)) (nI (sLE S))
def MB (h0 : Hp) (m : Nat) (S : TS) (bo ki mo wt : Nat → Nat) : Prop := h0 m = some (mobS m S) ∧ h0 (m + 8) = some (bar 16 bo) ∧ h0 (m + 17) = some (iar 16 ki) ∧ h0 (m + 18) = some (iar 16 mo) ∧ h0 (m + 21) = some (iar 8 wt) ∧ (∀ i, i < sNw S → wt i = sW S i) ∧ ∀ s, s < sN S → ki s = sK S s ∧ mo s = sT S s
def MA (A : Nat → Nat → Nat) (S : TS) (bo : Nat → Nat) : Prop := (∀ s, s < sN S → mD (A 20) (10 * s) 10 (stot S s) ∧ ∀ v, v ≤ sT S s → mD (A 19) (10 * (121 * s + v)) 10 (sC S s v)) ∧ ∀ p, p < 16 → plc A bo p (sP S p)
def MRep (h : Hp) (m : Nat) (S : TS) : Prop := ∃ (h0 : Hp) (A : Nat → Nat → Nat) (bo ki mo wt : Nat → Nat), h = mh h0 m A ∧ MB h0 m S bo ki mo wt ∧ MA A S bo
def mfr (m : Nat) (h h' : Hp) : Prop := ∀ y, (y < m ∨ m + 32 ≤ y) → h' y = h y
theorem mh_fr {h : Hp} {m y : Nat} {A : Nat → Nat → Nat} (hy : y < m ∨ m + 32 ≤ y) : mh h m A y = h y := by
  unfold mh
  rw [if_neg]
  rintro ⟨h1, h2⟩
  unfold lidx at h2
  simp at h2
  omega
theorem mfr_mh {h0 h0' : Hp} {m : Nat} {A A' : Nat → Nat → Nat} (e : ∀ y, (y < m ∨ m + 32 ≤ y) → h0' y = h0 y) : mfr m (mh h0 m A) (mh h0' m A') := fun y hy => by rw [mh_fr hy, mh_fr hy, e y hy]
theorem MA.keep {A A' : Nat → Nat → Nat} {S : TS} {bo : Nat → Nat} (h : MA A S bo) (e6 : A' 6 = A 6) (e7 : A' 7 = A 7) (e19 : A' 19 = A 19) (e20 : A' 20 = A 20) : MA A' S bo := by
  unfold MA plc at *
  rw [e6, e7, e19, e20]; exact h
/-- a call's end: the answer and the state, as the spec has them -/
def MOK (n m : Nat) (h : Hp) (q : Int32 × TS) : Option Value → Nat → Hp → Prop := fun r n' h' => n = n' ∧ r = some (.int q.1) ∧ MRep h' m q.2 ∧ mfr m h h'
def MOKl (n m : Nat) (h : Hp) (q : Int64 × TS) : Option Value → Nat → Hp → Prop := fun r n' h' => n = n' ∧ r = some (.long q.1) ∧ MRep h' m q.2 ∧ mfr m h h'
theorem mfr_rf {m : Nat} {h : Hp} : mfr m h h := fun _ _ => rfl
theorem bI_ne0 {b : Bool} : ¬ bI b = 0 ↔ b = true := by cases b <;> decide
theorem bI_eq0 {b : Bool} : bI b = 0 ↔ b = false := by cases b <;> decide
theorem toInt_lit0 : (0 : Int32).toInt = 0 := by decide +kernel
theorem MB.ob {h0 : Hp} {m : Nat} {S : TS} {bo ki mo wt : Nat → Nat} (h : MB h0 m S bo ki mo wt) : mob h0 m := ⟨_, _, _, _, _, _, _, _, h.1⟩
theorem mt_weight (n : Nat) (h : Hp) (m : Nat) (S : TS) (x : Int32) (hR : MRep h m S) (hI : SInv S) : CT mX8_weight 0 0 n h [.ref m, .int x] (MOK n m h (opWeight S x)) := by
  obtain ⟨h0, A, bo, ki, mo, wt, rfl, B, hA⟩ := id hR
  refine CT.intro [some (.ref m), some (.int x)] 0 rfl rfl (by decide) ?_
  intro Q hQ
  refine aw_iload_n (i := 1) dX8_weight_0 rfl rfl ?_
  refine aw_iconst (v := 0) dX8_weight_1 (by decide +kernel) ?_
  refine aw_sipush (v := 1000) dX8_weight_2 (by decide +kernel) ?_
  refine aw_invokestatic kX8_153 dX8_weight_5 (ct_X8_in n (mh h0 m A) x 0 1000) rfl rfl (Nat.le_of_ble_eq_true rfl) ⟨Nat.le_of_ble_eq_true rfl, Nat.le_of_ble_eq_true rfl⟩ ⟨Nat.le_of_ble_eq_true rfl, Nat.le_of_ble_eq_true rfl⟩ ?_
  rintro _ _ _ ⟨rfl, rfl, rfl⟩
  rw [le_rg, show (0 : Int32).toInt = 0 by decide +kernel, show (1000 : Int32).toInt = 1000 by decide +kernel]
  by_cases hr : rg x 0 1000 = true
  · obtain ⟨ex, -, -, hx⟩ := rg_N hr (by decide)
    refine aw_if_ne (tgt := 13) dX8_weight_8 (by decide) (fun _ => ?_) (fun c => ((bI_ne0.mpr hr) c).elim)
    refine aw_aload_n (i := 0) dX8_weight_13 rfl rfl ?_
    refine aw_getfield fX8_181 dX8_weight_14 (by rw [mh_0]; exact B.1) rfl ?_
    refine aw_bipush (v := 8) dX8_weight_17 (by decide +kernel) ?_
    have hn8 := hI.1.1
    by_cases h8 : sNw S = 8
    · refine aw_icmp_ne (tgt := 25) dX8_weight_19 (by decide) (fun c => absurd c (fun c => c (by rw [h8]; rfl))) (fun _ => ?_)
      refine aw_bipush (v := (-3)) dX8_weight_22 (by decide +kernel) ?_
      refine aw_ireturn dX8_weight_24 rfl rfl (Nat.le_of_ble_eq_true rfl) (Nat.le_of_ble_eq_true rfl) ?_
      refine hQ _ _ _ ⟨rfl, ?_, ?_, mfr_rf⟩ <;> (unfold opWeight; rw [if_pos hr, if_pos h8])
      exact hR
    · refine aw_icmp_ne (tgt := 25) dX8_weight_19 (by decide) (fun _ => ?_) (fun c => ((fun c => h8 ((nI_eq (b := 8) (by omega) (by decide)).mp c)) c).elim)
      refine aw_aload_n (i := 0) dX8_weight_25 rfl rfl ?_
      refine aw_getfield fX8_72 dX8_weight_26 (by rw [mh_0]; exact B.1) rfl ?_
      refine aw_aload_n (i := 0) dX8_weight_29 rfl rfl ?_
      refine aw_getfield fX8_181 dX8_weight_30 (by rw [mh_0]; exact B.1) rfl ?_
      refine aw_iload_n (i := 1) dX8_weight_33 rfl rfl ?_
      refine aw_iast dX8_weight_34 (sNw S) (tN x) ex (by rw [mh_no h0 m A rfl]; exact B.2.2.2.2.1) (nI_toInt (by omega)) (by omega) ?_
      refine AW.hp (mh_upn h0 m A rfl _) ?_
      refine aw_aload_n (i := 0) dX8_weight_35 rfl rfl ?_
      refine aw_dup dX8_weight_36 rfl ?_
      refine aw_getfield fX8_181 dX8_weight_37 (by rw [mh_0, hup_ne (by omega)]; exact B.1) rfl ?_
      refine aw_iconst (v := 1) dX8_weight_40 (by decide +kernel) ?_
      refine aw_iadd dX8_weight_41 ?_
      refine aw_putfield fX8_181 dX8_weight_42 (by rw [mh_0, hup_ne (by omega)]; exact B.1) rfl rfl (Nat.le_of_ble_eq_true rfl) ?_
      dsimp only [List.set]
      refine AW.hp (mh_upo _ m A (mobj m (nI (sN S)) (nI (sNw S) + 1) (nI (sB S)) (nI (sCA S)) (nI (sCB S)) (nI (sLC S)) (nI (sLD S)) (nI (sLE S)))) ?_
      refine aw_aload_n (i := 0) dX8_weight_45 rfl rfl ?_
      refine aw_getfield fX8_181 dX8_weight_46 (by rw [mh_0]; exact hup_self _ _ _) rfl ?_
      rw [nI_1]
      refine aw_ireturn dX8_weight_49 rfl rfl (Nat.le_of_ble_eq_true rfl) (Nat.le_of_ble_eq_true rfl) ?_
      refine hQ _ _ _ ⟨rfl, ?_, ?_, mfr_mh (fun y hy => by rw [hup_ne (by omega), hup_ne (by omega)])⟩ <;> (unfold opWeight; rw [if_pos hr, if_neg h8])
      refine ⟨_, A, bo, ki, mo, va_up wt (sNw S) (tN x), rfl, ⟨hup_self _ _ _, ?_, ?_, ?_, ?_, ?_, B.2.2.2.2.2.2⟩, hA⟩
      · rw [hup_ne (by omega), hup_ne (by omega)]; exact B.2.1
      · rw [hup_ne (by omega), hup_ne (by omega)]; exact B.2.2.1
      · rw [hup_ne (by omega), hup_ne (by omega)]; exact B.2.2.2.1
      · rw [hup_ne (by omega), hup_self]
      · intro i hi
        by_cases hm : i = sNw S
        · rw [hm]; show va_up wt _ _ _ = va_up _ _ _ _; rw [va_up_at, va_up_at]
        · show va_up wt _ _ _ = va_up _ _ _ _
          rw [va_up_off hm, va_up_off hm]; exact B.2.2.2.2.2.1 i (by have : i < sNw S + 1 := hi; omega)
  · refine aw_if_ne (tgt := 13) dX8_weight_8 (by decide) (fun c => absurd c (fun c => c (bI_eq0.mpr (by simpa using hr)))) (fun _ => ?_)
    refine aw_iconst (v := (-1)) dX8_weight_11 (by decide +kernel) ?_
    refine aw_ireturn dX8_weight_12 rfl rfl (Nat.le_of_ble_eq_true rfl) (Nat.le_of_ble_eq_true rfl) ?_
    refine hQ _ _ _ ⟨rfl, ?_, ?_, mfr_rf⟩ <;> (unfold opWeight; rw [if_neg hr])
    exact hR
