/-! the class: where all lies, X its address -/
def Lo (k o : Nat) : Nat := if o < 46 then (if o = 6 ∨ o = 8 ∨ o = 10 ∨ o = 13 ∨ o = 15 ∨ o = 17 ∨ o = 19 ∨ o = 21 ∨ o = 24 ∨ o = 26 ∨ o = 28 ∨ o = 30 ∨ o = 32 ∨ o = 34 then 72 else if o = 37 then 8 else if o = 41 ∨ o = 43 then 10 else 0) else if o < 126 then (if (o - 46) % 5 = 1 ∨ (o - 46) % 5 = 3 then 32 else 0) else if o < 158 then 0 else if o - 158 < 10 * k then (if (o - 158) % 10 = 3 then 8 else if (o - 158) % 10 = 6 ∨ (o - 158) % 10 = 8 then 9 else 0) else 0
def LC (X k : Nat) : Nat → Nat := fun a => if a < X then 0 else Lo k (a - X)
theorem LC_at (X k c : Nat) : LC X k (X + c) = Lo k c := by unfold LC; rw [if_neg (by omega), Nat.add_sub_cancel_left]
theorem LC_lt {X k a : Nat} (h : a < X) : LC X k a = 0 := by unfold LC; rw [if_pos h]
theorem Lo_W (k o : Nat) : Lo k o ≤ 72 ∧ (Lo k o ≠ 0 → 2 ≤ Lo k o ∧ Lo k (o + 1) = 0) := by
  unfold Lo
  constructor
  · repeat' split
    all_goals omega
  · repeat' split
    all_goals (intro h; first | omega | (refine ⟨by omega, ?_⟩; first | rfl | omega))
theorem LC_W (X k : Nat) : LW (LC X k) := by
  intro a
  by_cases h : a < X
  · rw [LC_lt h]; exact ⟨by decide, fun q => absurd rfl q⟩
  · obtain ⟨o, rfl⟩ : ∃ o, a = X + o := ⟨a - X, by omega⟩
    rw [Nat.add_assoc, LC_at, LC_at]; exact Lo_W k o
theorem Lo_pl {k p : Nat} (hp : p < 16) : Lo k (46 + 5 * p) = 0 ∧ Lo k (46 + 5 * p - 1) = 0 ∧ Lo k (46 + 5 * p + 1) = 32 ∧ Lo k (46 + 5 * p + 3) = 32 := by
  unfold Lo
  refine ⟨?_, ?_, ?_, ?_⟩
  · rw [if_neg (by omega), if_pos (by omega), if_neg (by omega)]
  · by_cases h0 : p = 0
    · subst h0; rfl
    · rw [if_neg (by omega), if_pos (by omega), if_neg (by omega)]
  · rw [if_neg (by omega), if_pos (by omega), if_pos (by omega)]
  · rw [if_neg (by omega), if_pos (by omega), if_pos (by omega)]
theorem Lo_so {k j c : Nat} (hj : j < k) (hc : c < 10) : Lo k (158 + 10 * j + c) = (if c = 3 then 8 else if c = 6 ∨ c = 8 then 9 else 0) := by
  unfold Lo
  rw [if_neg (by omega), if_neg (by omega), if_neg (by omega), if_pos (by omega), show (158 + 10 * j + c - 158) % 10 = c by omega]
theorem Lo_out {k o : Nat} (h : 158 + 10 * k ≤ o) : Lo k o = 0 := by
  unfold Lo
  rw [if_neg (by omega), if_neg (by omega), if_neg (by omega), if_neg (by omega)]
/-- where source j lies: its row, the source itself two behind it -/
def sob (X j : Nat) : Nat := X + (158 + 10 * j)
def plb (X p : Nat) : Nat := X + (46 + 5 * p)
def oar (Cn : String) (len : Nat) (f : Nat → Option Nat) : AC := .inl (.object Cn, len, .inr (.inr (.inr (.inr f))))
def cob (X : Nat) (S : TS) : AC := .inr (7, [.ref (X + 1), .ref (X + 2), .ref (X + 3), .ref (X + 4), .ref (X + 5), .ref (X + 10), .ref (X + 12), .ref (X + 23), .ref (X + 36), .int (nI (sNw S)), .int (nI (sN S)), .int (nI (sB S)), .int (nI (sCA S)), .int (nI (sCB S)), .int (nI (sLC S)), .int (nI (sLD S)), .int (nI (sLE S))])
def mem (M : Nat) : AC := .inr (2, [.ref (M + 1), .ref (M + 3), .ref (M + 5), .ref (M + 7), .ref (M + 9), .ref (M + 11)])
def tob (T td : Nat) : AC := .inr (6, [.ref (T + 1), .ref (T + 3), .ref (T + 5), .ref (T + 7), .ref (T + 9), .int (nI td)])
def sor (b kd : Nat) : AC := .inr (5, [.int (nI kd), .ref b, .ref (b + 3), .ref (b + 5)])
def wdt (v : Nat) : Nat := (nb v + 31) / 32
/-- the objects that never go -/
def CO (h : Hp) (X : Nat) (S : TS) : Prop :=
  h X = some (cob X S) ∧ (∃ wt, h (X + 1) = some (iar 8 wt) ∧ ∀ i, i < sNw S → wt i = sW S i) ∧
  (∃ fs, h (X + 2) = some (oar "TailBounds$Source" 16 fs) ∧ ∀ j, j < sN S → fs j = some (sob X j + 2)) ∧
  (∃ fp, h (X + 3) = some (oar "TailBounds$Fraction" 16 fp) ∧ ∀ p, p < 16 → fp p = some (plb X p)) ∧
  (∃ od, h (X + 4) = some (iar 2 od)) ∧ h (X + 5) = some (fobj (X + 5) 0) ∧ h (X + 23) = some (mem (X + 23)) ∧
  ∃ td sh g, h (X + 36) = some (tob (X + 36) td) ∧ h (X + 45) = some (iar 2 sh) ∧ Row h (X + 39) 40 8 g
/-- the places -/
def CP (h : Hp) (N : NC) (X : Nat) (S : TS) : Prop := ∀ p, p < 16 → h (plb X p) = some (fobj (plb X p) (if (sP S p).isSome then 1 else 0)) ∧ ∀ u d, sP S p = some (u, d) → num 32 (N (plb X p + 1)) u ∧ num 32 (N (plb X p + 3)) d
/-- one source -/
def SRC (h : Hp) (N : NC) (b kd t : Nat) (c : Nat → Nat) (tot me : Nat) : Prop := h (b + 2) = some (sor b kd) ∧ (∃ g, Row h b t (wdt tot) g ∧ rok t (wdt tot) g c) ∧ h (b + 5) = some (fobj (b + 5) 0) ∧ num 8 (N (b + 3)) tot ∧ num 9 (N (b + 6)) (me / Nat.gcd me tot) ∧ num 9 (N (b + 8)) (tot / Nat.gcd me tot)
def CQ (h : Hp) (N : NC) (X : Nat) (S : TS) : Prop := ∀ j, j < sN S → SRC h N (sob X j) (sK S j) (sT S j) (sC S j) (stot S j) (smean S j)
def CS (h : Hp) (N : NC) (X : Nat) (S : TS) : Prop := NA (LC X (sN S)) N ∧ CO h X S ∧ CP h N X S ∧ CQ h N X S ∧ ∃ R H W, DVx h (LC X (sN S)) (X + 12) R H W
def CRep (h : Hp) (X : Nat) (S : TS) : Prop := ∃ hc N, h = nh hc (LC X (sN S)) N ∧ CS hc N X S
/-- a call's end -/
def cn (X : Nat) (S : TS) : Nat := X + (158 + 10 * sN S)
def cfr (X : Nat) (h h' : Hp) : Prop := ∀ y, (y < X ∨ X + 126 ≤ y) → y < X + 158 → h' y = h y
def COK (X : Nat) (h : Hp) (q : Int32 × TS) : Option Value → Nat → Hp → Prop := fun r n' h' => cn X q.2 = n' ∧ r = some (.int q.1) ∧ CRep h' X q.2 ∧ cfr X h h'
def COKl (X : Nat) (h : Hp) (q : Int64 × TS) : Option Value → Nat → Hp → Prop := fun r n' h' => cn X q.2 = n' ∧ r = some (.long q.1) ∧ CRep h' X q.2 ∧ cfr X h h'
theorem cfr_rf {X : Nat} {h : Hp} : cfr X h h := fun _ _ _ => rfl
/-- addresses of objects hold no number -/
theorem nh_X {hc : Hp} {X k c : Nat} (N : NC) (h0 : Lo k c = 0) (h1 : c = 0 ∨ Lo k (c - 1) = 0) : nh hc (LC X k) N (X + c) = hc (X + c) := by
  refine nh_no hc N (by rw [LC_at]; exact h0) ?_
  rcases h1 with e | e
  · subst e
    by_cases hX : X = 0
    · subst hX
      rw [show 0 + 0 - 1 = 0 + 0 from rfl, LC_at]; exact h0
    · exact LC_lt (by omega)
  · by_cases hc0 : c = 0
    · subst hc0
      by_cases hX : X = 0
      · subst hX
        rw [show 0 + 0 - 1 = 0 + 0 from rfl, LC_at]; exact h0
      · exact LC_lt (by omega)
    · rw [show X + c - 1 = X + (c - 1) by omega, LC_at]; exact e
theorem upn_X {hc : Hp} {X k c : Nat} (N : NC) (h0 : Lo k c = 0) (h1 : c = 0 ∨ Lo k (c - 1) = 0) (ac : AC) : hup (nh hc (LC X k) N) (X + c) ac = nh (hup hc (X + c) ac) (LC X k) N := by
  refine nh_upn hc N (by rw [LC_at]; exact h0) ?_ ac
  rcases h1 with e | e
  · subst e
    by_cases hX : X = 0
    · subst hX
      rw [show 0 + 0 - 1 = 0 + 0 from rfl, LC_at]; exact h0
    · exact LC_lt (by omega)
  · by_cases hc0 : c = 0
    · subst hc0
      by_cases hX : X = 0
      · subst hX
        rw [show 0 + 0 - 1 = 0 + 0 from rfl, LC_at]; exact h0
      · exact LC_lt (by omega)
    · rw [show X + c - 1 = X + (c - 1) by omega, LC_at]; exact e
theorem Lo_0 (k : Nat) : Lo k 0 = 0 := rfl
theorem CS.X0 {hc : Hp} {N : NC} {X : Nat} {S : TS} (h : CS hc N X S) (N' : NC) : nh hc (LC X (sN S)) N' X = some (cob X S) := by
  have := nh_X (hc := hc) (X := X) (k := sN S) (c := 0) N' rfl (Or.inl rfl)
  rw [Nat.add_zero] at this
  rw [this]; exact h.2.1.1
theorem CS.pl {hc : Hp} {N : NC} {X : Nat} {S : TS} (h : CS hc N X S) {p : Nat} (hp : p < 16) : FR hc (LC X (sN S)) (plb X p) (if (sP S p).isSome then 1 else 0) := by
  obtain ⟨l0, l1, l2, l3⟩ := Lo_pl (k := sN S) hp
  refine ⟨(h.2.2.1 p hp).1, by unfold plb; rw [LC_at]; exact l0, by unfold plb; rw [show X + (46 + 5 * p) - 1 = X + (46 + 5 * p - 1) by omega, LC_at]; exact l1, ?_, ?_⟩
  · unfold plb; rw [Nat.add_assoc, LC_at, l2]; decide
  · unfold plb; rw [Nat.add_assoc, LC_at, l3]; decide
theorem CS.ou {hc : Hp} {N : NC} {X : Nat} {S : TS} (h : CS hc N X S) : FR hc (LC X (sN S)) (X + 5) 0 := by
  refine ⟨h.2.1.2.2.2.2.2.1, by rw [LC_at]; rfl, by rw [show X + 5 - 1 = X + 4 by omega, LC_at]; rfl, ?_, ?_⟩
  · rw [Nat.add_assoc, LC_at]; show (72 : Nat) ≠ 0; decide
  · rw [Nat.add_assoc, LC_at]; show (72 : Nat) ≠ 0; decide
theorem L32 {X k p : Nat} (hp : p < 16) : LC X k (plb X p + 1) = 32 ∧ LC X k (plb X p + 3) = 32 := by
  obtain ⟨-, -, l2, l3⟩ := Lo_pl (k := k) hp
  unfold plb
  constructor
  · rw [Nat.add_assoc, LC_at]; exact l2
  · rw [Nat.add_assoc, LC_at]; exact l3
theorem L72 {X k c : Nat} (h : Lo k c = 72) : LC X k (X + c) = 72 := by rw [LC_at]; exact h
/-- numbers up to the tosser are for passing use -/
theorem CS.scr {hc hc' : Hp} {N N' : NC} {X R H W : Nat} {S : TS} (h : CS hc N X S) (hA : NA (LC X (sN S)) N') (hN : ∀ k, k < X + 6 ∨ X + 46 ≤ k → N' k = N k) (ho : frO (X + 12) hc hc') (hD : DVx hc' (LC X (sN S)) (X + 12) R H W) : CS hc' N' X S := by
  obtain ⟨h1, h2, h3, h4, h5⟩ := h
  obtain ⟨o1, ⟨wt, o2, o3⟩, ⟨fs, o4, o5⟩, ⟨fp, o6, o7⟩, ⟨od, o8⟩, o9, o10, td, sh, g, o11, o12, o13⟩ := h2
  refine ⟨hA, ⟨by rw [ho _ (by omega)]; exact o1, ⟨wt, by rw [ho _ (by omega)]; exact o2, o3⟩, ⟨fs, by rw [ho _ (by omega)]; exact o4, o5⟩, ⟨fp, by rw [ho _ (by omega)]; exact o6, o7⟩, ⟨od, by rw [ho _ (by omega)]; exact o8⟩, by rw [ho _ (by omega)]; exact o9, by rw [ho _ (by omega)]; exact o10, td, sh, g, by rw [ho _ (by omega)]; exact o11, by rw [ho _ (by omega)]; exact o12, by rw [ho _ (by omega)]; exact o13.1, by rw [ho _ (by omega)]; exact o13.2.1, o13.2.2⟩, fun p hp => ?_, fun j hj => ?_, R, H, W, hD⟩
  · obtain ⟨a1, a2⟩ := h3 p hp
    have e : plb X p = X + (46 + 5 * p) := rfl
    refine ⟨by rw [ho _ (by omega)]; exact a1, fun u d hs => ?_⟩
    rw [hN _ (by omega), hN _ (by omega)]; exact a2 u d hs
  · obtain ⟨a1, ⟨g', a2, a3⟩, a4, a5, a6, a7⟩ := h4 j hj
    have e : sob X j = X + (158 + 10 * j) := rfl
    refine ⟨by rw [ho _ (by omega)]; exact a1, ⟨g', ⟨by rw [ho _ (by omega)]; exact a2.1, by rw [ho _ (by omega)]; exact a2.2.1, a2.2.2⟩, a3⟩, by rw [ho _ (by omega)]; exact a4, by rw [hN _ (by omega)]; exact a5, by rw [hN _ (by omega)]; exact a6, by rw [hN _ (by omega)]; exact a7⟩
theorem CS.numK {hc : Hp} {N N' : NC} {X : Nat} {S : TS} (h : CS hc N X S) (hA : NA (LC X (sN S)) N') (hN : ∀ k, k < X + 6 ∨ X + 46 ≤ k → N' k = N k) : CS hc N' X S := by
  obtain ⟨R, H, W, hD⟩ := h.2.2.2.2
  exact h.scr hA hN (fun _ _ => rfl) hD
/-- the model's room is no number's, nor is what lies before -/
theorem cfr_nh {X k k' : Nat} {hc hc' : Hp} {N N' : NC} (h : ∀ y, (y < X ∨ X + 126 ≤ y) → y < X + 158 → hc' y = hc y) : cfr X (nh hc (LC X k) N) (nh hc' (LC X k') N') := by
  intro y h1 h2
  rcases Nat.lt_or_ge y X with h3 | h3
  · rw [nh_no hc' N' (LC_lt h3) (LC_lt (by omega)), nh_no hc N (LC_lt h3) (LC_lt (by omega))]
    exact h _ h1 h2
  · obtain ⟨o, rfl⟩ : ∃ o, y = X + o := ⟨y - X, by omega⟩
    have z : ∀ k, Lo k o = 0 ∧ Lo k (o - 1) = 0 := fun k => by
      constructor
      · unfold Lo; rw [if_neg (by omega), if_neg (by omega), if_pos (by omega)]
      · by_cases ho : o = 126
        · subst ho; rfl
        · unfold Lo; rw [if_neg (by omega), if_neg (by omega), if_pos (by omega)]
    rw [nh_X N' (z k').1 (Or.inr (z k').2), nh_X N (z k).1 (Or.inr (z k).2)]
    exact h _ h1 h2
