/-! what the document says, as functions of a state: weights, sources, places, base, coin, line -/
abbrev TS : Type := (Nat × (Nat → Nat)) × (Nat × (Nat → Nat) × (Nat → Nat) × (Nat → Nat → Nat)) × (Nat → Option (Nat × Nat)) × Nat × (Nat × Nat) × (Nat × Nat × Nat)
abbrev sNw (S : TS) : Nat := S.1.1
abbrev sW (S : TS) : Nat → Nat := S.1.2
abbrev sN (S : TS) : Nat := S.2.1.1
abbrev sK (S : TS) : Nat → Nat := S.2.1.2.1
abbrev sT (S : TS) : Nat → Nat := S.2.1.2.2.1
abbrev sC (S : TS) : Nat → Nat → Nat := S.2.1.2.2.2
abbrev sP (S : TS) : Nat → Option (Nat × Nat) := S.2.2.1
abbrev sB (S : TS) : Nat := S.2.2.2.1
abbrev sCA (S : TS) : Nat := S.2.2.2.2.1.1
abbrev sCB (S : TS) : Nat := S.2.2.2.2.1.2
abbrev sLC (S : TS) : Nat := S.2.2.2.2.2.1
abbrev sLD (S : TS) : Nat := S.2.2.2.2.2.2.1
abbrev sLE (S : TS) : Nat := S.2.2.2.2.2.2.2
def stot (S : TS) (s : Nat) : Nat := sg (sC S s) (sT S s + 1)
def rg (x : Int32) (lo hi : Int) : Bool := decide (lo ≤ x.toInt) && decide (x.toInt ≤ hi)
def tN (x : Int32) : Nat := x.toInt.toNat
def addS (S : TS) (k t : Nat) (c : Nat → Nat) : TS := (S.1, (sN S + 1, va_up (sK S) (sN S) k, va_up (sT S) (sN S) t, va_up (sC S) (sN S) c), S.2.2)
def newS (S : TS) (k t : Nat) (c : Nat → Nat) : Int32 × TS := if sN S = 16 then (-3, S) else (nI (sN S), addS S k t c)
def setP (S : TS) (p : Nat) (o : Option (Nat × Nat)) : TS := (S.1, S.2.1, va_up (sP S) p o, S.2.2.2)
def putP (S : TS) (p u d : Nat) : Int32 × TS := if nb (u / Nat.gcd u d) ≤ 1024 ∧ nb (d / Nat.gcd u d) ≤ 1024 then (1, setP S p (some (u / Nat.gcd u d, d / Nat.gcd u d))) else (-4, S)
def opWeight (S : TS) (x : Int32) : Int32 × TS := if rg x 0 1000 then (if sNw S = 8 then (-3, S) else (nI (sNw S + 1), (sNw S + 1, va_up (sW S) (sNw S) (tN x)), S.2)) else (-1, S)
def opWipe (S : TS) : Int32 × TS := (nI (sNw S), (0, sW S), S.2)
def cCoins (n a b k : Nat) : Nat := cho n k * a ^ k * (b - a) ^ (n - k)
def opCoins (S : TS) (n a b : Int32) : Int32 × TS := if rg n 0 40 && (rg b 1 60 && rg a 0 b.toInt) then newS S 0 (tN n) (cCoins (tN n) (tN a) (tN b)) else (-1, S)
def cDrawn (all good n k : Nat) : Nat := cho good k * cho (all - good) (n - k)
def opDrawn (S : TS) (all good n : Int32) : Int32 × TS := if rg all 1 60 && (rg good 0 all.toInt && rg n 0 all.toInt) then newS S 1 (tN n) (cDrawn (tN all) (tN good) (tN n)) else (-1, S)
def cSums (nw : Nat) (w : Nat → Nat) : Nat → Nat → Nat
  | 0, v => if v = 0 then 1 else 0
  | n + 1, v => sg (fun i => if i ≤ v then cSums nw w n (v - i) * w i else 0) nw
def opSums (S : TS) (n : Int32) : Int32 × TS := if rg n 0 12 && !(sg (sW S) (sNw S) == 0) then newS S 2 (tN n * (sNw S - 1)) (cSums (sNw S) (sW S) (tN n)) else (-1, S)
def isS (S : TS) (s : Int32) : Bool := rg s 0 ((sN S : Int) - 1)
def cBoth (c d : Nat → Nat) (t u v : Nat) : Nat := sg (fun i => if i ≤ v ∧ v - i ≤ u then c i * d (v - i) else 0) (t + 1)
def opBoth (S : TS) (x y : Int32) : Int32 × TS :=
  if isS S x && (isS S y && decide (sT S (tN x) + sT S (tN y) ≤ 120)) then
    (if sN S = 16 then (-3, S) else if nb (stot S (tN x) * stot S (tN y)) ≤ 256 then newS S 3 (sT S (tN x) + sT S (tN y)) (cBoth (sC S (tN x)) (sC S (tN y)) (sT S (tN x)) (sT S (tN y))) else (-4, S))
  else (-1, S)
def clampN (lo hi i : Nat) : Nat := if i < lo then lo else if hi < i then hi else i
def cHeld (c : Nat → Nat) (t lo hi v : Nat) : Nat := sg (fun i => if clampN lo hi i = v then c i else 0) (t + 1)
def opHeld (S : TS) (x lo hi : Int32) : Int32 × TS := if isS S x && (rg lo 0 (sT S (tN x)) && rg hi lo.toInt (sT S (tN x))) then newS S 4 (sT S (tN x)) (cHeld (sC S (tN x)) (sT S (tN x)) (tN lo) (tN hi)) else (-1, S)
def aSource (S : TS) (s what : Nat) : Nat := if what = 0 then sK S s else if what = 1 then sT S s else if what = 2 then nb (stot S s) else sg (fun v => if sC S s v = 0 then 1 else 0) (sT S s + 1)
def opSource (S : TS) (s what : Int32) : Int32 × TS := if isS S s && rg what 0 3 then (nI (aSource S (tN s) (tN what)), S) else (-1, S)
def opCounted (S : TS) (s k : Int32) : Int32 × TS :=
  if isS S s && rg k 0 120 then (if (sK S (tN s) = 0 ∨ sK S (tN s) = 2) ∧ stot S (tN s) ≤ 20000 then (nI (sg (fun i => sC S (tN s) (tN k + i)) (sT S (tN s) + 1 - tN k)), S) else (-5, S)) else (-1, S)
def isP (p : Int32) : Bool := rg p 0 15
def opSet (S : TS) (p a b : Int32) : Int32 × TS := if isP p && (decide (0 ≤ a.toInt) && decide (1 ≤ b.toInt)) then putP S (tN p) (tN a) (tN b) else (-1, S)
/-- the sum of v times COUNT -/
def smean (S : TS) (s : Nat) : Nat := sg (fun v => sC S s v * v) (sT S s + 1)
def opMean (S : TS) (p s : Int32) : Int32 × TS := if isP p && isS S s then putP S (tN p) (smean S (tN s)) (stot S (tN s)) else (-1, S)
/-- how far v TOTAL lies from the sum of v COUNT -/
def awayN (S : TS) (s v : Nat) : Nat := if smean S s < stot S s * v then stot S s * v - smean S s else smean S s - stot S s * v
def smom (S : TS) (s e : Nat) : Nat := sg (fun v => sC S s v * awayN S s v ^ e) (sT S s + 1)
def opMoment (S : TS) (p s e : Int32) : Int32 × TS := if isP p && (isS S s && (decide (e = 2) || decide (e = 4))) then putP S (tN p) (smom S (tN s) (tN e)) (stot S (tN s) ^ (tN e + 1)) else (-1, S)
def inTail (S : TS) (s k side v : Nat) : Bool := if side = 0 then decide (k ≤ v) else if side = 1 then decide (v ≤ k) else decide (awayN S s k ≤ awayN S s v)
def stail (S : TS) (s k side : Nat) : Nat := sg (fun v => if inTail S s k side v then sC S s v else 0) (sT S s + 1)
def opTail (S : TS) (p s k side : Int32) : Int32 × TS := if isP p && (isS S s && (rg k 0 120 && rg side 0 2)) then putP S (tN p) (stail S (tN s) (tN k) (tN side)) (stot S (tN s)) else (-1, S)
/-- what is weighed for KIND 4, above and below -/
def raA (S : TS) (s k j : Nat) : Nat := sg (fun v => sC S s v * j ^ v * 4 ^ (sT S s - v)) (sT S s + 1) * 4 ^ k
def raB (S : TS) (s k j : Nat) : Nat := stot S s * j ^ k * 4 ^ sT S s
/-- the first least of j = 5 .. 4 + n -/
def raL (S : TS) (s k : Nat) : Nat → Nat
  | 0 => 0
  | n + 1 => if raL S s k n = 0 ∨ raA S s k (n + 5) * raB S s k (raL S s k n) < raA S s k (raL S s k n) * raB S s k (n + 5) then n + 5 else raL S s k n
def bndBase (S : TS) (s k kind : Nat) : Nat := if smean S s < stot S s * k then (if kind = 4 then raL S s k 8 else 0) else 0
def bndA (S : TS) (s k kind : Nat) : Nat :=
  if smean S s < stot S s * k then (if kind = 0 then smean S s else if kind = 4 then raA S s k (raL S s k 8) else smom S s (if kind = 2 then 4 else 2)) else 1
def bndB (S : TS) (s k kind : Nat) : Nat :=
  if smean S s < stot S s * k then
    (if kind = 0 then stot S s * k else if kind = 4 then raB S s k (raL S s k 8)
     else if kind = 3 then awayN S s k ^ 2 * stot S s + smom S s 2 else awayN S s k ^ (if kind = 2 then 4 else 2) * stot S s)
  else 1
def capP (S : TS) (p u d : Nat) : Int32 × TS := if d < u then putP S p 1 1 else putP S p u d
def setB (S : TS) (b : Nat) : TS := (S.1, S.2.1, S.2.2.1, b, S.2.2.2.2)
def opBound (S : TS) (p s k kind : Int32) : Int32 × TS :=
  if isP p && (isS S s && (rg k 0 120 && rg kind 0 4)) then
    (let q := capP S (tN p) (bndA S (tN s) (tN k) (tN kind)) (bndB S (tN s) (tN k) (tN kind))
     if tN kind = 4 ∧ q.1 = 1 then (q.1, setB q.2 (bndBase S (tN s) (tN k) 4)) else q)
  else (-1, S)
def opBase (S : TS) : Int32 × TS := (nI (sB S), S)
def wrkA (act u d u2 d2 : Nat) : Nat := if act = 0 then u * d2 + u2 * d else if act = 1 then u * u2 else if act = 2 then (if u * d2 < u2 * d then u else u2) else (if u < d then d - u else 0)
def wrkB (act u d u2 d2 : Nat) : Nat := if act = 0 ∨ act = 1 then d * d2 else if act = 2 then (if u * d2 < u2 * d then d else d2) else d
def opWork (S : TS) (act p q r : Int32) : Int32 × TS :=
  if rg act 0 3 && (isP p && (isP q && (decide (act.toInt = 3) || isP r))) then
    (match sP S (tN q), (if act.toInt = 3 then some (1, 1) else sP S (tN r)) with
     | some (u, d), some (u2, d2) => putP S (tN p) (wrkA (tN act) u d u2 d2) (wrkB (tN act) u d u2 d2)
     | _, _ => (-2, S))
  else (-1, S)
def opOrder (S : TS) (p q : Int32) : Int32 × TS :=
  if isP p && isP q then (match sP S (tN p), sP S (tN q) with
    | some (u, d), some (u2, d2) => (cmpI (u * d2) (u2 * d) + 1, S)
    | _, _ => (-2, S)) else (-1, S)
def opLimbs (S : TS) (p part : Int32) : Int32 × TS :=
  if isP p && rg part 0 1 then (match sP S (tN p) with
    | some (u, d) => (nI ((nb (if tN part = 0 then u else d) + 31) / 32), S)
    | none => (-2, S)) else (-1, S)
def opLimb (S : TS) (p part i : Int32) : Int64 × TS :=
  if isP p && rg part 0 1 then (match sP S (tN p) with
    | some (u, d) => (let v := if tN part = 0 then u else d
        if rg i 0 (((nb v + 31) / 32 : Nat) - 1) then (lN (v / 2 ^ (32 * tN i) % 2 ^ 32), S) else (-5, S))
    | none => (-2, S)) else (-1, S)
def opDigits (S : TS) (p e : Int32) : Int64 × TS :=
  if isP p && rg e 0 18 then (match sP S (tN p) with
    | some (u, d) => if nb (u * 10 ^ tN e / d) ≤ 63 then (lN (u * 10 ^ tN e / d), S) else (-4, S)
    | none => (-2, S)) else (-1, S)
def opFree (S : TS) (p : Int32) : Int32 × TS := if isP p then (bI (sP S (tN p)).isSome, setP S (tN p) none) else (-1, S)
def opCoin (S : TS) (a b : Int32) : Int32 × TS := if rg b 1 60 && rg a 0 b.toInt then (1, (S.1, S.2.1, S.2.2.1, sB S, (tN a, tN b), S.2.2.2.2.2)) else (-1, S)
/-- n is good: how many cases lie too far -/
def farN (a b w n k : Nat) : Bool := decide (w * n * b ≤ 100 * (if k * b < a * n then a * n - k * b else k * b - a * n))
def goodN (a b how w u v n : Nat) : Bool :=
  if how = 1 then decide (v ≤ u) || decide (10000 * a * (b - a) * v ≤ n * b * b * w * w * u)
  else decide (sg (fun k => if farN a b w n k then cCoins n a b k else 0) (n + 1) * v ≤ u * b ^ n)
/-- from n down: the last good one that is met; the last one of an unbroken run of good ones -/
def leastG (g : Nat → Bool) : Nat → Int32 → Int32
  | 0, f => f
  | n + 1, f => leastG g n (if g (n + 1) then nI (n + 1) else f)
def sinceG (g : Nat → Bool) : Nat → Int32 → Int32
  | 0, f => f
  | n + 1, f => if g (n + 1) then sinceG g n (nI (n + 1)) else f
def opNeeded (S : TS) (how w u v which : Int32) : Int32 × TS :=
  if rg how 0 1 && (rg w 1 100 && (rg u 0 1000000 && (rg v 1 1000000 && rg which 0 1))) then
    (if tN which = 0 then leastG (goodN (sCA S) (sCB S) (tN how) (tN w) (tN u) (tN v)) 40 (-5) else sinceG (goodN (sCA S) (sCB S) (tN how) (tN w) (tN u) (tN v)) 40 (-5), S)
  else (-1, S)
def opLine (S : TS) (c d e : Int32) : Int32 × TS := if rg c 0 60 && (rg d 0 60 && rg e 1 60) then (1, (S.1, S.2.1, S.2.2.1, sB S, S.2.2.2.2.1, (tN c, tN d, tN e))) else (-1, S)
/-- THE LINE is crossed at i with h; in how many ways the coin stands at h behind i throws, those that crossed taken out (how below 2) -/
def crs (c d e i h : Nat) : Bool := decide (e * c + d * i ≤ e * h)
def wayC (a b c d e how : Nat) : Nat → Nat → Nat
  | 0, h => if h = 0 then 1 else 0
  | i + 1, h => if crs c d e (i + 1) h && decide (how < 2) then 0 else wayC a b c d e how i h * (b - a) + (if h = 0 then 0 else wayC a b c d e how i (h - 1) * a)
def hitC (a b c d e how i : Nat) : Nat := sg (fun h => if crs c d e (i + 1) h then wayC a b c d e how i h * (b - a) + (if h = 0 then 0 else wayC a b c d e how i (h - 1) * a) else 0) (i + 2)
def allC (a b c d e how : Nat) : Nat → Nat
  | 0 => 0
  | i + 1 => allC a b c d e how i * b + hitC a b c d e how i
def opCrossed (S : TS) (p how n : Int32) : Int32 × TS :=
  if isP p && (rg how 0 2 && rg n 1 40) then
    (let u := if tN how = 1 then hitC (sCA S) (sCB S) (sLC S) (sLD S) (sLE S) 1 (tN n - 1) else allC (sCA S) (sCB S) (sLC S) (sLD S) (sLE S) (tN how) (tN n)
     putP S (tN p) (min u (sCB S ^ tN n)) (sCB S ^ tN n))
  else (-1, S)
def opCount (S : TS) (what : Int32) : Int32 × TS := if rg what 0 2 then (nI (if tN what = 0 then sN S else if tN what = 1 then sNw S else sg (fun p => if (sP S p).isSome then 1 else 0) 16), S) else (-1, S)
/-- what holds of every state that a run of calls comes to -/
def SInv (S : TS) : Prop := (sNw S ≤ 8 ∧ ∀ i, i < sNw S → sW S i ≤ 1000) ∧ (sN S ≤ 16 ∧ ∀ s, s < sN S → sK S s ≤ 4 ∧ sT S s ≤ 120 ∧ 0 < stot S s ∧ stot S s < 2 ^ 256) ∧ (∀ p u d, sP S p = some (u, d) → 0 < d ∧ Nat.gcd u d = 1 ∧ u < 2 ^ 1024 ∧ d < 2 ^ 1024) ∧ sB S ≤ 12 ∧ (sCA S ≤ sCB S ∧ 1 ≤ sCB S ∧ sCB S ≤ 60) ∧ (sLC S ≤ 60 ∧ sLD S ≤ 60 ∧ 1 ≤ sLE S ∧ sLE S ≤ 60)
theorem rg_iff {x : Int32} {lo hi : Int} : rg x lo hi = true ↔ lo ≤ x.toInt ∧ x.toInt ≤ hi := by unfold rg; simp
/-- a number within a range from 0 on is nI of one -/
theorem rg_N {x : Int32} {lo hi : Int} (h : rg x lo hi = true) (h0 : 0 ≤ lo) : x = nI (tN x) ∧ ((tN x : Nat) : Int) = x.toInt ∧ lo ≤ (tN x : Int) ∧ (tN x : Int) ≤ hi := by
  obtain ⟨h1, h2⟩ := rg_iff.mp h
  have e : ((tN x : Nat) : Int) = x.toInt := by unfold tN; omega
  refine ⟨?_, e, by omega, by omega⟩
  apply Int32.toInt_inj.mp
  have hb := Int32.toInt_lt x
  rw [nI_toInt (by omega)]; omega
theorem le_rg {x : Int32} {a b : Int32} : (decide (a ≤ x) && decide (x ≤ b)) = rg x a.toInt b.toInt := by
  unfold rg
  simp only [Int32.le_iff_toInt_le]
