def R_law : String := "TailBoundsLaw"
def lw_P (b : Addr) (xs : List Int32) (args : Array Value) (s : State) : Prop := args = #[.ref b] ∧ s.IntsAt b xs ∧ xs.length ≤ 3072 ∧ (Jvm.Cond.and given_1 narrow_1).before args s = true
def lw_Q (_ : Array Value) (s : State) (o : Outcome) (t : State) : Prop := o = .returned (some (.int 1)) ∧ Framed s o t [] 600000 7302249
def lw_Z (below : List Frame) (a : Array Value) (s : State) : State → Prop := fun t => ∃ o, t.status = .running ∧ Ended t below o ∧ lw_Q a s o t
/-- the law's own end, with 1 on the stack, nothing written that was there before, its room as the claim has it -/
theorem lw_ret {p : Program} {l : Launch} {e : Env} {s : State} {m : MethodId} {below : List Frame} {meth : Method} {c : Code} {b : Nat} (hx : p.tables.exec = Jvm.exec) (hb : c.code = code) (hr : meth.sig.returnType = ret) (hlocks : meth.locks = false) {pc : Nat} {H : Heap} {ls : Array Slot} (hdg : decode code pc = .ok (.ireturn, 1)) : W p l e room_1 s m #[Value.ref b] below meth c H [] 600000 7302249 (lw_Z below #[Value.ref b] s) (F0 m pc ls [.int 1]) := by
  intro T hT X
  obtain ⟨fs, hret, hrun, hended, hW, hframe⟩ := X.leave (v := some (.int 1)) (hlocks := hlocks) (fun h => by rw [hr] at h; cases h)
  have hmeth' : T.vm.method? m = some meth := X.method'
  refine ⟨T.setFrames fs, ?_, .returned (some (.int 1)), hrun, hended, rfl, ⟨_, rfl⟩, hW, hframe⟩
  jvm_step X.here [X.here.top, hx, hb, hdg, hmeth', hr, ret, narrow_b1]
  (try refine ⟨rfl, ?_⟩); (try refine ⟨rfl, ?_⟩)
  first | (intro acts; rw [hret _ acts rfl rfl rfl]) | rw [hret _ _ rfl rfl rfl]
  exact Steps.refl _
/-! the law over the abstract machine -/
abbrev mL_law : MI := (yL_law, code, 4, ret, 9, 366)
def gL (b L : Nat) (xs : Nat → Int32) : AG := ((600000, 7302249), (fun B args s => args = #[Value.ref b] ∧ va_X b L xs s s.heap ∧ b < s.heap.size ∧ B = s.heap.size), fun _ _ below args s => lw_Z below args s)
theorem aw_sld {b L : Nat} {xs : Nat → Int32} {pc kc ks n : Nat} {lv : List (Option Value)} {h : Hp} {rest : List Value} {i : Int32} (hdg : decode mL_law.2.1 pc = .ok (.iaload, 1)) (hin : vp_in i L) (kk : AW mL_law (gL b L xs) (pc + 1) lv (.int (xs i.toNatClampNeg) :: rest) kc ks n h) : AW mL_law (gL b L xs) pc lv (.int i :: .ref b :: rest) kc ks n h := by
  intro l D B p e s m args below meth c H locs ls C Ll R St
  obtain ⟨-, g2, g3, g4⟩ := C.2.2.2.2.2.2.2.2.2.2
  exact va_sld C.1 C.2.1 g2 g3 (show ¬ B ≤ b by omega) St hin hdg (kk l D B p e s m args below meth c H locs ls C Ll R St)
theorem aw_slen {b L : Nat} {xs : Nat → Int32} {pc kc ks n : Nat} {lv : List (Option Value)} {h : Hp} {rest : List Value} (hdg : decode mL_law.2.1 pc = .ok (.arraylength, 1)) (kk : AW mL_law (gL b L xs) (pc + 1) lv (.int (nI L) :: rest) kc ks n h) : AW mL_law (gL b L xs) pc lv (.ref b :: rest) kc ks n h := by
  intro l D B p e s m args below meth c H locs ls C Ll R St
  obtain ⟨-, g2, g3, g4⟩ := C.2.2.2.2.2.2.2.2.2.2
  exact va_slen C.1 C.2.1 g2 g3 (show ¬ B ≤ b by omega) St hdg (kk l D B p e s m args below meth c H locs ls C Ll R St)
theorem aw_lret {b L : Nat} {xs : Nat → Int32} {pc kc ks n : Nat} {lv : List (Option Value)} {h : Hp} (hdg : decode mL_law.2.1 pc = .ok (.ireturn, 1)) (h1 : kc ≤ 600000) (h2 : ks ≤ 7302249) : AW mL_law (gL b L xs) pc lv [.int 1] kc ks n h := by
  intro l D B p e s m args below meth c H locs ls C Ll R St
  obtain ⟨rfl, g2, g3, g4⟩ := C.2.2.2.2.2.2.2.2.2.2
  exact W.widen h1 h2 (va_forget (fun q hq => by have := St.2.2 q hq; unfold aA at this; omega) (lw_ret C.1 C.2.1 C.2.2.1 C.2.2.2.2.2.2.1 hdg))
theorem vin {L j k : Nat} {x : Int32} (hj : 6 * j + 6 ≤ L) (hL : L ≤ 3072) (hk : k < 6) (hx : x = nI k) : vp_in (nI (6 * j) + x) L := by
  subst hx
  have e : nI (6 * j) + nI k = nI (6 * j + k) := by
    unfold nI; rw [Int32.ofNat_add]
  rw [e]
  exact nI_in (by omega) (by omega)
theorem CRep.at {h : Hp} {X : Nat} {S : TS} (hC : CRep h X S) : h X = some (cob X S) := by
  obtain ⟨hc, N, rfl, h1, h2, -⟩ := hC
  have := h2.1
  rw [show X = X + 0 from rfl, nh_X N rfl (Or.inl rfl)]
  exact this
theorem MRep.at {h : Hp} {m : Nat} {S : TS} (hM : MRep h m S) : h m = some (mobS m S) := by
  obtain ⟨h0, A, bo, ki, mo, wt, rfl, hB, -⟩ := hM
  rw [mh_0]; exact hB.1
theorem cfr.mr {X : Nat} {S : TS} {h h' : Hp} (f : cfr X h h') (hM : MRep h (X + 126) S) : MRep h' (X + 126) S := hM.fr (fun y h1 h2 => f y (Or.inr h1) (by omega))
theorem mfr.cr {X : Nat} {S : TS} {h h' : Hp} (f : mfr (X + 126) h h') (hC : CRep h X S) : CRep h' X S := hC.fr (fun y hy => f y (by omega))
theorem iv_source {S : TS} (hI : SInv S) (s w : Int32) : SInv (opSource S s w).2 := by
  unfold opSource
  repeat' split
  all_goals first | exact hI | (dsimp only; repeat' split) <;> exact hI
theorem iv_counted {S : TS} (hI : SInv S) (s k : Int32) : SInv (opCounted S s k).2 := by
  unfold opCounted
  repeat' split
  all_goals first | exact hI | (dsimp only; repeat' split) <;> exact hI
theorem iv_order {S : TS} (hI : SInv S) (p q : Int32) : SInv (opOrder S p q).2 := by
  unfold opOrder
  repeat' split
  all_goals first | exact hI | (dsimp only; repeat' split) <;> exact hI
theorem iv_limbs {S : TS} (hI : SInv S) (p part : Int32) : SInv (opLimbs S p part).2 := by
  unfold opLimbs
  repeat' split
  all_goals first | exact hI | (dsimp only; repeat' split) <;> exact hI
theorem iv_limb {S : TS} (hI : SInv S) (p part i : Int32) : SInv (opLimb S p part i).2 := by
  unfold opLimb
  repeat' split
  all_goals first | exact hI | (dsimp only; repeat' split) <;> exact hI
theorem iv_digits {S : TS} (hI : SInv S) (p e : Int32) : SInv (opDigits S p e).2 := by
  unfold opDigits
  repeat' split
  all_goals first | exact hI | (dsimp only; repeat' split) <;> exact hI
theorem iv_needed {S : TS} (hI : SInv S) (ho w u v wh : Int32) : SInv (opNeeded S ho w u v wh).2 := by
  unfold opNeeded
  repeat' split
  all_goals first | exact hI | (dsimp only; repeat' split) <;> exact hI
theorem iv_count {S : TS} (hI : SInv S) (w : Int32) : SInv (opCount S w).2 := by
  unfold opCount
  repeat' split
  all_goals first | exact hI | (dsimp only; repeat' split) <;> exact hI
theorem iv_base {S : TS} (hI : SInv S) : SInv (opBase S).2 := hI
