
theorem aR_set {D : va_G} {B n : Nat} {h : Hp} {s : State} {H H1 : Heap} {ws : va_W} {tys : List (ClassId × FieldType)} {a q0 : Nat} {e e' : va_E} {c' : AC} (z : H.size = n) (hK : va_K D vwCl tys s) (hP : va_P D vwCl ws H) (hD : va_D (aA B) ws) (hV : ∀ (a : Nat) (c : AC), h a = some c → aV ws tys a c)
    (he : ws[q0]? = some (a, e)) (hn : va_at D vwCl (a, e') H1) (z1 : H1.size = H.size) (oq : ∀ q : Nat, q ≠ a → H1[q]? = H[q]?) (hc : ∀ ws' : va_W, ws'[q0]? = some (a, e') → aV ws' tys a c') : aR D B n (hup h a c') s H1 := by
  have hl := (List.getElem?_eq_some_iff.mp he).1
  refine ⟨z1.trans z, ws.set q0 (a, e'), tys, hK, hP.set hD he hn oq, hD.set he, fun b c0 hb => ?_⟩
  by_cases hba : b = a
  · subst hba
    rw [hup_self] at hb
    cases hb
    exact hc _ (List.getElem?_set_self hl)
  · rw [hup_ne hba] at hb
    have h1 := hV b c0 hb
    have key : ∀ (q1 : Nat) (x : va_E), ws[q1]? = some (b, x) → (ws.set q0 (a, e'))[q1]? = some (b, x) := by
      intro q1 x hx
      rw [List.getElem?_set_ne]
      · exact hx
      · intro hq
        subst hq
        rw [hx] at he
        cases he
        exact hba rfl
    cases c0 with
    | inl x => obtain ⟨q1, t1, cA, g1, g2⟩ := h1; exact ⟨q1, t1, cA, key _ _ g1, g2⟩
    | inr o => obtain ⟨q1, g1⟩ := h1; exact ⟨q1, key _ _ g1⟩
theorem aR_push {D : va_G} {B n : Nat} {h : Hp} {s : State} {H H1 : Heap} {ws : va_W} {tys tys' : List (ClassId × FieldType)} {e' : va_E} {c' : AC} (z : H.size = n) (hK : va_K D vwCl (tys ++ tys') s) (hP : va_P D vwCl ws H) (hD : va_D (aA B) ws) (hV : ∀ (a : Nat) (c : AC), h a = some c → aV ws tys a c)
    (hB : B ≤ n) (hn : va_at D vwCl (n, e') H1) (z1 : H1.size = n + 1) (oq : ∀ q : Nat, q < n → H1[q]? = H[q]?) (hc : ∀ ws' : va_W, ws'[ws.length]? = some (n, e') → aV ws' (tys ++ tys') n c') : aR D B (n + 1) (hup h n c') s H1 := by
  refine ⟨z1, ws ++ [(n, e')], tys ++ tys', hK, ?_, hD.push hP z.symm hB, fun b c0 hb => ?_⟩
  · refine (hP.kept (fun k x hx => oq x.1 (by rw [← z]; exact (hP k x hx).lt))).app (fun k x hx => ?_)
    have hz : k < 1 := (List.getElem?_eq_some_iff.mp hx).1
    rw [show k = 0 by omega] at hx
    cases hx
    exact hn
  · by_cases hba : b = n
    · subst hba
      rw [hup_self] at hb
      cases hb
      exact hc _ (by simp)
    · rw [hup_ne hba] at hb
      have h1 := hV b c0 hb
      have ka : ∀ {α : Type} (l1 l2 : List α) (i : Nat) (x : α), l1[i]? = some x → (l1 ++ l2)[i]? = some x := by
        intro α l1 l2 i x hx
        rw [List.getElem?_append_left (List.getElem?_eq_some_iff.mp hx).1]; exact hx
      cases c0 with
      | inl x => obtain ⟨q1, t1, cA, g1, g2⟩ := h1; exact ⟨q1, t1, cA, ka _ _ _ _ g1, ka _ _ _ _ g2⟩
      | inr o => obtain ⟨q1, g1⟩ := h1; exact ⟨q1, ka _ _ _ _ g1⟩
theorem va_K.more {D : va_G} {cl : List vw_C} {tys : List (ClassId × FieldType)} {s : State} {cA : ClassId} {ty : FieldType} (hK : va_K D cl tys s) (h1 : ArrOfT s cA ty) (h2 : va_RA s cA ty) : va_K D cl (tys ++ [(cA, ty)]) s := by
  refine ⟨hK.1, fun k q hk => ?_⟩
  rcases List.mem_append.mp (List.mem_of_getElem? hk) with h | h
  · obtain ⟨i, hi⟩ := List.getElem?_of_mem h
    exact hK.2 i q hi
  · rw [List.mem_singleton] at h
    subst h
    exact ⟨h1, h2⟩
/-- a field's words: which class number, which place, of which type, final or not, declared where -/
def FL (own : String) (idx ci k : Nat) (ty : FieldType) (fin : Bool) (dc : String) : Prop := ∃ r : vw_C, vwCl[ci]? = some r ∧ k < r.2.2 ∧ (∀ w ∈ u_ws r.1 r.2.1 r.2.2, w ∈ lw_good) ∧ Cond.fieldLink own idx (r.2.1 k).1 (r.2.1 k).2.1 (r.2.1 k).2.2.1 ∈ lw_good ∧ (∀ a, a < r.2.2 → ∀ b, b < r.2.2 → a ≠ b → (r.2.1 a).2.1 ≠ (r.2.1 b).2.1) ∧ (∃ t0 : Nat → FieldType, ∀ k, k < r.2.2 → parseFieldDescriptor (r.2.1 k).2.2.1 = some (t0 k)) ∧ parseFieldDescriptor (r.2.1 k).2.2.1 = some ty ∧ (r.2.1 k).2.2.2 = fin ∧ (r.2.1 k).1 = dc
theorem aw_getfield {M : MI} {G : AG} {pc kc ks n : Nat} {lv : List (Option Value)} {h : Hp} {rest : List Value} {idx ci k : Nat} {ty : FieldType} {fin : Bool} {dc : String} {a : Nat} {fs : List Value} {v : Value} (F : FL M.1.cls idx ci k ty fin dc) (hdg : decode M.2.1 pc = .ok (.getfield idx, 3)) (ha : h a = some (.inr (ci, fs))) (hv : fs[k]? = some v) (kk : AW M G (pc + 3) lv (v :: rest) kc ks n h) : AW M G pc lv (.ref a :: rest) kc ks n h := by
  intro l D B p e s m args below meth c H locs ls C L R S
  obtain ⟨⟨C', T', N'⟩, hc, hk, hin, hlk, hnm, ⟨t0, ht0⟩, hty, hfin, hdc⟩ := F
  obtain ⟨z, ws, tys, hK, hP, hD, hV⟩ := id R
  obtain ⟨q0, he⟩ := hV a _ ha
  exact va_get C.1 C.2.1 C.2.2.2.2.2.1 hin C.2.2.2.2.1 hK hP q0 he hc k hk (C.2.2.2.2.2.1 _ hlk) (fun _ h9 => h9) hv hdg (kk l D B p e s m args below meth c H locs ls C L R S)
theorem aw_putfield {M : MI} {G : AG} {pc kc ks n : Nat} {lv : List (Option Value)} {h : Hp} {rest : List Value} {idx ci k : Nat} {ty : FieldType} {dc : String} {a : Nat} {fs : List Value} {v : Value} (F : FL M.1.cls idx ci k ty false dc) (hdg : decode M.2.1 pc = .ok (.putfield idx, 3)) (ha : h a = some (.inr (ci, fs))) (hn : narrow ty v = v) (hfit : fits ty v = true) (hl : k < fs.length) (kk : AW M G (pc + 3) lv rest kc ks n (hup h a (.inr (ci, fs.set k v)))) : AW M G pc lv (v :: .ref a :: rest) kc ks n h := by
  intro l D B p e s m args below meth c H locs ls C L R S
  obtain ⟨⟨C', T', N'⟩, hc, hk, hin, hlk, hnm, ⟨t0, ht0⟩, hty, hfin, hdc⟩ := F
  obtain ⟨z, ws, tys, hK, hP, hD, hV⟩ := id R
  obtain ⟨q0, he⟩ := hV a _ ha
  have hts := C.2.2.2.2.2.1
  have hap := va_apart (own := C') hts hin t0 ht0 hnm hK hc
  obtain ⟨r, h1, cell, q1, q2, q3, q4⟩ := hP q0 _ he
  have hr : r = (C', T', N') := Option.some.inj (h1.symm.trans hc)
  subst hr
  obtain ⟨hS, hfc, kC, hkC, hkind⟩ := hK.1 ci _ hc
  obtain ⟨cf, kf, fi, f, hi, hsl⟩ := hS k hk
  have hlay := hts _ (hin _ (u_in_lay hk))
  unfold u_lay at hlay
  rw [if_neg (by rw [hfin]; decide)] at hlay
  have hst := (u_facts hfc hkC (u_lays hts hin hk) hi).1
  have h6 := u_store hfc hkC hkind hlay hi hty hn hfit
  refine W.putK C.1 C.2.1 (f := f) ⟨C.2.2.2.2.1, C.2.2.2.2.2.1 _ hlk, ⟨_, _, _, hi⟩, hst⟩ (by rw [q2]; exact h6) q1 q3 (by rw [hsl]; exact k2_hasslot (q4 k hk)) rfl rfl hdg fun H' e1 e2 e3 => ?_
  rw [hsl] at e1 ⊢
  exact kk l D B p e s m args below meth c H' _ ls C L (aR_set z hK hP hD hV he (e' := .inr (ci, fs.set k v)) ⟨_, hc, t_OB.to (V := updV (vp_V fs) k v) ⟨_, e1, q2, q3, t_set q4 hap hk v⟩ (fun j _ => vp_updV_set hl v j)⟩ e2 e3 (fun ws' q => ⟨q0, q⟩)) (S.put e2 e3 (hD.2 q0 _ he))
theorem aw_putfinal {M : MI} {G : AG} {pc kc ks n : Nat} {lv : List (Option Value)} {h : Hp} {rest : List Value} {idx ci k : Nat} {ty : FieldType} {a : Nat} {fs : List Value} {v : Value} (F : FL M.1.cls idx ci k ty true M.1.cls) (hin2 : M.1.name = "<init>") (hdg : decode M.2.1 pc = .ok (.putfield idx, 3)) (ha : h a = some (.inr (ci, fs))) (hn : narrow ty v = v) (hfit : fits ty v = true) (hl : k < fs.length) (kk : AW M G (pc + 3) lv rest kc ks n (hup h a (.inr (ci, fs.set k v)))) : AW M G pc lv (v :: .ref a :: rest) kc ks n h := by
  intro l D B p e s m args below meth c H locs ls C L R S
  obtain ⟨⟨C', T', N'⟩, hc, hk, hin, hlk, hnm, ⟨t0, ht0⟩, hty, hfin, hdc⟩ := F
  obtain ⟨z, ws, tys, hK, hP, hD, hV⟩ := id R
  obtain ⟨q0, he⟩ := hV a _ ha
  have hts := C.2.2.2.2.2.1
  have hap := va_apart (own := C') hts hin t0 ht0 hnm hK hc
  obtain ⟨r, h1, cell, q1, q2, q3, q4⟩ := hP q0 _ he
  have hr : r = (C', T', N') := Option.some.inj (h1.symm.trans hc)
  subst hr
  obtain ⟨hS, hfc, kC, hkC, hkind⟩ := hK.1 ci _ hc
  obtain ⟨cf, kf, fi, f, hi, hsl⟩ := hS k hk
  have hlay := hts _ (hin _ (u_in_lay hk))
  unfold u_lay at hlay
  rw [if_pos hfin] at hlay
  have hst := (u_facts hfc hkC (u_lays hts hin hk) hi).1
  have hcf : m.cls = cf := by
    obtain ⟨_, _, c', _, _, _, -, -, hf', -, -, -, hown2, -⟩ := Cond.laysFinal_spec hlay
    have e1 : c' = cf := by have := hi.symm.trans hf'; simp at this; exact this.1.symm
    rw [hdc] at hown2
    rw [← e1]; exact Option.some.inj (C.2.2.2.2.1.symm.trans hown2)
  have h6 := u_fits hfc hkC hkind (Or.inr hlay) hi hty hn hfit
  refine W.putFinK C.1 C.2.1 C.2.2.2.2.1 (C.2.2.2.2.2.1 _ hlk) hi hst hcf (C.2.2.2.2.2.2.2.1.trans hin2) (by rw [q2]; exact h6) q1 q3 (by rw [hsl]; exact k2_hasslot (q4 k hk)) rfl rfl hdg fun H' e1 e2 e3 => ?_
  rw [hsl] at e1 ⊢
  exact kk l D B p e s m args below meth c H' _ ls C L (aR_set z hK hP hD hV he (e' := .inr (ci, fs.set k v)) ⟨_, hc, t_OB.to (V := updV (vp_V fs) k v) ⟨_, e1, q2, q3, t_set q4 hap hk v⟩ (fun j _ => vp_updV_set hl v j)⟩ e2 e3 (fun ws' q => ⟨q0, q⟩)) (S.put e2 e3 (hD.2 q0 _ he))
theorem ix_in {i : Int32} {j N : Nat} (hi : i.toInt = (j : Int)) (hj : j < N) : vp_in i N := vp_in_iff.mpr ⟨by omega, by omega⟩
theorem ix_cl {i : Int32} {j : Nat} (hi : i.toInt = (j : Int)) : i.toNatClampNeg = j := by
  have : i.toNatClampNeg = i.toInt.toNat := rfl
  rw [this, hi]; rfl
theorem aw_iaload {M : MI} {G : AG} {pc kc ks n : Nat} {lv : List (Option Value)} {h : Hp} {rest : List Value} {a len j : Nat} {f : Nat → Int32} {i : Int32} (hdg : decode M.2.1 pc = .ok (.iaload, 1)) (ha : h a = some (.inl (.int, len, .inl f))) (hi : i.toInt = (j : Int)) (hj : j < len) (kk : AW M G (pc + 1) lv (.int (f j) :: rest) kc ks n h) : AW M G pc lv (.int i :: .ref a :: rest) kc ks n h := by
  intro l D B p e s m args below meth c H locs ls C L R S
  obtain ⟨z, ws, tys, hK, hP, hD, hV⟩ := id R
  obtain ⟨q0, t0, cA, he, ht⟩ := hV a _ ha
  refine va_iald C.1 C.2.1 hK hP q0 t0 he ht (ix_in hi hj) hdg ?_
  rw [ix_cl hi]
  exact kk l D B p e s m args below meth c H locs ls C L R S
theorem aw_baload {M : MI} {G : AG} {pc kc ks n : Nat} {lv : List (Option Value)} {h : Hp} {rest : List Value} {a len j : Nat} {f : Nat → Int32} {i : Int32} (hdg : decode M.2.1 pc = .ok (.baload, 1)) (ha : h a = some (.inl (.boolean, len, .inl f))) (hi : i.toInt = (j : Int)) (hj : j < len) (kk : AW M G (pc + 1) lv (.int (f j) :: rest) kc ks n h) : AW M G pc lv (.int i :: .ref a :: rest) kc ks n h := by
  intro l D B p e s m args below meth c H locs ls C L R S
  obtain ⟨z, ws, tys, hK, hP, hD, hV⟩ := id R
  obtain ⟨q0, t0, cA, he, ht⟩ := hV a _ ha
  refine va_zald C.1 C.2.1 hK hP q0 t0 he ht (ix_in hi hj) hdg ?_
  rw [ix_cl hi]
  exact kk l D B p e s m args below meth c H locs ls C L R S
theorem aw_laload {M : MI} {G : AG} {pc kc ks n : Nat} {lv : List (Option Value)} {h : Hp} {rest : List Value} {a len j : Nat} {f : Nat → Int64} {i : Int32} (hdg : decode M.2.1 pc = .ok (.laload, 1)) (ha : h a = some (.inl (.long, len, .inr (.inl f)))) (hi : i.toInt = (j : Int)) (hj : j < len) (kk : AW M G (pc + 1) lv (.long (f j) :: rest) kc ks n h) : AW M G pc lv (.int i :: .ref a :: rest) kc ks n h := by
  intro l D B p e s m args below meth c H locs ls C L R S
  obtain ⟨z, ws, tys, hK, hP, hD, hV⟩ := id R
  obtain ⟨q0, t0, cA, he, ht⟩ := hV a _ ha
  refine va_lald C.1 C.2.1 hK hP q0 t0 he ht (ix_in hi hj) hdg ?_
  rw [ix_cl hi]
  exact kk l D B p e s m args below meth c H locs ls C L R S
theorem aw_aaload {M : MI} {G : AG} {pc kc ks n : Nat} {lv : List (Option Value)} {h : Hp} {rest : List Value} {a len j : Nat} {f : Nat → Option Nat} {i : Int32} {Cn : String} (hdg : decode M.2.1 pc = .ok (.aaload, 1)) (ha : h a = some (.inl (.object Cn, len, .inr (.inr (.inr (.inr f)))))) (hi : i.toInt = (j : Int)) (hj : j < len) (kk : AW M G (pc + 1) lv (va_rf (f j) :: rest) kc ks n h) : AW M G pc lv (.int i :: .ref a :: rest) kc ks n h := by
  intro l D B p e s m args below meth c H locs ls C L R S
  obtain ⟨z, ws, tys, hK, hP, hD, hV⟩ := id R
  obtain ⟨q0, t0, cA, he, ht⟩ := hV a _ ha
  refine va_aldq C.1 C.2.1 hK hP q0 t0 he ht (ix_in hi hj) hdg ?_
  rw [ix_cl hi]
  exact kk l D B p e s m args below meth c H locs ls C L R S
theorem aw_arraylength {M : MI} {G : AG} {pc kc ks n : Nat} {lv : List (Option Value)} {h : Hp} {rest : List Value} {a : Nat} {ty : FieldType} {x : vp_A} (hdg : decode M.2.1 pc = .ok (.arraylength, 1)) (ha : h a = some (.inl (ty, x))) (kk : AW M G (pc + 1) lv (.int (nI x.1) :: rest) kc ks n h) : AW M G pc lv (.ref a :: rest) kc ks n h := by
  intro l D B p e s m args below meth c H locs ls C L R S
  obtain ⟨z, ws, tys, hK, hP, hD, hV⟩ := id R
  obtain ⟨q0, t0, cA, he, ht⟩ := hV a _ ha
  exact va_alen C.1 C.2.1 hK hP q0 t0 he ht rfl hdg (kk l D B p e s m args below meth c H locs ls C L R S)
theorem aw_iastore {M : MI} {G : AG} {pc kc ks n : Nat} {lv : List (Option Value)} {h : Hp} {rest : List Value} {a len j : Nat} {f : Nat → Int32} {i : Int32} {x : Int32} (hdg : decode M.2.1 pc = .ok (.iastore, 1)) (ha : h a = some (.inl (.int, len, .inl f))) (hi : i.toInt = (j : Int)) (hj : j < len) (kk : AW M G (pc + 1) lv rest kc ks n (hup h a (.inl (.int, len, .inl (va_up f j x))))) : AW M G pc lv (.int x :: .int i :: .ref a :: rest) kc ks n h := by
  intro l D B p e s m args below meth c H locs ls C L R S
  obtain ⟨z, ws, tys, hK, hP, hD, hV⟩ := id R
  obtain ⟨q0, t0, cA, he, ht⟩ := hV a _ ha
  refine W.iast C.1 C.2.1 (hP q0 _ he) ((hK.2 t0 _ ht).1 len (fun j => .int (f j))) (fun q => by cases q) (by show ¬ (i < 0 ∨ (arrV _ _ _).slots.size ≤ _); rw [arrV_size]; exact ix_in hi hj) rfl rfl hdg fun H1 e1 z1 oq => ?_
  refine kk l D B p e s m args below meth c H1 _ ls C L (aR_set z hK hP hD hV he (e' := .inl (cA, len, .inl (va_up f j x))) ?_ z1 oq (fun ws' q => ⟨q0, t0, cA, q, ht⟩)) (S.put z1 oq (hD.2 q0 _ he))
  show H1[a]? = some (vp_cell _ _)
  rw [e1, ix_cl hi, vp_cell_i, vp_cell_i, arrV_store]
  congr 2
  funext q
  by_cases hq : q = j
  · subst hq; simp [updV, va_up]
  · simp [updV, va_up, hq]
theorem aw_lastore {M : MI} {G : AG} {pc kc ks n : Nat} {lv : List (Option Value)} {h : Hp} {rest : List Value} {a len j : Nat} {f : Nat → Int64} {i : Int32} {x : Int64} (hdg : decode M.2.1 pc = .ok (.lastore, 1)) (ha : h a = some (.inl (.long, len, .inr (.inl f)))) (hi : i.toInt = (j : Int)) (hj : j < len) (kk : AW M G (pc + 1) lv rest kc ks n (hup h a (.inl (.long, len, .inr (.inl (va_up f j x)))))) : AW M G pc lv (.long x :: .int i :: .ref a :: rest) kc ks n h := by
  intro l D B p e s m args below meth c H locs ls C L R S
  obtain ⟨z, ws, tys, hK, hP, hD, hV⟩ := id R
  obtain ⟨q0, t0, cA, he, ht⟩ := hV a _ ha
  refine W.last C.1 C.2.1 (hP q0 _ he) ((hK.2 t0 _ ht).1 len (fun j => .long (f j))) (fun q => by cases q) (by show ¬ (i < 0 ∨ (arrV _ _ _).slots.size ≤ _); rw [arrV_size]; exact ix_in hi hj) rfl rfl hdg fun H1 e1 z1 oq => ?_
  refine kk l D B p e s m args below meth c H1 _ ls C L (aR_set z hK hP hD hV he (e' := .inl (cA, len, .inr (.inl (va_up f j x)))) ?_ z1 oq (fun ws' q => ⟨q0, t0, cA, q, ht⟩)) (S.put z1 oq (hD.2 q0 _ he))
  show H1[a]? = some (vp_cell _ _)
  rw [e1, ix_cl hi, vp_cell_l, vp_cell_l, arrV_store]
  congr 2
  funext q
  by_cases hq : q = j
  · subst hq; simp [updV, va_up]
  · simp [updV, va_up, hq]
theorem aw_bastore {M : MI} {G : AG} {pc kc ks n : Nat} {lv : List (Option Value)} {h : Hp} {rest : List Value} {a len j : Nat} {f : Nat → Int32} {i : Int32} {x : Int32} (hdg : decode M.2.1 pc = .ok (.bastore, 1)) (ha : h a = some (.inl (.boolean, len, .inl f))) (hi : i.toInt = (j : Int)) (hj : j < len) (hx : narrow .boolean (.int x) = .int x) (kk : AW M G (pc + 1) lv rest kc ks n (hup h a (.inl (.boolean, len, .inl (va_up f j x))))) : AW M G pc lv (.int x :: .int i :: .ref a :: rest) kc ks n h := by
  intro l D B p e s m args below meth c H locs ls C L R S
  obtain ⟨z, ws, tys, hK, hP, hD, hV⟩ := id R
  obtain ⟨q0, t0, cA, he, ht⟩ := hV a _ ha
  refine W.zast C.1 C.2.1 (hP q0 _ he) ((hK.2 t0 _ ht).1 len (fun j => .int (f j))) (fun q => by cases q) (by show ¬ (i < 0 ∨ (arrV _ _ _).slots.size ≤ _); rw [arrV_size]; exact ix_in hi hj) rfl rfl hdg fun H1 e1 z1 oq => ?_
  refine kk l D B p e s m args below meth c H1 _ ls C L (aR_set z hK hP hD hV he (e' := .inl (cA, len, .inl (va_up f j x))) ?_ z1 oq (fun ws' q => ⟨q0, t0, cA, q, ht⟩)) (S.put z1 oq (hD.2 q0 _ he))
  show H1[a]? = some (vp_cell _ _)
  rw [e1, ix_cl hi, vp_cell_i, vp_cell_i, hx, arrV_store]
  congr 2
  funext q
  by_cases hq : q = j
  · subst hq; simp [updV, va_up]
  · simp [updV, va_up, hq]
theorem aw_aastore {M : MI} {G : AG} {pc kc ks n : Nat} {lv : List (Option Value)} {h : Hp} {rest : List Value} {a len j : Nat} {f : Nat → Option Nat} {i : Int32} {v ci : Nat} {vs : List Value} {r : vw_C} (hdg : decode M.2.1 pc = .ok (.aastore, 1)) (ha : h a = some (.inl (.object r.1, len, .inr (.inr (.inr (.inr f)))))) (hv : h v = some (.inr (ci, vs))) (hc : vwCl[ci]? = some r) (hi : i.toInt = (j : Int)) (hj : j < len) (kk : AW M G (pc + 1) lv rest kc ks n (hup h a (.inl (.object r.1, len, .inr (.inr (.inr (.inr (va_up f j (some v))))))))) : AW M G pc lv (.ref v :: .int i :: .ref a :: rest) kc ks n h := by
  intro l D B p e s m args below meth c H locs ls C L R S
  obtain ⟨z, ws, tys, hK, hP, hD, hV⟩ := id R
  obtain ⟨q0, t0, cA, he, ht⟩ := hV a _ ha
  obtain ⟨qk, hvk⟩ := hV v _ hv
  obtain ⟨r', hr', cellV, g1, g2, g3, -⟩ := hP qk _ hvk
  have hcls := (hK.1 ci r hc).2
  obtain ⟨kA, comp, k1, k2, k3, -⟩ := (hK.2 t0 _ ht).2
  have hcomp : comp = D.1 ci := Option.some.inj (k3.symm.trans hcls.1)
  subst hcomp
  obtain ⟨kC, hkC, -⟩ := hcls.2
  have hin := ix_in hi hj
  refine W.aast C.1 C.2.1 (hP q0 _ he) (fun q h => by cases h) (fun h => by cases h) k1 k2 rfl hkC ⟨fun q => hin (Or.inl q), by show _ < (arrV _ _ _).slots.size; rw [arrV_size, ix_cl hi]; exact hj⟩ g1 (fun q h => by rw [g3] at h; cases h) (by rw [g2]; exact hkC) (by rw [g2]; exact va_assign hcls) rfl rfl hdg fun H1 e1 z1 oq => ?_
  refine kk l D B p e s m args below meth c H1 _ ls C L (aR_set z hK hP hD hV he (e' := .inl (cA, len, .inr (.inr (.inr (.inr (va_up f j (some v))))))) ?_ z1 oq (fun ws' q => ⟨q0, t0, cA, q, ht⟩)) (S.put z1 oq (hD.2 q0 _ he))
  show H1[a]? = some (vp_cell _ _)
  rw [e1, ix_cl hi, vp_cell_q, vp_cell_q, arrV_store]
  congr 2
  funext q
  by_cases hq : q = j
  · subst hq; simp [updV, va_up, va_rf]
  · simp [updV, va_up, hq]
theorem aw_newarray {M : MI} {G : AG} {pc kc ks n : Nat} {lv : List (Option Value)} {h : Hp} {rest : List Value} {atype : ArrayType} {ty : FieldType} {x : Int32} {N : Nat} {a0 : vp_A} (hw : Cond.arrayClass (newarray.typeOf atype) ∈ lw_good) (hty : newarray.typeOf atype = ty) (hra : ∀ (s : State) (cA : ClassId), s.vm.findClass ("[" ++ ty.toString) = some cA → va_RA s cA ty) (hdg : decode M.2.1 pc = .ok (.newarray atype, 2)) (ha : ∀ cA : ClassId, vp_cell cA a0 = arrV cA N (fun _ => defaultValue ty)) (hx : x.toInt = (N : Int)) (hbytes : N * componentBytes ty ≤ 536870912) (hcells : kc + 1 ≤ G.1.1) (hslots : ks + N ≤ G.1.2) (kk : AW M G (pc + 2) lv (.ref n :: rest) (kc + 1) (ks + N) (n + 1) (hup h n (.inl (ty, a0)))) : AW M G pc lv (.int x :: rest) kc ks n h := by
  subst hty
  intro l D B p e s m args below meth c H locs ls C L R S
  obtain ⟨z, ws, tys, hK, hP, hD, hV⟩ := id R
  refine va_newaK C.1 C.2.1 (C.2.2.2.2.2.1 _ hw) rfl hdg rfl (fun q => by have := Int32.lt_iff_toInt_lt.mp q; rw [hx] at this; simp at this; omega) (ix_cl hx) hbytes hcells hslots z fun H1 cA e1 z1 o1 hAr hNm => ?_
  refine kk l D B p e s m args below meth c H1 _ ls C L (aR_push (tys' := [(cA, newarray.typeOf atype)]) z (hK.more hAr (hra s cA hNm)) hP hD hV (Nat.le_trans C.2.2.2.2.2.2.2.2.1 (by rw [← z]; exact S.1)) (e' := .inl (cA, a0)) ?_ z1 o1 (fun ws' q => ⟨ws.length, tys.length, cA, q, by simp⟩)) ⟨Nat.le_trans S.1 (by omega), fun x h1 h2 => (o1 x (by rw [← z]; exact Nat.lt_of_lt_of_le h1 S.1)).trans (S.2.1 x h1 h2), S.2.2⟩
  show H1[n]? = some (vp_cell _ _)
  rw [ha]
  exact e1
theorem aw_anewarray {M : MI} {G : AG} {pc kc ks n : Nat} {lv : List (Option Value)} {h : Hp} {rest : List Value} {idx : Nat} {Cn : String} {x : Int32} {N : Nat} (hw : Cond.classLink M.1.cls idx Cn ∈ lw_good) (hao : ∀ s : State, aX s → va_AO Cn s) (hdg : decode M.2.1 pc = .ok (.anewarray idx, 3)) (hx : x.toInt = (N : Int)) (hbytes : N * 4 ≤ 536870912) (hcells : kc + 1 ≤ G.1.1) (hslots : ks + N ≤ G.1.2) (kk : AW M G (pc + 3) lv (.ref n :: rest) (kc + 1) (ks + N) (n + 1) (hup h n (.inl (.object Cn, N, .inr (.inr (.inr (.inr (fun _ => none)))))))) : AW M G pc lv (.int x :: rest) kc ks n h := by
  intro l D B p e s m args below meth c H locs ls C L R S
  obtain ⟨z, ws, tys, hK, hP, hD, hV⟩ := id R
  refine W.anew C.1 C.2.1 C.2.2.2.2.1 (C.2.2.2.2.2.1 _ hw) (va_AO.use (hao s C.2.2.2.2.2.2.2.2.2.1)) rfl hdg rfl (fun q => by have := Int32.lt_iff_toInt_lt.mp q; rw [hx] at this; simp at this; omega) (by rw [ix_cl hx]; exact hbytes) hcells (by rw [ix_cl hx]; exact hslots) fun cA kA comp f1 f2 f3 f4 => ?_
  rw [ix_cl hx]
  generalize hH1 : H.push ({ cls := cA, slots := Array.replicate N .null, vm := .none } : Cell) = H1
  have z1 : H1.size = n + 1 := by rw [← hH1, Array.size_push, z]
  have e1 : H1[n]? = some (arrV cA N (fun _ => .null)) := by rw [← hH1, ← z, Array.getElem?_push_size, ← arrV_new]
  have o1 : ∀ q : Nat, q < n → H1[q]? = H[q]? := fun q hq => by rw [← hH1, Array.getElem?_push, if_neg (by omega)]
  have hAr : ArrOfT s cA (.object Cn) := fun N z => ⟨(fun k h => by cases h), kA, f2, comp, f3⟩
  rw [z]
  refine kk l D B p e s m args below meth c H1 _ ls C L (aR_push (tys' := [(cA, .object Cn)]) z (hK.more hAr ⟨kA, comp, f2, f3, f4, f1⟩) hP hD hV (Nat.le_trans C.2.2.2.2.2.2.2.2.1 (by rw [← z]; exact S.1)) (e' := .inl (cA, N, .inr (.inr (.inr (.inr (fun _ => none)))))) ?_ z1 o1 (fun ws' q => ⟨ws.length, tys.length, cA, q, by simp⟩)) ⟨Nat.le_trans S.1 (by omega), fun x h1 h2 => (o1 x (by rw [← z]; exact Nat.lt_of_lt_of_le h1 S.1)).trans (S.2.1 x h1 h2), S.2.2⟩
  show H1[n]? = some (vp_cell _ _)
  rw [vp_cell_q]
  exact e1
/-- a class that may be made: its number, its fields' first values -/
def NL (own : String) (idx ci N : Nat) (fs : List Value) : Prop := ∃ (C : String) (T : u_T), vwCl[ci]? = some (C, T, N) ∧ (∀ w ∈ u_ws C T N, w ∈ lw_good) ∧ Cond.classLink own idx C ∈ lw_good ∧ Cond.instantiable C N ∈ lw_good ∧ Cond.initialized C ∈ lw_good ∧ ∃ t0 : Nat → FieldType, (∀ k, k < N → parseFieldDescriptor (T k).2.2.1 = some (t0 k)) ∧ ∀ j, j < N → defaultValue (t0 j) = vp_V fs j
theorem aw_new {M : MI} {G : AG} {pc kc ks n : Nat} {lv : List (Option Value)} {h : Hp} {rest : List Value} {idx ci N : Nat} {fs : List Value} (F : NL M.1.cls idx ci N fs) (hdg : decode M.2.1 pc = .ok (.new idx, 3)) (hcells : kc + 1 ≤ G.1.1) (hslots : ks + N ≤ G.1.2) (kk : AW M G (pc + 3) lv (.ref n :: rest) (kc + 1) (ks + N) (n + 1) (hup h n (.inr (ci, fs)))) : AW M G pc lv rest kc ks n h := by
  intro l D B p e s m args below meth c H locs ls C L R S
  obtain ⟨z, ws, tys, hK, hP, hD, hV⟩ := id R
  obtain ⟨C', T', hc, hin, hcl, hinst, hini, t0, ht0, hfs⟩ := F
  have hts := C.2.2.2.2.2.1
  have hKn := hK.1 ci _ hc
  refine W.newcK C.1 C.2.1 C.2.2.2.2.1 (hts _ hcl) (hts _ hinst) (hts _ hini) rfl hdg hcells hslots hKn.2.1 z fun H1 kC hkC e1 z1 o1 => ?_
  have hK' : va_K D vwCl (tys ++ []) s := by rw [List.append_nil]; exact hK
  exact kk l D B p e s m args below meth c H1 _ ls C L (aR_push (tys' := []) z hK' hP hD hV (Nat.le_trans C.2.2.2.2.2.2.2.2.1 (by rw [← z]; exact S.1)) (e' := .inr (ci, fs)) ⟨_, hc, (u_born t0 hts hin hKn hkC e1 ht0).to hfs⟩ z1 o1 (fun ws' q => ⟨ws.length, q⟩)) ⟨Nat.le_trans S.1 (by omega), fun x h1 h2 => (o1 x (by rw [← z]; exact Nat.lt_of_lt_of_le h1 S.1)).trans (S.2.1 x h1 h2), S.2.2⟩
/-! ends -/
theorem aQ_at {D : va_G} {B n : Nat} {h : Hp} {s t : State} {H : Heap} {locs : List Loc} {args : Array Value} {Q : Option Value → Nat → Hp → Prop} {r : Option Value} (q : Q r n h) (R : aR D B n h s H) (S : va_S (aA B) s.heap H locs) (ht : t.heap = H) (hW : s.WarmedH t.vm) : aQ D B Q args s (.returned r) t := ⟨⟨r, n, h, rfl, q, by rw [ht]; exact R.moved hW.alike⟩, S.F ht⟩
theorem aw_ireturn {M : MI} {mc ms pc kc ks n : Nat} {lv : List (Option Value)} {h : Hp} {Q : Option Value → Nat → Hp → Prop} {v : Int32} {ty : FieldType} (hdg : decode M.2.1 pc = .ok (.ireturn, 1)) (hr : M.2.2.2.1 = some ty) (hn : narrow ty (.int v) = .int v) (h1 : kc ≤ mc) (h2 : ks ≤ ms) (q : Q (some (.int v)) n h) : AW M (gq mc ms Q) pc lv [.int v] kc ks n h :=
  fun l D B p e s m args below meth c H locs ls C L R S => W.widen h1 h2 (W.zret C.1 C.2.1 (C.2.2.1.trans hr) hn (fun t ht hW => aQ_at q R S ht hW) S.2.2 hdg C.2.2.2.2.2.2.1)
theorem aw_lreturn {M : MI} {mc ms pc kc ks n : Nat} {lv : List (Option Value)} {h : Hp} {Q : Option Value → Nat → Hp → Prop} {v : Int64} (hdg : decode M.2.1 pc = .ok (.lreturn, 1)) (hr : M.2.2.2.1 = some .long) (h1 : kc ≤ mc) (h2 : ks ≤ ms) (q : Q (some (.long v)) n h) : AW M (gq mc ms Q) pc lv [.long v] kc ks n h :=
  fun l D B p e s m args below meth c H locs ls C L R S => W.widen h1 h2 (W.lret C.1 C.2.1 (C.2.2.1.trans hr) (fun t ht hW => aQ_at q R S ht hW) S.2.2 hdg C.2.2.2.2.2.2.1)
theorem aw_return {M : MI} {mc ms pc kc ks n : Nat} {lv : List (Option Value)} {h : Hp} {Q : Option Value → Nat → Hp → Prop} (hdg : decode M.2.1 pc = .ok (.return_, 1)) (hr : M.2.2.2.1 = none) (h1 : kc ≤ mc) (h2 : ks ≤ ms) (q : Q none n h) : AW M (gq mc ms Q) pc lv [] kc ks n h :=
  fun l D B p e s m args below meth c H locs ls C L R S => W.widen h1 h2 (W.vret C.1 C.2.1 (C.2.2.1.trans hr) (fun t ht hW => aQ_at q R S ht hW) S.2.2 hdg C.2.2.2.2.2.2.1)
theorem aw_areturn {M : MI} {mc ms pc kc ks n : Nat} {lv : List (Option Value)} {h : Hp} {Q : Option Value → Nat → Hp → Prop} {v : Value} {C0 : String} (hdg : decode M.2.1 pc = .ok (.areturn, 1)) (hr : M.2.2.2.1 = some (.object C0)) (hv : v = .null ∨ ∃ a, v = .ref a) (h1 : kc ≤ mc) (h2 : ks ≤ ms) (q : Q (some v) n h) : AW M (gq mc ms Q) pc lv [v] kc ks n h :=
  fun l D B p e s m args below meth c H locs ls C L R S => W.widen h1 h2 (W.aret C.1 C.2.1 (C.2.2.1.trans hr) (Or.inl ⟨C0, rfl⟩) hv (fun t ht hW => aQ_at q R S ht hW) S.2.2 hdg C.2.2.2.2.2.2.1)
/-! a contract out of a walk -/
def elv : List Value → List (Option Value)
  | [] => []
  | v :: t => if v.category = 2 then some v :: none :: elv t else some v :: elv t
theorem elv_len : ∀ vs : List Value, (elv vs).length = (lg_sl vs).length
  | [] => rfl
  | v :: t => by
    have := elv_len t
    simp only [elv, lg_sl, List.flatMap_cons] at *
    split <;> simp_all <;> omega
theorem elv_get : ∀ (vs : List Value) (k i : Nat) (v : Value), (elv vs)[i]? = some (some v) → (k + i, v) ∈ lv_args k vs
  | [], _, _, _, h => by simp [elv] at h
  | w :: t, k, i, v, h => by
    simp only [elv] at h
    by_cases hc : w.category = 2
    · rw [if_pos hc] at h
      simp only [lv_args, if_pos hc]
      match i, h with
      | 0, h => simp at h; simp [h]
      | 1, h => simp at h
      | i + 2, h => exact List.mem_cons_of_mem _ (by have := elv_get t (k + 2) i v (by simpa using h); rwa [show k + (i + 2) = k + 2 + i by omega])
    · rw [if_neg hc] at h
      simp only [lv_args, if_neg hc]
      match i, h with
      | 0, h => simp at h; simp [h]
      | i + 1, h => exact List.mem_cons_of_mem _ (by have := elv_get t (k + 1) i v (by simpa using h); rwa [show k + (i + 1) = k + 1 + i by omega])
theorem CT.intro {M : MI} {mc ms n : Nat} {h : Hp} {av : List Value} {Sp : Option Value → Nat → Hp → Prop} (lv : List (Option Value)) (k : Nat) (hlv : lv = elv av ++ List.replicate k none) (hlen : lv.length = M.2.2.1) (hy : plainName M.1.cls = true)
    (body : ∀ Q : Option Value → Nat → Hp → Prop, (∀ r n' h', Sp r n' h' → Q r n' h') → AW M (gq mc ms Q) 0 lv [] 0 0 n h) : CT M mc ms n h av Sp := by
  intro l D B
  refine Met.ofW (cc := M.2.1) (maxL := M.2.2.1) (ret := M.2.2.2.1) hy rfl ?_
  intro p e s m args below meth c s₁ Bo hml hv
  obtain ⟨rfl, hB, hX, hR⟩ := hv
  have hts := atoms_spec (ws := Cond.code M.1 M.2.1 M.2.2.1 M.2.2.2.1 :: lw_good) Bo.pre
  have hown : s.vm.findClass M.1.cls = some m.cls := findClass_of_methodNamed Bo.named
  have hnm : meth.name = M.1.name := (name_of_methodNamed Bo.named Bo.method).1
  have hle : (lg_sl av).length ≤ M.2.2.1 := by rw [← elv_len, ← hlen, hlv]; simp
  have hl := lv_entry av (n := M.2.2.1) hle
  rw [lg_entry_eq]
  refine body Sp (fun _ _ _ q => q) l D B p e s m av.toArray below meth c s.heap [] _ ⟨Bo.exec, Bo.bytes, Bo.returns, hml, hown, fun w hw => hts w (List.mem_cons_of_mem _ hw), Bo.notSynchronized, hnm, hB, hX, trivial⟩ ⟨hl.1, hl.2.1, fun i v q => ?_⟩ hR va_S.rf
  have q2 : (elv av)[i]? = some (some v) := by
    rw [hlv] at q
    by_cases hi : i < (elv av).length
    · rwa [List.getElem?_append_left hi] at q
    · rw [List.getElem?_append_right (by omega)] at q
      rw [List.getElem?_replicate] at q
      split at q
      · cases q
      · cases q
  simpa using hl.2.2 _ (elv_get av 0 i v q2)
theorem CT.weaken {M : MI} {mc ms n : Nat} {h : Hp} {av : List Value} {Q Q' : Option Value → Nat → Hp → Prop} (hc : CT M mc ms n h av Q) (w : ∀ r n' h', Q r n' h' → Q' r n' h') : CT M mc ms n h av Q' := by
  intro l D B p e ha hcc hk s m args below hf happ hP hK
  obtain ⟨k, o, h1, h2, h3, ⟨⟨⟨r, n', h', e1, q, rr⟩, hF⟩, q2⟩⟩ := hc l D B p e ha hcc hk s m args below hf happ hP hK
  exact ⟨k, o, h1, h2, h3, ⟨⟨⟨r, n', h', e1, w _ _ _ q, rr⟩, hF⟩, q2⟩⟩
/-! calls -/
theorem aP_blind {D : va_G} {B n : Nat} {h : Hp} {av : List Value} : FrameBlind (va_Pc av (aP D B n h)) := fun a U g mk q => by
  obtain ⟨q0, q1, q2, q3⟩ := q
  exact ⟨q0, q1, q2.same rfl, q3.moved (u := U) (U := U.calling g mk a) (Vm.Alike.refl U.vm)⟩
theorem aP_of {D : va_G} {B n : Nat} {h : Hp} {s U : State} {H : Heap} {locs : List Loc} (hB : B ≤ s.heap.size) (hX : aX s) (R : aR D B n h s H) (S : va_S (aA B) s.heap H locs) (hU : U.heap = H) (hW : s.WarmedH U.vm) : aP D B n h U := ⟨by rw [hU]; exact Nat.le_trans hB S.1, hX.warm hW, by rw [hU]; exact R.moved hW.alike⟩
theorem lw_goodIn {w0 : Cond} (h : w0 ∈ lw_good) : GoodIn lw_good (w0 :: lw_good) := fun w hw => by
  have hm : w ∈ lw_good := (List.mem_cons.mp hw).elim (fun e => e ▸ h) id
  exact ⟨hm, good_of_word (List.mem_filter.mp hm).2⟩
theorem aw_go {M : MI} {G : AG} {pc kc ks n : Nat} {lv : List (Option Value)} {h : Hp} {rest : List Value} {M2 : MI} {mc ms : Nat} {h2 : Hp} {av : List Value} {Q2 : Option Value → Nat → Hp → Prop} {st0 : List Value} (run : ∀ (l : Launch) (D : va_G) (B : Nat) (p : Program) (e : Env) (s : State) (m : MethodId) (args : Array Value) (below : List Frame) (meth : Method) (c : Code) (H : Heap) (locs : List Loc) (ls : Array Slot), aC M G B p s m args meth c → aL ls M.2.2.1 lv → aR D B n h s H → va_S (aA B) s.heap H locs → va_Run p l e { frames := M.2.2.2.2.1, cells := G.1.1, slots := G.1.2, locals := M.2.2.2.2.2 } s m args below meth c H locs kc ks mc ms (F0 m pc ls st0) rest (aQ D B Q2 av.toArray) (aA B)) (kk : ∀ (r : Option Value) (n' : Nat) (h' : Hp), Q2 r n' h' → AW M G (pc + 3) lv (r.toList ++ rest) (kc + mc) (ks + ms) n' h') : AW M G pc lv st0 kc ks n h := by
  intro l D B p e s m args below meth c H locs ls C L R S
  intro T hT X
  obtain ⟨v, st₀, t, T', L', h0, X', hL, e1, e2, ⟨⟨r, n', h', hv, q, hR'⟩, hz, hk⟩, st⟩ := run l D B p e s m args below meth c H locs ls C L R S T hT X
  have hv : v = r := by simpa using hv
  subst hv
  rw [h0] at hz hk
  have hvm : s.vm.Alike t.vm := by rw [← e2]; exact X'.warmed.alike
  obtain ⟨t2, a1, b1⟩ := kk v n' h' q l D B p e s m args below meth c T'.heap (locs ++ L') ls C L (by rw [e1]; exact hR'.moved hvm.symm)
    ⟨Nat.le_trans S.1 (by rw [e1]; exact hz), fun q h1 h2 => by rw [e1, hk q (Nat.lt_of_lt_of_le h1 S.1) h2]; exact S.2.1 q h1 h2, fun q hq => by
      rcases List.mem_append.mp hq with h | h
      · exact S.2.2 q h
      · exact hL q h⟩ T' rfl X'
  exact ⟨t2, st t2 a1, b1⟩
/-- a call's words: static, of an object, of a constructor -/
def MLs (own : String) (idx : Nat) (M2 : MI) (k : Nat) : Prop := Cond.methodLink own idx M2.1 ∈ lw_good ∧ Cond.static M2.1 ∈ lw_good ∧ Cond.initialized M2.1.cls ∈ lw_good ∧ Cond.code M2.1 M2.2.1 M2.2.2.1 M2.2.2.2.1 ∈ lw_good ∧ (M2.1.cls ≠ "java/lang/invoke/MethodHandle" ∧ M2.1.cls ≠ "java/lang/invoke/VarHandle" ∧ (parseMethodDescriptor M2.1.desc).map (fun d => d.parameters.length) = some k)
def MLv (own : String) (idx : Nat) (M2 : MI) (ci k : Nat) : Prop := (∃ r : vw_C, vwCl[ci]? = some r ∧ r.1 = M2.1.cls) ∧ Cond.methodLink own idx M2.1 ∈ lw_good ∧ Cond.instanceMethod M2.1 ∈ lw_good ∧ Cond.selects M2.1.cls M2.1 M2.1 ∈ lw_good ∧ Cond.initialized M2.1.cls ∈ lw_good ∧ Cond.code M2.1 M2.2.1 M2.2.2.1 M2.2.2.2.1 ∈ lw_good ∧ (M2.1.cls ≠ "java/lang/invoke/MethodHandle" ∧ M2.1.cls ≠ "java/lang/invoke/VarHandle" ∧ (parseMethodDescriptor M2.1.desc).map (fun d => d.parameters.length) = some k)
def MLi (own : String) (idx : Nat) (M2 : MI) (k : Nat) : Prop := M2.1.name = "<init>" ∧ M2.2.2.2.1 = none ∧ Cond.methodLink own idx M2.1 ∈ lw_good ∧ Cond.instanceMethod M2.1 ∈ lw_good ∧ Cond.initialized M2.1.cls ∈ lw_good ∧ Cond.code M2.1 M2.2.1 M2.2.2.1 M2.2.2.2.1 ∈ lw_good ∧ (M2.1.cls ≠ "java/lang/invoke/MethodHandle" ∧ M2.1.cls ≠ "java/lang/invoke/VarHandle" ∧ (parseMethodDescriptor M2.1.desc).map (fun d => d.parameters.length) = some k)
theorem aw_invokestatic {M : MI} {G : AG} {pc kc ks n : Nat} {lv : List (Option Value)} {h : Hp} {rest : List Value} {M2 : MI} {idx k mc ms : Nat} {Q2 : Option Value → Nat → Hp → Prop} {As : List Value} {st0 : List Value} (F : MLs M.1.cls idx M2 k) (hdg : decode M.2.1 pc = .ok (.invokestatic idx, 3)) (hct : CT M2 mc ms n h As Q2) (hn : As.length = k) (hst : st0 = As.reverse ++ rest) (hW : (rest.map fun v => v.category).sum ≤ 8) (hR : M2.2.2.2.2.1 + 1 ≤ M.2.2.2.2.1 ∧ 8 + (M2.2.2.1 + 11) + M2.2.2.2.2.2 ≤ M.2.2.2.2.2) (hf : kc + mc ≤ G.1.1 ∧ ks + ms ≤ G.1.2) (kk : ∀ (r : Option Value) (n' : Nat) (h' : Hp), Q2 r n' h' → AW M G (pc + 3) lv (r.toList ++ rest) (kc + mc) (ks + ms) n' h') : AW M G pc lv st0 kc ks n h := by
  subst hst
  refine aw_go (M2 := M2) (h2 := h) (av := As) (mc := mc) (ms := ms) ?_ kk
  intro l D B p e s m args below meth c H locs ls C L R S
  obtain ⟨f1, f2, f3, f4, f5⟩ := F
  have hts := C.2.2.2.2.2.1
  exact va_runS (Ts := lw_good) ⟨C.1, C.2.1, C.2.2.2.1, C.2.2.2.2.1, hts⟩ (hct l D B) ⟨callB_of k hts (lw_goodIn f4) rfl rfl rfl (hts _ f3) (hts _ f1) f5 hR, hts _ f2⟩ ⟨aP_blind, fun U hU hW => ⟨rfl, aP_of C.2.2.2.2.2.2.2.2.1 C.2.2.2.2.2.2.2.2.2.1 R S hU hW⟩⟩ rfl hn L.1 rfl (lv_room hW) hdg hf
theorem aw_invokevirtual {M : MI} {G : AG} {pc kc ks n : Nat} {lv : List (Option Value)} {h : Hp} {rest : List Value} {M2 : MI} {idx ci k mc ms : Nat} {Q2 : Option Value → Nat → Hp → Prop} {b : Nat} {fs : List Value} {As : List Value} {st0 : List Value} (F : MLv M.1.cls idx M2 ci k) (hdg : decode M.2.1 pc = .ok (.invokevirtual idx, 3)) (hb : h b = some (.inr (ci, fs))) (hct : CT M2 mc ms n h (.ref b :: As) Q2) (hn : As.length = k) (hst : st0 = As.reverse ++ .ref b :: rest) (hW : (rest.map fun v => v.category).sum ≤ 8) (hR : M2.2.2.2.2.1 + 1 ≤ M.2.2.2.2.1 ∧ 8 + (M2.2.2.1 + 11) + M2.2.2.2.2.2 ≤ M.2.2.2.2.2) (hf : kc + mc ≤ G.1.1 ∧ ks + ms ≤ G.1.2) (kk : ∀ (r : Option Value) (n' : Nat) (h' : Hp), Q2 r n' h' → AW M G (pc + 3) lv (r.toList ++ rest) (kc + mc) (ks + ms) n' h') : AW M G pc lv st0 kc ks n h := by
  subst hst
  refine aw_go (M2 := M2) (h2 := h) (av := .ref b :: As) (mc := mc) (ms := ms) ?_ kk
  intro l D B p e s m args below meth c H locs ls C L R S
  obtain ⟨⟨r, hc, hr⟩, f1, f2, f2b, f3, f4, f5⟩ := F
  have hts := C.2.2.2.2.2.1
  obtain ⟨z, ws, tys, hK, hP, hD, hV⟩ := id R
  obtain ⟨q0, he⟩ := hV b _ hb
  have hrecv := va_recv hK hP hc he
  rw [hr] at hrecv
  exact va_runV (Ts := lw_good) (C := M2.1.cls) ⟨C.1, C.2.1, C.2.2.2.1, C.2.2.2.2.1, hts⟩ (hct l D B) ⟨callB_of k hts (lw_goodIn f4) rfl rfl rfl (hts _ f3) (hts _ f1) f5 hR, hts _ f2, hts _ f2b⟩ ⟨aP_blind, hrecv, fun U hU hW => ⟨rfl, aP_of C.2.2.2.2.2.2.2.2.1 C.2.2.2.2.2.2.2.2.2.1 R S hU hW⟩⟩ rfl hn L.1 rfl (lv_room hW) hdg hf
theorem aw_invokespecial {M : MI} {G : AG} {pc kc ks n : Nat} {lv : List (Option Value)} {h : Hp} {rest : List Value} {M2 : MI} {idx k mc ms : Nat} {Q2 : Option Value → Nat → Hp → Prop} {b : Nat} {As : List Value} {st0 : List Value} (F : MLi M.1.cls idx M2 k) (hdg : decode M.2.1 pc = .ok (.invokespecial idx, 3)) (hct : CT M2 mc ms n h (.ref b :: As) Q2) (hn : As.length = k) (hst : st0 = As.reverse ++ .ref b :: rest) (hW : (rest.map fun v => v.category).sum ≤ 8) (hR : M2.2.2.2.2.1 + 1 ≤ M.2.2.2.2.1 ∧ 8 + (M2.2.2.1 + 11) + M2.2.2.2.2.2 ≤ M.2.2.2.2.2) (hf : kc + mc ≤ G.1.1 ∧ ks + ms ≤ G.1.2) (kk : ∀ (r : Option Value) (n' : Nat) (h' : Hp), Q2 r n' h' → AW M G (pc + 3) lv (r.toList ++ rest) (kc + mc) (ks + ms) n' h') : AW M G pc lv st0 kc ks n h := by
  subst hst
  refine aw_go (M2 := M2) (h2 := h) (av := .ref b :: As) (mc := mc) (ms := ms) ?_ kk
  intro l D B p e s m args below meth c H locs ls C L R S
  obtain ⟨f0, f00, f1, f2, f3, f4, f5⟩ := F
  have hts := C.2.2.2.2.2.1
  have hct' := hct l D B
  rw [f00] at hct' f4
  exact va_runI (Ts := lw_good) ⟨C.1, C.2.1, C.2.2.2.1, C.2.2.2.2.1, hts⟩ hct' ⟨callB_of k hts (lw_goodIn f4) rfl rfl rfl (hts _ f3) (hts _ f1) f5 hR, f0, hts _ f2⟩ ⟨aP_blind, fun U hU hW => ⟨rfl, aP_of C.2.2.2.2.2.2.2.2.1 C.2.2.2.2.2.2.2.2.2.1 R S hU hW⟩⟩ rfl hn L.1 rfl (lv_room hW) hdg hf
def MLn (own : String) (idx : Nat) (M2 : MI) (k : Nat) (host : String) : Prop := M2.1.name = "<init>" ∧ M2.2.2.2.1 = none ∧ (∀ s : State, aX s → va_Nw (.methodLinkNest own idx M2.1 host) s) ∧ Cond.instanceMethod M2.1 ∈ lw_good ∧ Cond.initialized M2.1.cls ∈ lw_good ∧ Cond.code M2.1 M2.2.1 M2.2.2.1 M2.2.2.2.1 ∈ lw_good ∧ (M2.1.cls ≠ "java/lang/invoke/MethodHandle" ∧ M2.1.cls ≠ "java/lang/invoke/VarHandle" ∧ (parseMethodDescriptor M2.1.desc).map (fun d => d.parameters.length) = some k)
theorem aw_invokenest {M : MI} {G : AG} {pc kc ks n : Nat} {lv : List (Option Value)} {h : Hp} {rest : List Value} {M2 : MI} {idx k mc ms : Nat} {host : String} {Q2 : Option Value → Nat → Hp → Prop} {b : Nat} {As : List Value} {st0 : List Value} (F : MLn M.1.cls idx M2 k host) (hdg : decode M.2.1 pc = .ok (.invokespecial idx, 3)) (hct : CT M2 mc ms n h (.ref b :: As) Q2) (hn : As.length = k) (hst : st0 = As.reverse ++ .ref b :: rest) (hW : (rest.map fun v => v.category).sum ≤ 8) (hR : M2.2.2.2.2.1 + 1 ≤ M.2.2.2.2.1 ∧ 8 + (M2.2.2.1 + 11) + M2.2.2.2.2.2 ≤ M.2.2.2.2.2) (hf : kc + mc ≤ G.1.1 ∧ ks + ms ≤ G.1.2) (kk : ∀ (r : Option Value) (n' : Nat) (h' : Hp), Q2 r n' h' → AW M G (pc + 3) lv (r.toList ++ rest) (kc + mc) (ks + ms) n' h') : AW M G pc lv st0 kc ks n h := by
  subst hst
  refine aw_go (M2 := M2) (h2 := h) (av := .ref b :: As) (mc := mc) (ms := ms) ?_ kk
  intro l D B p e s m args below meth c H locs ls C L R S
  obtain ⟨f0, f00, f1, f2, f3, f4, f5⟩ := F
  have hts := C.2.2.2.2.2.1
  have hct' := hct l D B
  rw [f00] at hct' f4
  exact va_runIN (Ts := lw_good) (host := host) ⟨C.1, C.2.1, C.2.2.2.1, C.2.2.2.2.1, hts⟩ hct' ⟨va_cnB k hts (lw_goodIn f4) rfl rfl rfl (f1 s C.2.2.2.2.2.2.2.2.2.1) (hts _ f3) f5 hR, f0, hts _ f2⟩ ⟨aP_blind, fun U hU hW => ⟨rfl, aP_of C.2.2.2.2.2.2.2.2.1 C.2.2.2.2.2.2.2.2.2.1 R S hU hW⟩⟩ rfl hn L.1 rfl (lv_room hW) hdg hf
theorem aw_objinit {M : MI} {G : AG} {pc kc ks n : Nat} {lv : List (Option Value)} {h : Hp} {rest : List Value} {idx a : Nat} (f1 : Cond.methodLink M.1.cls idx objectInit ∈ lw_good) (f2 : Cond.instanceMethod objectInit ∈ lw_good) (f3 : Cond.code objectInit ⟨#[0xb1]⟩ 1 none ∈ lw_good) (hdg : decode M.2.1 pc = .ok (.invokespecial idx, 3)) (hfr : 1 ≤ M.2.2.2.2.1) (hlo : (rest.map fun v => v.category).sum + 12 ≤ M.2.2.2.2.2) (kk : AW M G (pc + 3) lv rest kc ks n h) : AW M G pc lv (.ref a :: rest) kc ks n h :=
  fun l D B p e s m args below meth c H locs ls C L R S => W.objInit C.1 C.2.1 C.2.2.2.2.1 (C.2.2.2.2.2.1 _ f1) (C.2.2.2.2.2.1 _ f2) (C.2.2.2.2.2.1 _ f3) rfl (L.1.trans C.2.2.2.1.symm) rfl hdg hfr (by show 2 * 0 + _ + _ ≤ _; simpa using hlo) (kk l D B p e s m args below meth c H locs ls C L R S)
theorem aw_mmax {M : MI} {G : AG} {pc kc ks n : Nat} {lv : List (Option Value)} {h : Hp} {rest : List Value} {idx : Nat} {x y : Int32} (f1 : Cond.methodLink M.1.cls idx Lib.Math.max.name ∈ lw_good) (f2 : Cond.static Lib.Math.max.name ∈ lw_good) (f3 : Cond.initialized "java/lang/Math" ∈ lw_good) (f4 : Cond.code Lib.Math.max.name Lib.Math.max.code 2 (some .int) ∈ lw_good) (hdg : decode M.2.1 pc = .ok (.invokestatic idx, 3)) (hfr : 1 ≤ M.2.2.2.2.1) (hlo : (rest.map fun v => v.category).sum + 13 ≤ M.2.2.2.2.2) (hc : kc ≤ G.1.1) (hs : ks ≤ G.1.2) (kk : AW M G (pc + 3) lv (.int (if x < y then y else x) :: rest) kc ks n h) : AW M G pc lv (.int y :: .int x :: rest) kc ks n h :=
  fun l D B p e s m args below meth c H locs ls C L R S => va_mmax C.1 C.2.1 (C.2.2.2.1.trans L.1.symm) C.2.2.2.2.1 (C.2.2.2.2.2.1 _ f1) (C.2.2.2.2.2.1 _ f2) (C.2.2.2.2.2.1 _ f3) (C.2.2.2.2.2.1 _ f4) hfr hlo hc hs hdg (kk l D B p e s m args below meth c H locs ls C L R S)
theorem aw_mmin {M : MI} {G : AG} {pc kc ks n : Nat} {lv : List (Option Value)} {h : Hp} {rest : List Value} {idx : Nat} {x y : Int32} (f1 : Cond.methodLink M.1.cls idx Lib.Math.min.name ∈ lw_good) (f2 : Cond.static Lib.Math.min.name ∈ lw_good) (f3 : Cond.initialized "java/lang/Math" ∈ lw_good) (f4 : Cond.code Lib.Math.min.name Lib.Math.min.code 2 (some .int) ∈ lw_good) (hdg : decode M.2.1 pc = .ok (.invokestatic idx, 3)) (hfr : 1 ≤ M.2.2.2.2.1) (hlo : (rest.map fun v => v.category).sum + 13 ≤ M.2.2.2.2.2) (hc : kc ≤ G.1.1) (hs : ks ≤ G.1.2) (kk : AW M G (pc + 3) lv (.int (if y < x then y else x) :: rest) kc ks n h) : AW M G pc lv (.int y :: .int x :: rest) kc ks n h :=
  fun l D B p e s m args below meth c H locs ls C L R S => va_mmin C.1 C.2.1 (C.2.2.2.1.trans L.1.symm) C.2.2.2.2.1 (C.2.2.2.2.2.1 _ f1) (C.2.2.2.2.2.1 _ f2) (C.2.2.2.2.2.1 _ f3) (C.2.2.2.2.2.1 _ f4) hfr hlo hc hs hdg (kk l D B p e s m args below meth c H locs ls C L R S)
theorem aw_mabs {M : MI} {G : AG} {pc kc ks n : Nat} {lv : List (Option Value)} {h : Hp} {rest : List Value} {idx : Nat} {x : Int32} (f1 : Cond.methodLink M.1.cls idx Lib.Math.abs.name ∈ lw_good) (f2 : Cond.static Lib.Math.abs.name ∈ lw_good) (f3 : Cond.initialized "java/lang/Math" ∈ lw_good) (f4 : Cond.code Lib.Math.abs.name Lib.Math.abs.code 1 (some .int) ∈ lw_good) (hdg : decode M.2.1 pc = .ok (.invokestatic idx, 3)) (hfr : 1 ≤ M.2.2.2.2.1) (hlo : (rest.map fun v => v.category).sum + 13 ≤ M.2.2.2.2.2) (hc : kc ≤ G.1.1) (hs : ks ≤ G.1.2) (kk : AW M G (pc + 3) lv (.int (if 0 ≤ x then x else 0 - x) :: rest) kc ks n h) : AW M G pc lv (.int x :: rest) kc ks n h :=
  fun l D B p e s m args below meth c H locs ls C L R S => va_mabs C.1 C.2.1 (C.2.2.2.1.trans L.1.symm) C.2.2.2.2.1 (C.2.2.2.2.2.1 _ f1) (C.2.2.2.2.2.1 _ f2) (C.2.2.2.2.2.1 _ f3) (C.2.2.2.2.2.1 _ f4) hfr hlo hc hs hdg (kk l D B p e s m args below meth c H locs ls C L R S)
