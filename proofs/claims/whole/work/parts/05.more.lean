
theorem aw_arraycopy {M : MI} {G : AG} {pc kc ks n : Nat} {lv : List (Option Value)} {h : Hp} {rest : List Value} {idx : Nat} {a0 a n0 n1 j0 j1 k : Nat} {f g : Nat → Int32} {sp dp nn : Int32} (f1 : Cond.methodLink M.1.cls idx arraycopyName ∈ lw_good) (f2 : Cond.native arraycopyName ∈ lw_good) (f3 : Cond.static arraycopyName ∈ lw_good) (f4 : Cond.initialized "java/lang/System" ∈ lw_good) (hdg : decode M.2.1 pc = .ok (.invokestatic idx, 3)) (ha0 : h a0 = some (.inl (.int, n0, .inl f))) (ha1 : h a = some (.inl (.int, n1, .inl g))) (hsp : sp.toInt = (j0 : Int)) (hdp : dp.toInt = (j1 : Int)) (hnn : nn.toInt = (k : Int)) (h4 : j0 + k ≤ n0) (h5 : j1 + k ≤ n1) (hfr : 1 ≤ M.2.2.2.2.1) (hlo : (rest.map fun v => v.category).sum + (nativeFrameWords "java/lang/System" "arraycopy" 5 + 11) ≤ M.2.2.2.2.2) (kk : AW M G (pc + 3) lv rest kc ks n (hup h a (.inl (.int, n1, .inl (va_cpy f g j0 j1 k))))) : AW M G pc lv (.int nn :: .int dp :: .ref a :: .int sp :: .ref a0 :: rest) kc ks n h := by
  intro l D B p e s m args below meth c H locs ls C L R S
  obtain ⟨z, ws, tys, hK, hP, hD, hV⟩ := id R
  obtain ⟨q0, t0, c0, he0, ht0⟩ := hV a0 _ ha0
  obtain ⟨q1, t1, c1, he1, ht1⟩ := hV a _ ha1
  have hts := C.2.2.2.2.2.1
  have ng : ∀ (y : Int32) (i : Nat), y.toInt = (i : Int) → ¬ y < 0 := fun y i hy q => by have := Int32.lt_iff_toInt_lt.mp q; rw [hy] at this; simp at this; omega
  intro T hT X
  have hc0 : H[a0]? = some (vp_cell c0 (n0, .inl f)) := hP q0 _ he0
  have hc1 : H[a]? = some (vp_cell c1 (n1, .inl g)) := hP q1 _ he1
  obtain ⟨-, k0, hk0, cm0, hkk0⟩ := (hK.2 t0 _ ht0).1 n0 (fun j => .int (f j))
  obtain ⟨-, k1, hk1, cm1, hkk1⟩ := (hK.2 t1 _ ht1).1 n1 (fun j => .int (g j))
  obtain ⟨vm', X', step⟩ := X.arraycopy C.1 C.2.2.2.2.1 (hts _ f1) (hts _ f2) (hts _ f3) (hts _ f4) (src := a0) (dst := a) (cs := vp_cell c0 (n0, .inl f)) (cd := vp_cell c1 (n1, .inl g)) (srcPos := sp) (destPos := dp) (n := nn) (by rw [hT]; exact hc0) (by rw [hT]; exact hc1)
    (fun _ h => by cases h) (fun _ h => by cases h) (fun h => by cases h) (fun h => by cases h) hk0 hk1 hkk0 hkk1 (by simp [refKind]) (ng _ _ hsp) (ng _ _ hdp) (ng _ _ hnn)
    (by rw [hsp, hnn]; show ¬ _ > ((arrV c0 n0 (fun j => .int (f j))).slots.size : Int); rw [arrV_size]; omega)
    (by rw [hdp, hnn]; show ¬ _ > ((arrV c1 n1 (fun j => .int (g j))).slots.size : Int); rw [arrV_size]; omega)
    (fun vm₁ _ i hi => by
      rw [ix_cl hnn] at hi
      have e0 : (vp_cell c0 (n0, .inl f)).slots.getD (sp.toNatClampNeg + i) .null = .int (f (sp.toNatClampNeg + i)) := by
        show (arrV c0 n0 (fun j => .int (f j))).slots.getD _ _ = _
        rw [Array.getD_eq_getD_getElem?, arrV_read _ _ (by rw [ix_cl hsp]; omega)]
        rfl
      refine ⟨?_, ?_⟩
      · rw [e0]; rfl
      · rw [e0]; exact trivial)
    (g := F0 m pc ls (.int nn :: .int dp :: .ref a :: .int sp :: .ref a0 :: rest)) rfl (L.1.trans C.2.2.2.1.symm) (rest := rest) rfl (by rw [C.2.1]; exact hdg) hfr (by show 2 * 0 + _ + _ ≤ _; show 2 * 0 + _ + _ ≤ M.2.2.2.2.2; omega)
  have e1 : copied (vp_cell c0 (n0, .inl f)) (vp_cell c1 (n1, .inl g)) sp dp nn = vp_cell c1 (n1, .inl (va_cpy f g j0 j1 k)) := by
    have e2 : copied (vp_cell c0 (n0, .inl f)) (vp_cell c1 (n1, .inl g)) sp dp nn = vp_cell c1 (n1, .inl (va_cpy f g sp.toNatClampNeg dp.toNatClampNeg nn.toNatClampNeg)) := va_copied (fun z => .int z) c0 c1 f g (by rw [ix_cl hsp, ix_cl hnn]; exact h4)
    rw [ix_cl hsp, ix_cl hdp, ix_cl hnn] at e2
    exact e2
  rw [e1] at X' step
  have hl : a < H.size := (Array.getElem?_eq_some_iff.mp hc1).1
  have hheap : ((T.setVm vm').setCell a (vp_cell c1 (n1, .inl (va_cpy f g j0 j1 k)))).heap = H.setIfInBounds a (vp_cell c1 (n1, .inl (va_cpy f g j0 j1 k))) := by rw [← hT]; rfl
  have oq : ∀ q : Nat, q ≠ a → (H.setIfInBounds a (vp_cell c1 (n1, .inl (va_cpy f g j0 j1 k))))[q]? = H[q]? := fun q hq => by simp [Array.getElem?_setIfInBounds, Ne.symm hq]
  obtain ⟨t, a1, b1⟩ := kk l D B p e s m args below meth c _ _ ls C L (aR_set z hK hP hD hV he1 (e' := .inl (c1, n1, .inl (va_cpy f g j0 j1 k))) (show (H.setIfInBounds a _)[a]? = some _ by simp [Array.getElem?_setIfInBounds, hl]) (by simp) oq (fun ws' q => ⟨q1, t1, c1, q, ht1⟩)) ⟨by simp; exact S.1, fun q g1 g2 => by
      rw [oq q (fun e => g2 (by rw [e]; exact hD.2 q1 _ he1))]
      exact S.2.1 q g1 g2, fun q hq => by
      rcases List.mem_append.mp hq with h | h
      · exact S.2.2 q h
      · obtain ⟨z, -, hz⟩ := List.mem_map.mp h
        rw [← hz]
        exact hD.2 q1 _ he1⟩ _ hheap X'
  exact ⟨t, step t a1, b1⟩
theorem aw_mabs_long {M : MI} {G : AG} {pc kc ks n : Nat} {lv : List (Option Value)} {h : Hp} {rest : List Value} {idx : Nat} {x : Int64} (f1 : Cond.methodLink M.1.cls idx Lib.MathLoose.abs_long.x ∈ lw_good) (f2 : Cond.static Lib.MathLoose.abs_long.x ∈ lw_good) (f3 : Cond.initialized "java/lang/Math" ∈ lw_good) (f4 : Cond.code Lib.MathLoose.abs_long.x Lib.MathLoose.abs_long.code 2 (some .long) ∈ lw_good) (hdg : decode M.2.1 pc = .ok (.invokestatic idx, 3)) (hfr : 1 ≤ M.2.2.2.2.1) (hlo : (rest.map fun v => v.category).sum + 13 ≤ M.2.2.2.2.2) (hc : kc ≤ G.1.1) (hs : ks ≤ G.1.2) (kk : AW M G (pc + 3) lv (.long (if 0 < x then x else -x) :: rest) kc ks n h) : AW M G pc lv (.long x :: rest) kc ks n h :=
  fun l D B p e s m args below meth c H locs ls C L R S => va_mabs_long C.1 C.2.1 (C.2.2.2.1.trans L.1.symm) C.2.2.2.2.1 (C.2.2.2.2.2.1 _ f1) (C.2.2.2.2.2.1 _ f2) (C.2.2.2.2.2.1 _ f3) (C.2.2.2.2.2.1 _ f4) hfr hlo hc hs hdg (kk l D B p e s m args below meth c H locs ls C L R S)
