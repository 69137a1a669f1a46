/-! a new relation -/
theorem mk1_p {S : MS} {r : Nat} : ∀ (k : Nat), (mk1 S r k).1 = S.1 ∧ (mk1 S r k).2.1 = S.2.1 ∧ (∀ j, (mk1 S r k).2.2 1 j = S.2.2 1 j) ∧ ∀ i, (mk1 S r k).2.2 0 i = if 1600 * r ≤ i ∧ i < 1600 * r + k then false else S.2.2 0 i
  | 0 => ⟨rfl, rfl, fun _ => rfl, fun i => by rw [if_neg (by omega)]; rfl⟩
  | k + 1 => by
    obtain ⟨i1, i2, i3, i4⟩ := mk1_p (S := S) (r := r) k
    have e : mk1 S r (k + 1) = sW (mk1 S r k) 0 (1600 * r + k) false := rfl
    rw [e]
    refine ⟨i1, i2, fun j => by rw [sW0_1, i3], fun i => ?_⟩
    rw [sW_i, i4]
    by_cases c : i = 1600 * r + k
    · rw [if_pos c, if_pos (by omega)]
    · rw [if_neg c]
      by_cases c2 : 1600 * r ≤ i ∧ i < 1600 * r + k
      · rw [if_pos c2, if_pos (by omega)]
      · rw [if_neg c2, if_neg (by omega)]
theorem mk2_p {S : MS} {r : Nat} {f x : Int32} : ∀ (k : Nat), k ≤ 40 → (mk2 S r f x k).1 = S.1 ∧ (mk2 S r f x k).2.1 = S.2.1 ∧ (∀ j, (mk2 S r f x k).2.2 1 j = S.2.2 1 j) ∧ ∀ r' a b, a < 40 → b < 40 → pM (mk2 S r f x k) r' a b = if r' = r ∧ a = b ∧ a < k then (decide (f = nI 6) && ofM (S.2.1 0 a) x) else pM S r' a b
  | 0, _ => ⟨rfl, rfl, fun _ => rfl, fun r' a b _ _ => by rw [if_neg (by omega)]; rfl⟩
  | k + 1, hk => by
    obtain ⟨i1, i2, i3, i4⟩ := mk2_p (S := S) (r := r) (f := f) (x := x) k (by omega)
    have e : mk2 S r f x (k + 1) = sW (mk2 S r f x k) 0 (ixP r k k) (decide (f = nI 6) && (decide (x = -1) || decide ((mk2 S r f x k).2.1 0 k = x))) := rfl
    rw [e, i2]
    refine ⟨i1, i2, fun j => by rw [sW0_1, i3], fun r' a b ha hb => ?_⟩
    rw [pM_sW (by omega) (by omega) ha hb, i4 r' a b ha hb]
    by_cases c : r' = r ∧ a = k ∧ b = k
    · rw [if_pos c, if_pos (by omega), c.2.1]
      rfl
    · rw [if_neg c]
      by_cases c2 : r' = r ∧ a = b ∧ a < k
      · rw [if_pos c2, if_pos (by omega)]
      · rw [if_neg c2, if_neg (by omega)]
theorem makeM_p {M : MS} {n r : Nat} {f x y : Int32} (hn : n ≤ 40) : (makeM M n r f x y).1 1 = nI (r + 1) ∧ (makeM M n r f x y).1 2 = M.1 2 ∧ (∀ q j, ¬ (j = r ∧ (q = 1 ∨ q = 2 ∨ q = 3)) → (makeM M n r f x y).2.1 q j = M.2.1 q j) ∧ ((makeM M n r f x y).2.1 1 r = f ∧ (makeM M n r f x y).2.1 2 r = x ∧ (makeM M n r f x y).2.1 3 r = y) ∧ (∀ j, (makeM M n r f x y).2.2 1 j = M.2.2 1 j) ∧ (∀ r' a b, ¬ r' = r → a < 40 → b < 40 → pM (makeM M n r f x y) r' a b = pM M r' a b) ∧ ∀ a b, a < 40 → b < 40 → pM (makeM M n r f x y) r a b = diX f (fun a => ofM (M.2.1 0 a) x) n a b := by
  obtain ⟨P, hP⟩ : ∃ P, P = sA (sA (sA (sI M 1 (nI (r + 1))) 1 r f) 2 r x) 3 r y := ⟨_, rfl⟩
  obtain ⟨i1, i2, i3, i4⟩ := mk1_p (S := P) (r := r) 1600
  have eM : makeM M n r f x y = mk2 (mk1 P r 1600) r f x n := by rw [hP]; rfl
  generalize mk1 P r 1600 = Q at i1 i2 i3 i4 eM
  obtain ⟨j1, j2, j3, j4⟩ := mk2_p (S := Q) (r := r) (f := f) (x := x) n hn
  rw [eM]
  have p1 : ∀ q j, P.2.1 q j = if q = 3 ∧ j = r then y else if q = 2 ∧ j = r then x else if q = 1 ∧ j = r then f else M.2.1 q j := fun q j => by rw [hP]; rfl
  have hp0 : ∀ i, P.2.2 0 i = M.2.2 0 i := fun i => by rw [hP]; rfl
  refine ⟨?_, ?_, fun q j hq => ?_, ⟨?_, ?_, ?_⟩, fun j => ?_, fun r' a b hr ha hb => ?_, fun a b ha hb => ?_⟩
  · rw [j1, i1, hP]; exact sI_at (S := M) (k := 1) (v := nI (r + 1))
  · rw [j1, i1, hP]; exact sI_ne (S := M) (k := 1) (j := 2) (v := nI (r + 1)) (by decide)
  · rw [j2, i2, p1, if_neg (by omega), if_neg (by omega), if_neg (by omega)]
  · rw [j2, i2, p1, if_neg (by omega), if_neg (by omega), if_pos ⟨rfl, rfl⟩]
  · rw [j2, i2, p1, if_neg (by omega), if_pos ⟨rfl, rfl⟩]
  · rw [j2, i2, p1, if_pos ⟨rfl, rfl⟩]
  · rw [j3, i3, hP]; rfl
  · rw [j4 r' a b ha hb, if_neg (fun q => hr q.1)]
    show Q.2.2 0 (ixP r' a b) = _
    rw [i4, if_neg (by unfold ixP; omega), hp0]
    rfl
  · rw [j4 r a b ha hb]
    have z : pM Q r a b = false := by
      show Q.2.2 0 (ixP r a b) = _
      rw [i4, if_pos (by unfold ixP; omega)]
    rw [z]
    have k0 : Q.2.1 0 a = M.2.1 0 a := by rw [i2, p1, if_neg (by omega), if_neg (by omega), if_neg (by omega)]
    rw [k0]
    unfold diX
    by_cases e1 : a = b
    · by_cases e2 : a < n
      · rw [if_pos ⟨rfl, e1, e2⟩]; simp [e1, show b < n by omega]
      · rw [if_neg (fun q => e2 q.2.2)]; simp [e2]
    · rw [if_neg (fun q => e1 q.2.1)]; simp [e1]
theorem SmR_add {n : Nat} {S S' : RS} {M : MS} {R t q : Nat} {f x y : Int32} (hn : n ≤ 40) (h : SmR n S M R t q) (hR : R < 12) (s0 : S'.1 0 = nI (R + 1)) (s1 : ∀ k, ¬ k = 0 → S'.1 k = S.1 k) (s2 : ∀ q j, ¬ (j = R ∧ (q = 2 ∨ q = 3 ∨ q = 4)) → S'.2.1 q j = S.2.1 q j) (s3 : S'.2.1 2 R = f ∧ S'.2.1 3 R = x ∧ S'.2.1 4 R = y) (s4 : ∀ r a, ¬ r = R → S'.2.2 r a = S.2.2 r a) (s5 : f < nI 10 → rIs S' n R (diX f (fun a => ofM (M.2.1 0 a) x) n)) (hw : (∃ g, g ≤ 6 ∧ f = nI g) ∨ (∃ cn j, cn < 6 ∧ f = nI (10 + cn) ∧ j < R ∧ x = nI j ∧ ixN y < R ∧ (2 ≤ cn → cn ≤ 4 → ∃ t, t < R ∧ y = nI t))) : SmR n S' (makeM M n R f x y) (R + 1) t q := by
  obtain ⟨⟨a1, a2, a3, a4, a5, a6, a7, a8⟩, ⟨b1, b2, b3⟩, c1, c2, c3, c4, c5, c6⟩ := h
  obtain ⟨m1, m2, m3, m4, m5, m6, m7⟩ := makeM_p (M := M) (r := R) (f := f) (x := x) (y := y) hn
  generalize makeM M n R f x y = M' at m1 m2 m3 m4 m5 m6 m7 ⊢
  have mf : ∀ q j, ¬ j = R → M'.2.1 q j = M.2.1 q j := fun q j hj => m3 q j (fun e => hj e.1)
  have hdn : ∀ r, r < R → ∀ a b, dn M n r a b = dn M' n r a b := fun r hr a b => dn_congr a1 c2 (fun r hr => ⟨(mf 1 r (by omega)).symm, (mf 2 r (by omega)).symm, (mf 3 r (by omega)).symm⟩) (fun r hr _ a b ha hb => (m6 r a b (by omega) (by omega) (by omega)).symm) hr a b
  refine ⟨⟨by omega, by omega, a3, s0, m1, by rw [s1 1 (by decide)]; exact a6, by rw [s1 2 (by decide)]; exact a7, by rw [m2]; exact a8⟩, ⟨fun a ha => ?_, fun a b ha hb => ?_, fun i hi => ?_⟩, fun r hr => ?_, fun r hr => ?_, fun r hr hq => ?_, fun r a b hr ha hb hc => ?_, fun j => by rw [m5]; exact c5 j, fun r hr hf => ?_⟩
  · rw [s2 0 a (by omega), m3 0 a (by omega)]; exact b1 a ha
  · rw [s2 1 _ (by omega), m3 6 _ (by omega)]; exact b2 a b ha hb
  · rw [s2 5 i (by omega), s2 6 i (by omega), m3 4 i (by omega), m3 5 i (by omega)]; exact b3 i hi
  · by_cases e : r = R
    · subst e
      exact ⟨s3.1.trans m4.1.symm, s3.2.1.trans m4.2.1.symm, s3.2.2.trans m4.2.2.symm⟩
    · rw [s2 2 r (by omega), s2 3 r (by omega), s2 4 r (by omega), mf 1 r e, mf 2 r e, mf 3 r e]; exact c1 r (by omega)
  · by_cases e : r = R
    · subst e
      show (∃ g, g ≤ 6 ∧ M'.2.1 1 r = nI g) ∨ _
      rw [m4.1, m4.2.1, m4.2.2]; exact hw
    · show (∃ g, g ≤ 6 ∧ M'.2.1 1 r = nI g) ∨ _
      rw [mf 1 r e, mf 2 r e, mf 3 r e]; exact c2 r (by omega)
  · by_cases e : r = R
    · subst e
      have hf : M'.2.1 1 r < nI 10 := by
        rcases hq with q | q
        · exact q
        · omega
      intro a b ha
      rw [dn_form hf, s5 (by rw [← m4.1]; exact hf) a b ha]
      unfold qP
      by_cases hb : b < n
      · rw [m7 a b (by omega) (by omega)]; simp [ha, hb]
      · simp only [hb, decide_false, Bool.false_and, Bool.and_false]
        cases e : diX f (fun a => ofM (M.2.1 0 a) x) n a b with
        | false => rfl
        | true => exact absurd (diX_mk a b e).2 hb
    · rw [mf 1 r e] at hq
      intro a b ha
      rw [s4 r a e, c3 r (by omega) hq a b ha, hdn r (by omega) a b]
  · by_cases e : r = R
    · subst e
      rw [m7 a b ha hb]
      cases e : diX f (fun a => ofM (M.2.1 0 a) x) n a b with
      | false => rfl
      | true => exact absurd (diX_mk a b e) hc
    · rw [m6 r a b e ha hb]; exact c4 r a b (by omega) ha hb hc
  · have hk : ∀ a, M'.2.1 0 a = M.2.1 0 a := fun a => m3 0 a (by omega)
    by_cases e : r = R
    · subst e
      rw [m4.1]
      refine fOk_congr (X := diX f (fun a => ofM (M.2.1 0 a) x) n) (d := fun a => ofM (M.2.1 0 a) x) (fun a b ha hb => (m7 a b (by omega) (by omega)).symm) (fun a _ => ?_) diX_ok
      unfold dM
      rw [hk, m4.2.1]
    · rw [mf 1 r e] at hf ⊢
      refine fOk_congr (fun a b ha hb => (m6 r a b e (by omega) (by omega)).symm) (fun a _ => ?_) (c6 r (by omega) hf)
      unfold dM
      rw [hk, mf 2 r e]
theorem addRel_p (S : RS) (R : Nat) (f x y : Int32) : (addRel S R f x y).1 0 = nI (R + 1) ∧ (∀ k, ¬ k = 0 → (addRel S R f x y).1 k = S.1 k) ∧ (∀ q j, ¬ (j = R ∧ (q = 2 ∨ q = 3 ∨ q = 4)) → (addRel S R f x y).2.1 q j = S.2.1 q j) ∧ ((addRel S R f x y).2.1 2 R = f ∧ (addRel S R f x y).2.1 3 R = x ∧ (addRel S R f x y).2.1 4 R = y) ∧ (addRel S R f x y).2.2 = S.2.2 := by
  have p1 : ∀ q j, (addRel S R f x y).2.1 q j = if q = 4 ∧ j = R then y else if q = 3 ∧ j = R then x else if q = 2 ∧ j = R then f else S.2.1 q j := fun q j => rfl
  refine ⟨sI_at, fun k hk => sI_ne hk, fun q j hq => ?_, ⟨?_, ?_, ?_⟩, rfl⟩
  · rw [p1, if_neg (by omega), if_neg (by omega), if_neg (by omega)]
  · rw [p1, if_neg (by omega), if_neg (by omega), if_pos ⟨rfl, rfl⟩]
  · rw [p1, if_neg (by omega), if_pos ⟨rfl, rfl⟩]
  · rw [p1, if_pos ⟨rfl, rfl⟩]
theorem SmR_rel {n : Nat} {S : RS} {M : MS} {R t q g : Nat} {x y : Int32} (hn : n ≤ 40) (h : SmR n S M R t q) (hR : R < 12) (hg : g ≤ 6) : SmR n (startF (addRel S R (nI g) x y) R n) (makeM M n R (nI g) x y) (R + 1) t q := by
  obtain ⟨p0, p1, p2, p3, p4⟩ := addRel_p S R (nI g) x y
  have st := startF_1 (addRel S R (nI g) x y) R n
  have sr := fun q x' => startF_r (addRel S R (nI g) x y) R n q x' (by omega)
  refine SmR_add hn h hR (by rw [st.1]; exact p0) (fun k hk => by rw [st.1]; exact p1 k hk) (fun q j hq => by rw [st.2]; exact p2 q j hq) (by rw [st.2]; exact p3) (fun r a hr => by rw [sr, if_neg (fun e => hr e.1), p4]) (fun _ a b ha => ?_) (Or.inl ⟨g, hg, rfl⟩)
  rw [startF_is hn a b ha, p3.1]
  simp only [diX]
  have : ofK (addRel S R (nI g) x y) a ((addRel S R (nI g) x y).2.1 3 R) = ofM (M.2.1 0 a) x := by
    rw [p3.2.1]
    unfold ofK ofM
    rw [p2 0 a (by omega), h.2.1.1 a ha]
  rw [this]
theorem SmR_cnd {n : Nat} {S : RS} {M : MS} {R t q cn j : Nat} {y : Int32} (hn : n ≤ 40) (h : SmR n S M R t q) (hR : R < 12) (hc : cn < 6) (hj : j < R) (hy : ixN y < R) (hy2 : 2 ≤ cn → cn ≤ 4 → ∃ t, t < R ∧ y = nI t) : SmR n (addRel S R (nI (10 + cn)) (nI j) y) (makeM M n R (nI (10 + cn)) (nI j) y) (R + 1) t q := by
  obtain ⟨p0, p1, p2, p3, p4⟩ := addRel_p S R (nI (10 + cn)) (nI j) y
  refine SmR_add hn h hR p0 p1 p2 p3 (fun r a _ => by rw [p4]) (fun q => ?_) (Or.inr ⟨cn, j, hc, rfl, hj, rfl, hy, hy2⟩)
  exfalso
  have := (nI_ltI (by omega) (by decide)).mp q
  omega
/-! kinds, clear, the beginning -/
theorem SmR_kind {n : Nat} {S : RS} {M : MS} {t q a : Nat} {k : Int32} (h : SmR n S M 0 t q) : SmR n (sA S 0 a k) (sA M 0 a k) 0 t q := by
  obtain ⟨hA, ⟨b1, b2, b3⟩, c1, c2, c3, c4, c5, c6⟩ := h
  refine ⟨hA, ⟨fun x hx => ?_, fun x y hx hy => ?_, fun i hi => ?_⟩, fun r hr => by omega, fun r hr => by omega, fun r hr => by omega, fun r a b hr => by omega, c5, fun r hr => by omega⟩
  · by_cases e : x = a
    · subst e
      rw [sA_at, sA_at]
    · rw [sA_ne (fun q => e q.2), sA_ne (fun q => e q.2)]; exact b1 x hx
  · rw [sA_ne (by omega), sA_ne (by omega)]; exact b2 x y hx hy
  · rw [sA_ne (by omega), sA_ne (by omega), sA_ne (by omega), sA_ne (by omega)]; exact b3 i hi
theorem bgA_p (S : MS) (q : Nat) : ∀ (k : Nat), (bgA S q k).1 = S.1 ∧ (bgA S q k).2.2 = S.2.2 ∧ ∀ w j, (bgA S q k).2.1 w j = if w = q ∧ j < k then nI 0 else S.2.1 w j
  | 0 => ⟨rfl, rfl, fun w j => by rw [if_neg (by omega)]; rfl⟩
  | k + 1 => by
    obtain ⟨i1, i2, i3⟩ := bgA_p S q k
    refine ⟨i1, i2, fun w j => ?_⟩
    show (if w = q ∧ j = k then nI 0 else (bgA S q k).2.1 w j) = _
    rw [i3]
    by_cases c : w = q ∧ j = k
    · rw [if_pos c, if_pos (by omega)]
    · rw [if_neg c]
      by_cases c2 : w = q ∧ j < k
      · rw [if_pos c2, if_pos (by omega)]
      · rw [if_neg c2, if_neg (by omega)]
theorem begF_p (M : MS) : (begF M).1 1 = nI 0 ∧ (begF M).1 2 = nI 0 ∧ (begF M).2.2 = M.2.2 ∧ (∀ j, j < 40 → (begF M).2.1 0 j = nI 0) ∧ ∀ j, j < 1600 → (begF M).2.1 6 j = nI 0 := by
  obtain ⟨P, hP⟩ : ∃ P, P = bgA (sI (sI M 1 (nI 0)) 2 (nI 0)) 0 40 := ⟨_, rfl⟩
  obtain ⟨i1, i2, i3⟩ := bgA_p (sI (sI M 1 (nI 0)) 2 (nI 0)) 0 40
  rw [← hP] at i1 i2 i3
  obtain ⟨j1, j2, j3⟩ := bgA_p P 6 1600
  have e : begF M = bgA P 6 1600 := by rw [hP]; rfl
  rw [e]
  generalize bgA P 6 1600 = Q at j1 j2 j3
  refine ⟨?_, ?_, by rw [j2, i2]; rfl, fun j hj => ?_, fun j hj => ?_⟩
  · rw [j1, i1, sI_ne (by decide)]; exact sI_at
  · rw [j1, i1]; exact sI_at
  · rw [j3, if_neg (by omega), i3, if_pos ⟨rfl, hj⟩]
  · rw [j3, if_pos ⟨rfl, hj⟩]
theorem SmR_beg {n : Nat} {S : RS} {M : MS} (hn : n ≤ 40) (s0 : S.1 0 = nI 0) (s1 : S.1 1 = nI 0) (s2 : S.1 2 = nI 0) (s3 : ∀ a, a < n → S.2.1 0 a = nI 0) (s4 : ∀ a b, a < n → b < n → S.2.1 1 (a * n + b) = nI 0) (hj : ∀ j, M.2.2 1 j = false) : SmR n S (begF M) 0 0 0 := by
  obtain ⟨m1, m2, m3, m4, m5⟩ := begF_p M
  refine ⟨⟨by omega, by omega, by omega, s0, m1, s1, s2, m2⟩, ⟨fun a ha => ?_, fun a b ha hb => ?_, fun i hi => by omega⟩, fun r hr => by omega, fun r hr => by omega, fun r hr => by omega, fun r a b hr => by omega, fun j => by rw [m3]; exact hj j, fun r hr => by omega⟩
  · rw [s3 a ha, m4 a (by omega)]
  · rw [s4 a b ha hb, m5 (40 * a + b) (by omega)]
theorem Sim_ini {n : Nat} (hn : n ≤ 40) : Sim n iniX (begF iniM) := ⟨0, 0, 0, SmR_beg hn rfl rfl rfl (fun _ _ => rfl) (fun _ _ _ _ => rfl) (fun _ => rfl)⟩
theorem Sim_clear {n : Nat} {S : RS} {M : MS} (hn : n ≤ 40) (h : Sim n S M) (v : Int32) : Sim n (clrF S) (begF (sI M 0 v)) := by
  obtain ⟨R, t, q, h⟩ := h
  exact ⟨0, 0, 0, SmR_beg hn rfl rfl rfl (fun _ _ => rfl) (fun _ _ _ _ => rfl) h.2.2.2.2.2.2.1⟩
