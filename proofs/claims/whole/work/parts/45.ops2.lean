theorem two_B : ∀ cn, cn < 6 → two2 (nI cn) = inB (nI cn) (nI 2) (nI 4) := by decide +kernel
theorem add10 : ∀ cn, cn < 6 → nI 10 + nI cn = nI (10 + cn) := by decide +kernel
theorem c05 {c0 : Int32} (h : ¬ (c0 < 0 ∨ ¬ c0 ≤ nI 5)) : ∃ cn, cn < 6 ∧ c0 = nI cn := by
  simp only [not_or, Classical.not_not] at h
  obtain ⟨j, hj, e⟩ := nI_of2 (M := nI 5) (n := 5) (by decide) h.1 h.2
  exact ⟨j, by omega, e⟩
theorem cod_cnd {S : RS} {M : MS} {R : Nat} {c0 x y : Int32} (hR : R ≤ 12) (h1 : S.1 0 = nI R) (h2 : M.1 1 = nI R) : cod (condW S c0 x y) (cC M c0 x y R) iaeS iseS := by
  unfold condW cC cndOk xFull
  rw [inB_d, h1, h2]
  by_cases c1 : c0 < 0 ∨ ¬ c0 ≤ nI 5
  · have : (decide (¬ c0 < 0) && decide (c0 ≤ nI 5)) = false := by rcases c1 with c | c <;> simp [c]
    rw [if_pos c1, this, if_pos (by simp)]
    exact Or.inr (Or.inl ⟨rfl, rfl⟩)
  · have : (decide (¬ c0 < 0) && decide (c0 ≤ nI 5)) = true := by
      simp only [not_or, Classical.not_not] at c1
      simp only [c1.1, c1.2]
      decide
    obtain ⟨cn, hcn, rfl⟩ := c05 c1
    rw [if_neg c1, this, ← two_B cn hcn]
    by_cases c2 : inI x (nI R) = false
    · rw [if_pos c2, c2, if_pos (by simp)]
      exact Or.inr (Or.inl ⟨rfl, rfl⟩)
    · rw [if_neg c2]
      have c2' : inI x (nI R) = true := by simpa using c2
      rw [c2']
      have last : cod (if decide (¬ nI R < nI 12) = true then some iseS else none) (if nI R = nI 12 then nI 2 else nI 0) iaeS iseS := by
        by_cases c5 : nI R = nI 12
        · rw [if_pos (decide_eq_true ((full_eq hR).mpr c5)), if_pos c5]
          exact Or.inr (Or.inr ⟨rfl, rfl⟩)
        · rw [if_neg (fun e => c5 ((full_eq hR).mp (of_decide_eq_true e))), if_neg c5]
          exact Or.inl ⟨rfl, rfl⟩
      cases tw : two2 (nI cn) with
      | true =>
        rw [if_pos (show true = true from rfl)]
        by_cases c3 : inI y (nI R) = false
        · rw [if_pos ⟨rfl, c3⟩, c3, if_pos (by simp)]
          exact Or.inr (Or.inl ⟨rfl, rfl⟩)
        · have c3' : inI y (nI R) = true := by simpa using c3
          rw [if_neg (fun e => c3 e.2), if_neg (fun e => absurd e.1 (by decide)), c3', if_neg (show ¬ (true && (true && true)) = false by decide)]
          exact last
      | false =>
        rw [if_neg (show ¬ (false = true ∧ inI y (nI R) = false) from fun e => absurd e.1 (by decide)), if_neg (show ¬ false = true by decide)]
        by_cases c3 : y = -1
        · rw [if_neg (show ¬ (false = false ∧ ¬ y = -1) from fun e => e.2 c3), decide_eq_true c3, if_neg (show ¬ (true && (true && true)) = false by decide)]
          exact last
        · rw [if_pos (show false = false ∧ ¬ y = -1 from ⟨rfl, c3⟩), decide_eq_false c3, if_pos (by simp)]
          exact Or.inr (Or.inl ⟨rfl, rfl⟩)
theorem op_condition {n : Nat} {S : RS} {M M' : MS} {o : Int64} {R : Nat} {c0 x y kq v : Int32} {u : RS × Int64} (hn : n ≤ 40) (h : Sim n S M) (hR : S.1 0 = nI R) (hR12 : R ≤ 12)
    (hH : (kq = nI 0 ∧ ∃ v, u.2 = v.toInt64 ∧ u.1 = addRel S R (nI 10 + c0) x y ∧ condW S c0 x y = none ∧ v = nI R) ∨ (kq = nI 1 ∧ u.2 = o ∧ (u.1 = S ∧ condW S c0 x y = some iaeS)) ∨ (kq = nI 2 ∧ u.2 = o ∧ (u.1 = S ∧ condW S c0 x y = some iseS)))
    (hM : M' = (if cC M c0 x y R = 0 then makeM (sI M 0 (cC M c0 x y R)) n R (nI 10 + c0) x y else sI M 0 (cC M c0 x y R)) ∧ v = (if cC M c0 x y R = 0 then nI R else nI 0)) : M'.1 0 = kq ∧ (kq = nI 0 → u.2 = v.toInt64) ∧ Sim n u.1 M' := by
  obtain ⟨R', t, q, hs⟩ := h
  obtain ⟨⟨a1, a2, a3, a4, a5, a6, a7, a8⟩, hB, hC⟩ := id hs
  have eR : R' = R := (nI_eq (by omega) (by omega)).mp (a4.symm.trans hR)
  subst eR
  obtain ⟨rfl, rfl⟩ := hM
  rcases fin3 iai (cod_cnd (c0 := c0) (x := x) (y := y) a1 a4 a5) (fun ⟨v, _, _, e, _⟩ => e) hH with ⟨rfl, hc, v, e1, e2, e3, e4⟩ | ⟨hc, rfl, e⟩
  · have hc0 : cC M c0 x y R' = 0 := hc.trans nI_0
    rw [if_pos hc0, if_pos hc0]
    have hlt : R' < 12 := by
      unfold cC at hc0
      by_cases c : cndOk c0 x y R' = false
      · rw [if_pos c] at hc0; exact absurd hc0 n1
      · rw [if_neg c] at hc0
        by_cases c2 : M.1 1 = nI 12
        · rw [if_pos c2] at hc0; exact absurd hc0 n2
        · rw [a5] at c2
          have : ¬ R' = 12 := fun e => c2 (by rw [e])
          omega
    refine ⟨?_, fun _ => by rw [e1, e4], ?_⟩
    · have := (makeM_0 (sI M 0 (cC M c0 x y R')) n R' (nI 10 + c0) x y).trans (sI_at (S := M))
      rw [this, hc]
    · rw [e2]
      unfold condW at e3
      rw [a4] at e3
      by_cases c1 : c0 < 0 ∨ ¬ c0 ≤ nI 5
      · rw [if_pos c1] at e3; cases e3
      · rw [if_neg c1] at e3
        obtain ⟨cn, hcn, rfl⟩ := c05 c1
        by_cases c2 : inI x (nI R') = false
        · rw [if_pos c2] at e3; cases e3
        · rw [if_neg c2] at e3
          obtain ⟨j, hj, rfl⟩ := inI_t (by omega) (show inI x (nI R') = true by simpa using c2)
          by_cases c3 : two2 (nI cn) = true ∧ inI y (nI R') = false
          · rw [if_pos c3] at e3; cases e3
          · rw [if_neg c3] at e3
            by_cases c4 : two2 (nI cn) = false ∧ ¬ y = -1
            · rw [if_pos c4] at e3; cases e3
            · have twc : ∀ cn, cn < 6 → (two2 (nI cn) = true ↔ (2 ≤ cn ∧ cn ≤ 4)) := by decide +kernel
              rw [add10 cn hcn]
              cases tw : two2 (nI cn) with
              | true =>
                have hy : inI y (nI R') = true := by
                  cases q : inI y (nI R') with
                  | true => rfl
                  | false => exact absurd ⟨tw, q⟩ c3
                obtain ⟨k, hk, rfl⟩ := inI_t (by omega) hy
                exact ⟨_, _, _, SmR_cnd hn (SmR_code _ hs) hlt hcn hj (by rw [ixN_nI (by omega)]; exact hk) (fun _ _ => ⟨k, hk, rfl⟩)⟩
              | false =>
                have hy : y = -1 := Classical.byContradiction fun e => c4 ⟨tw, e⟩
                subst hy
                exact ⟨_, _, _, SmR_cnd hn (SmR_code _ hs) hlt hcn hj (by
                  have : ixN (-1) = 0 := by decide
                  omega) (fun h1 h2 => by
                  have := (twc cn hcn).mpr ⟨h1, h2⟩
                  rw [tw] at this
                  cases this)⟩
  · rw [if_neg hc, if_neg hc, e]
    exact ⟨sI_at, fun q => absurd (q.trans nI_0) hc, R', t, q, SmR_code _ hs⟩
/-! set, drop, empty, pushed -/
theorem cod_set {n : Nat} {S : RS} {M : MS} {R t q : Nat} {x a b : Int32} (hn : n ≤ 40) (hs : SmR n S M R t q) : cod (settW S n x a b) (wC M n R x a b) iaeS iseS := by
  obtain ⟨⟨a1, a2, a3, a4, a5, a6, a7, a8⟩, hB, hC⟩ := id hs
  unfold settW wC
  rw [a4]
  by_cases c1 : inI x (nI R) = false
  · rw [if_pos c1, if_pos (Or.inl c1)]; exact Or.inr (Or.inl ⟨rfl, rfl⟩)
  · rw [if_neg c1]
    by_cases c2 : inI a (nI n) = false
    · rw [if_pos c2, if_pos (Or.inr (Or.inl c2))]; exact Or.inr (Or.inl ⟨rfl, rfl⟩)
    · rw [if_neg c2]
      by_cases c3 : inI b (nI n) = false
      · rw [if_pos c3, if_pos (Or.inr (Or.inr c3))]; exact Or.inr (Or.inl ⟨rfl, rfl⟩)
      · rw [if_neg c3, if_neg (show ¬ (inI x (nI R) = false ∨ inI a (nI n) = false ∨ inI b (nI n) = false) from fun e => e.elim c1 (fun e => e.elim c2 c3))]
        obtain ⟨r, hr, rfl⟩ := inI_t (by omega) (show inI x (nI R) = true by simpa using c1)
        obtain ⟨a', ha, rfl⟩ := inI_t (by omega) (show inI a (nI n) = true by simpa using c2)
        obtain ⟨b', hb, rfl⟩ := inI_t (by omega) (show inI b (nI n) = true by simpa using c3)
        rw [ixN_nI (by omega), ixN_nI (by omega), ixN_nI (by omega)]
        obtain ⟨f1, f2, f3⟩ := hC.1 r hr
        have hby : (byC S r = true) ↔ ¬ M.2.1 1 r < nI 10 := by
          unfold byC
          rw [f1]; simp
        by_cases c4 : M.2.1 1 r < nI 10
        · have g1 : ofK S a' (S.2.1 3 r) = ofM (M.2.1 0 a') (M.2.1 2 r) := by unfold ofK ofM; rw [hB.1 a' ha, f2]
          have g2 : ofK S b' (S.2.1 4 r) = ofM (M.2.1 0 b') (M.2.1 3 r) := by unfold ofK ofM; rw [hB.1 b' hb, f3]
          rw [if_neg (show ¬ byC S r = true from fun e => hby.mp e c4), if_neg (show ¬ ¬ M.2.1 1 r < nI 10 from fun e => e c4), g1, g2, f1]
          unfold okM
          cases hA : ofM (M.2.1 0 a') (M.2.1 2 r) with
          | false => rw [if_pos rfl, if_neg (by simp)]; exact Or.inr (Or.inl ⟨rfl, rfl⟩)
          | true =>
            rw [if_neg (show ¬ true = false by decide)]
            cases hB' : ofM (M.2.1 0 b') (M.2.1 3 r) with
            | false => rw [if_pos rfl, if_neg (by simp)]; exact Or.inr (Or.inl ⟨rfl, rfl⟩)
            | true =>
              rw [if_neg (show ¬ true = false by decide)]
              by_cases d : M.2.1 1 r = nI 4 ∧ nI a' = nI b'
              · have d' : a' = b' := (nI_eq (by omega) (by omega)).mp d.2
                rw [if_pos d, if_neg (by simp [d.1, d'])]; exact Or.inr (Or.inl ⟨rfl, rfl⟩)
              · rw [if_neg d, if_pos]
                · exact Or.inl ⟨rfl, rfl⟩
                · by_cases d1 : M.2.1 1 r = nI 4
                  · have : ¬ a' = b' := fun e => d ⟨d1, by rw [e]⟩
                    simp [this]
                  · simp [d1]
        · rw [if_pos (hby.mpr c4), if_pos c4]; exact Or.inr (Or.inr ⟨rfl, rfl⟩)
theorem settW_in {n : Nat} {S : RS} {M : MS} {R t q : Nat} {x a b : Int32} (hn : n ≤ 40) (hs : SmR n S M R t q) (h : settW S n x a b = none) : ∃ r a' b', r < R ∧ a' < n ∧ b' < n ∧ x = nI r ∧ a = nI a' ∧ b = nI b' ∧ M.2.1 1 r < nI 10 := by
  obtain ⟨r, a', b', hr, ha, hb, rfl, rfl, rfl⟩ := settW_none hn hs.1.1 hs.1.2.2.2.1 h
  refine ⟨r, a', b', hr, ha, hb, rfl, rfl, rfl, Classical.byContradiction fun hf => ?_⟩
  have hby : byC S r = true := by
    unfold byC
    rw [(hs.2.2.1 r hr).1]; simpa using hf
  have hR12 := hs.1.1
  unfold settW at h
  rw [hs.1.2.2.2.1, if_neg (by rw [inI_nI hr (by omega)]; decide), if_neg (by rw [inI_nI ha (by omega)]; decide), if_neg (by rw [inI_nI hb (by omega)]; decide), ixN_nI (by omega), if_pos hby] at h
  cases h
theorem op_set {n : Nat} {S : RS} {M M' : MS} {o : Int64} {R t : Nat} {x a b kq v : Int32} {u : RS × Int64} (hn : n ≤ 40) {q : Nat} (hs : SmR n S M R t q)
    (hH : (kq = nI 0 ∧ ∃ v, u.2 = v.toInt64 ∧ u.1 = setC S n t (ixN x) (ixN a) (ixN b) ∧ settW S n x a b = none ∧ v = u.1.1 2) ∨ (kq = nI 1 ∧ u.2 = o ∧ (u.1 = S ∧ settW S n x a b = some iaeS)) ∨ (kq = nI 2 ∧ u.2 = o ∧ (u.1 = S ∧ settW S n x a b = some iseS)))
    (hM : M' = (if wC M n R x a b = 0 then setM (sI M 0 (wC M n R x a b)) n (ixN x) (ixN a) (ixN b) else (sI M 0 (wC M n R x a b))) ∧ v = (if wC M n R x a b = 0 then (if pM (sT (sI M 0 (wC M n R x a b)) (ixN a) (ixN b)) (ixN x) (ixN a) (ixN b) then nI 0 else M'.1 2) else nI 0)) (hcode : ∀ c r a b, a < n → b < n → r < R → (setM (sI M 0 c) n r a b).1 0 = c) : M'.1 0 = kq ∧ (kq = nI 0 → u.2 = v.toInt64) ∧ Sim n u.1 M' := by
  obtain ⟨⟨a1, a2, a3, a4, a5, a6, a7, a8⟩, hB, hC⟩ := id hs
  obtain ⟨hM1, rfl⟩ := hM
  rcases fin3 iai (cod_set hn hs) (fun ⟨v, _, _, e, _⟩ => e) hH with ⟨rfl, hc, v, e1, e2, e3, e4⟩ | ⟨hc, rfl, e⟩
  · have hc0 : wC M n R x a b = 0 := hc.trans nI_0
    rw [if_pos hc0] at hM1 ⊢
    obtain ⟨r, a', b', hr, ha, hb, rfl, rfl, rfl, hf⟩ := settW_in hn hs e3
    rw [ixN_nI (by omega), ixN_nI (by omega), ixN_nI (by omega)] at *
    obtain ⟨-, g2, t', q', g3⟩ := SmR_set hn (SmR_code (wC M n R (nI r) (nI a') (nI b')) hs) hr ha hb hf
    subst hM1
    refine ⟨by rw [hcode _ r a' b' ha hb hr]; exact hc, fun _ => ?_, by rw [e2]; exact ⟨R, t', q', g3⟩⟩
    rw [e1, e4, e2]
    have s2 : (setC S n t r a' b').1 2 = nI q' := g3.1.2.2.2.2.2.2.1
    have m2 : (setM (sI M 0 (wC M n R (nI r) (nI a') (nI b'))) n r a' b').1 2 = nI q' := g3.1.2.2.2.2.2.2.2
    cases e : pM (sT (sI M 0 (wC M n R (nI r) (nI a') (nI b'))) a' b') r a' b' with
    | true =>
      rw [if_pos rfl]
      unfold setC
      rw [g2, e, if_pos rfl]
      rfl
    | false => rw [if_neg (by decide), s2, m2]
  · rw [if_neg hc] at hM1 ⊢
    rw [hM1, e]
    exact ⟨sI_at, fun q => absurd (q.trans nI_0) hc, R, t, q, SmR_code _ hs⟩
theorem op_drop {n : Nat} {S : RS} {M M' : MS} {o : Int64} {R t : Nat} {x a b kq v : Int32} {u : RS × Int64} (hn : n ≤ 40) {q : Nat} (hs : SmR n S M R t q)
    (hH : (kq = nI 0 ∧ ∃ v, u.2 = (if v = 0 then (0 : Int64) else 1) ∧ u.1 = dropC S n t (ixN x) (ixN a) (ixN b) ∧ settW S n x a b = none ∧ v = bI (dropB S (ixN x) (ixN a) (ixN b))) ∨ (kq = nI 1 ∧ u.2 = o ∧ (u.1 = S ∧ settW S n x a b = some iaeS)) ∨ (kq = nI 2 ∧ u.2 = o ∧ (u.1 = S ∧ settW S n x a b = some iseS)))
    (hM : M' = (if wC M n R x a b = 0 then dropM (sI M 0 (wC M n R x a b)) n (ixN x) (ixN a) (ixN b) else (sI M 0 (wC M n R x a b))) ∧ v = (if wC M n R x a b = 0 then bI (drB (sI M 0 (wC M n R x a b)) (ixN x) (ixN a) (ixN b)) else nI 0)) (hcode : ∀ c r a b, a < n → b < n → r < R → (dropM (sI M 0 c) n r a b).1 0 = c) : M'.1 0 = kq ∧ (kq = nI 0 → u.2 = (if v = 0 then (0 : Int64) else 1)) ∧ Sim n u.1 M' := by
  obtain ⟨⟨a1, a2, a3, a4, a5, a6, a7, a8⟩, hB, hC⟩ := id hs
  obtain ⟨rfl, rfl⟩ := hM
  rcases fin3 iai (cod_set hn hs) (fun ⟨v, _, _, e, _⟩ => e) hH with ⟨rfl, hc, v, e1, e2, e3, e4⟩ | ⟨hc, rfl, e⟩
  · have hc0 : wC M n R x a b = 0 := hc.trans nI_0
    rw [if_pos hc0, if_pos hc0]
    obtain ⟨r, a', b', hr, ha, hb, rfl, rfl, rfl, hf⟩ := settW_in hn hs e3
    rw [ixN_nI (by omega), ixN_nI (by omega), ixN_nI (by omega)] at *
    obtain ⟨g2, t', q', g3⟩ := SmR_drop hn (SmR_code (wC M n R (nI r) (nI a') (nI b')) hs) hr ha hb hf
    refine ⟨by rw [hcode _ r a' b' ha hb hr]; exact hc, fun _ => ?_, by rw [e2]; exact ⟨R, t', q', g3⟩⟩
    rw [e1, e4, g2]
  · rw [if_neg hc, if_neg hc, e]
    exact ⟨sI_at, fun q => absurd (q.trans nI_0) hc, R, t, q, SmR_code _ hs⟩
