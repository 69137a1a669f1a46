/-! one call of both, seen from the law -/
theorem wfM_of {M : MS} {R : Nat} (hR : R ≤ 12) (hw : wfN M R) : ∀ q, q < R → ¬ M.2.1 1 q < nI 10 → wfM M q := fun q hq hf => by
  obtain ⟨cn, j, h6, e, hj, q1, -, q2⟩ := wf_ge hw hq hf
  refine ⟨cn, j, h6, e, by omega, q1, fun h1 h2 => ?_⟩
  obtain ⟨t, ht, e⟩ := q2 h1 h2
  exact ⟨t, by omega, e⟩
theorem wfR_of {S : RS} {M : MS} {R : Nat} (hR : R ≤ 12) (hw : wfN M R) (he : eqF S M R) : ∀ q, q < R → byC S q = true → wfR S q := fun q hq hb => by
  obtain ⟨f1, f2, f3⟩ := he q hq
  have hf : ¬ M.2.1 1 q < nI 10 := by
    unfold byC at hb
    rw [f1] at hb
    simpa using hb
  obtain ⟨cn, j, h6, e, hj, q1, q2⟩ := wfM_of hR hw q hq hf
  exact ⟨cn, j, h6, by rw [f1]; exact e, hj, by rw [f2]; exact q1, fun h1 h2 => by rw [f3]; exact q2 h1 h2⟩
theorem n1 : ¬ nI 1 = 0 := by decide
theorem n2 : ¬ nI 2 = 0 := by decide
theorem iai : ¬ iaeS = iseS := by decide
theorem ian : ¬ iaeS = nseS := by decide
theorem Sim_code {n : Nat} {S : RS} {M : MS} (h : Sim n S M) (v : Int32) : Sim n S (sI M 0 v) := by
  obtain ⟨R, t, q, h⟩ := h
  exact ⟨R, t, q, SmR_code v h⟩
def cod (W : Option String) (c : Int32) (E1 E2 : String) : Prop := (W = none ∧ c = nI 0) ∨ (W = some E1 ∧ c = nI 1) ∨ (W = some E2 ∧ c = nI 2)
theorem fin3 {W : Option String} {c kq : Int32} {E1 E2 : String} {A B C : Prop} (hne : ¬ E1 = E2) (hc : cod W c E1 E2) (hA : A → W = none) (hH : (kq = nI 0 ∧ A) ∨ (kq = nI 1 ∧ B ∧ (C ∧ W = some E1)) ∨ (kq = nI 2 ∧ B ∧ (C ∧ W = some E2))) : (kq = nI 0 ∧ c = nI 0 ∧ A) ∨ (¬ c = 0 ∧ kq = c ∧ C) := by
  rcases hc with ⟨w, rfl⟩ | ⟨w, rfl⟩ | ⟨w, rfl⟩
  · rcases hH with ⟨e, a⟩ | ⟨-, -, -, q⟩ | ⟨-, -, -, q⟩
    · exact Or.inl ⟨e, rfl, a⟩
    · rw [w] at q; exact absurd q (by simp)
    · rw [w] at q; exact absurd q (by simp)
  · rcases hH with ⟨e, a⟩ | ⟨e, -, k, q⟩ | ⟨-, -, -, q⟩
    · have := hA a; rw [w] at this; exact absurd this (by simp)
    · exact Or.inr ⟨n1, e, k⟩
    · rw [w] at q; exact absurd (Option.some.inj q) hne
  · rcases hH with ⟨e, a⟩ | ⟨-, -, -, q⟩ | ⟨e, -, k, q⟩
    · have := hA a; rw [w] at this; exact absurd this (by simp)
    · rw [w] at q; exact absurd (Option.some.inj q).symm hne
    · exact Or.inr ⟨n2, e, k⟩
theorem fin2 {W : Option String} {c kq : Int32} {E1 : String} {A B C : Prop} (hc : (W = none ∧ c = nI 0) ∨ (W = some E1 ∧ c = nI 1)) (hA : A → W = none) (hH : (kq = nI 0 ∧ A) ∨ (kq = nI 1 ∧ B ∧ (C ∧ W = some E1))) : (kq = nI 0 ∧ c = nI 0 ∧ A) ∨ (¬ c = 0 ∧ kq = c ∧ C) := by
  rcases hc with ⟨w, rfl⟩ | ⟨w, rfl⟩
  · rcases hH with ⟨e, a⟩ | ⟨-, -, -, q⟩
    · exact Or.inl ⟨e, rfl, a⟩
    · rw [w] at q; exact absurd q (by simp)
  · rcases hH with ⟨e, a⟩ | ⟨e, -, k, q⟩
    · have := hA a; rw [w] at this; exact absurd this (by simp)
    · exact Or.inr ⟨n1, e, k⟩
theorem inB_d (k : Int32) (h : Int32) : inB k (nI 0) h = (decide (¬ k < 0) && decide (k ≤ h)) := by
  unfold inB
  rw [nI_0]
  congr 1
  rw [decide_eq_decide]
  exact Int32.not_lt
theorem cod_kind {n : Nat} {S : RS} {M : MS} {x k : Int32} (h : S.1 0 = M.1 1) : cod (kindW S n x k) (kC M n x k) iaeS iseS := by
  unfold kindW kC
  rw [inB_d, h]
  by_cases c1 : inI x (nI n) = false
  · rw [if_pos c1, if_pos (Or.inl c1)]
    exact Or.inr (Or.inl ⟨rfl, rfl⟩)
  · rw [if_neg c1]
    by_cases c2 : k < 0 ∨ ¬ k ≤ nI 3
    · rw [if_pos c2, if_pos (Or.inr (by rcases c2 with c | c <;> simp [c]))]
      exact Or.inr (Or.inl ⟨rfl, rfl⟩)
    · have c2' : ¬ (decide (¬ k < 0) && decide (k ≤ nI 3)) = false := by
        simp only [not_or, Classical.not_not] at c2
        simp only [c2.1, c2.2]
        decide
      rw [if_neg c2, if_neg (show ¬ (inI x (nI n) = false ∨ (decide (¬ k < 0) && decide (k ≤ nI 3)) = false) from fun e => e.elim c1 c2')]
      by_cases c3 : ¬ M.1 1 ≤ 0
      · rw [if_pos c3, if_pos c3]
        exact Or.inr (Or.inr ⟨rfl, rfl⟩)
      · rw [if_neg c3, if_neg c3]
        exact Or.inl ⟨rfl, rfl⟩
theorem kindW_none {S : RS} {n : Nat} {x k : Int32} (h : kindW S n x k = none) : inI x (nI n) = true ∧ S.1 0 ≤ 0 := by
  unfold kindW at h
  by_cases c1 : inI x (nI n) = false
  · rw [if_pos c1] at h; cases h
  · rw [if_neg c1] at h
    by_cases c2 : k < 0 ∨ ¬ k ≤ nI 3
    · rw [if_pos c2] at h; cases h
    · rw [if_neg c2] at h
      by_cases c3 : ¬ S.1 0 ≤ 0
      · rw [if_pos c3] at h; cases h
      · exact ⟨by simpa using c1, Classical.not_not.mp c3⟩
theorem op_kind {n : Nat} {S : RS} {M M' : MS} {o : Int64} {x k kq v : Int32} {u : RS × Int64} (hn : n ≤ 40) (h : Sim n S M)
    (hH : (kq = nI 0 ∧ ∃ v, u.2 = v.toInt64 ∧ u.1 = sA S 0 (ixN x) k ∧ kindW S n x k = none ∧ v = S.2.1 0 (ixN x)) ∨ (kq = nI 1 ∧ u.2 = o ∧ (u.1 = S ∧ kindW S n x k = some iaeS)) ∨ (kq = nI 2 ∧ u.2 = o ∧ (u.1 = S ∧ kindW S n x k = some iseS)))
    (hM : M' = (if kC M n x k = 0 then sA (sI M 0 (kC M n x k)) 0 (ixN x) k else sI M 0 (kC M n x k)) ∧ v = (if kC M n x k = 0 then M.2.1 0 (ixN x) else nI 0)) : M'.1 0 = kq ∧ (kq = nI 0 → u.2 = v.toInt64) ∧ Sim n u.1 M' := by
  obtain ⟨R, t, q, hs⟩ := h
  obtain ⟨⟨a1, a2, a3, a4, a5, a6, a7, a8⟩, hB, hC⟩ := id hs
  obtain ⟨rfl, rfl⟩ := hM
  rcases fin3 iai (cod_kind (a4.trans a5.symm)) (fun ⟨v, _, _, e, _⟩ => e) hH with ⟨rfl, hc, v, e1, e2, e3, e4⟩ | ⟨hc, rfl, e⟩
  · have hc0 : kC M n x k = 0 := hc.trans nI_0
    rw [if_pos hc0, if_pos hc0]
    obtain ⟨hx, hR⟩ := kindW_none e3
    obtain ⟨j, hj, rfl⟩ := inI_t (by omega) hx
    rw [ixN_nI (by omega)] at *
    have hR0 : R = 0 := by
      rw [a4, ← nI_0] at hR
      have := (nI_leI (by omega) (by decide)).mp hR
      omega
    subst hR0
    refine ⟨?_, fun _ => by rw [e1, e4, hB.1 j hj], ?_⟩
    · show (sI M 0 (kC M n (nI j) k)).1 0 = _
      rw [hc]; exact sI_at
    · rw [e2]
      exact ⟨0, t, _, SmR_kind (SmR_code _ hs)⟩
  · rw [if_neg hc, if_neg hc, e]
    exact ⟨sI_at, fun q => absurd (q.trans nI_0) hc, R, t, q, SmR_code _ hs⟩
theorem makeM_0 (M : MS) (n r : Nat) (f x y : Int32) : (makeM M n r f x y).1 0 = M.1 0 := by
  obtain ⟨P, hP⟩ : ∃ P, P = sA (sA (sA (sI M 1 (nI (r + 1))) 1 r f) 2 r x) 3 r y := ⟨_, rfl⟩
  have i1 := (mk1_p (S := P) (r := r) 1600).1
  have eM : makeM M n r f x y = mk2 (mk1 P r 1600) r f x n := by rw [hP]; rfl
  generalize mk1 P r 1600 = Q at i1 eM
  have j1 : ∀ k, (mk2 Q r f x k).1 = Q.1 := fun k => by
    induction k with
    | zero => rfl
    | succ k ih => exact ih
  rw [eM, j1, i1, hP]
  exact sI_ne (S := M) (k := 1) (j := 0) (v := nI (r + 1)) (by decide)
theorem m1_lt (k : Int32) : ¬ k < -1 ↔ (k = -1 ∨ ¬ k < 0) := by
  have e1 : (-1 : Int32).toInt = -1 := by decide
  have e0 : (0 : Int32).toInt = 0 := by decide
  rw [Int32.lt_iff_toInt_lt, Int32.lt_iff_toInt_lt, ← Int32.toInt_inj, e1, e0]
  omega
theorem kOk_B (k : Int32) : kOk k = inB k (-1) (nI 3) := by
  unfold kOk inB
  rw [Bool.eq_iff_iff]
  simp only [Bool.or_eq_true, Bool.and_eq_true, decide_eq_true_eq]
  rw [m1_lt, Int32.not_lt (a := nI 3)]
  constructor
  · rintro (h | h)
    · exact ⟨Or.inl h, by rw [h]; decide⟩
    · exact ⟨Or.inr h.1, h.2⟩
  · rintro ⟨h | h, h2⟩
    · exact Or.inl h
    · exact Or.inr ⟨h, h2⟩
theorem full_eq {R : Nat} (hR : R ≤ 12) : (¬ nI R < nI 12) ↔ nI R = nI 12 := by
  rw [nI_ltI (by omega) (by decide), nI_eq (by omega) (by decide)]
  omega
theorem cod_rel {S : RS} {M : MS} {R : Nat} {f x y : Int32} (hR : R ≤ 12) (h1 : S.1 0 = nI R) (h2 : M.1 1 = nI R) : cod (relW S f x y) (rC M f x y) iaeS iseS := by
  unfold relW rC relOk xFull
  rw [kOk_B, kOk_B, inB_d, h1, h2]
  by_cases c1 : f < 0 ∨ ¬ f ≤ nI 6
  · have : (decide (¬ f < 0) && decide (f ≤ nI 6)) = false := by rcases c1 with c | c <;> simp [c]
    rw [if_pos c1, this, if_pos (by simp)]
    exact Or.inr (Or.inl ⟨rfl, rfl⟩)
  · have : (decide (¬ f < 0) && decide (f ≤ nI 6)) = true := by
      simp only [not_or, Classical.not_not] at c1
      simp only [c1.1, c1.2]
      decide
    rw [if_neg c1, this]
    by_cases c2 : inB x (-1) (nI 3) = false
    · rw [if_pos c2, c2, if_pos (by simp)]
      exact Or.inr (Or.inl ⟨rfl, rfl⟩)
    · rw [if_neg c2]
      have c2' : inB x (-1) (nI 3) = true := by simpa using c2
      rw [c2']
      by_cases c3 : inB y (-1) (nI 3) = false
      · rw [if_pos c3, c3, if_pos (by simp)]
        exact Or.inr (Or.inl ⟨rfl, rfl⟩)
      · rw [if_neg c3]
        have c3' : inB y (-1) (nI 3) = true := by simpa using c3
        rw [c3']
        by_cases c4 : ¬ f < nI 4 ∧ ¬ x = y
        · rw [if_pos c4, if_pos (by simp only [c4.1, c4.2]; decide)]
          exact Or.inr (Or.inl ⟨rfl, rfl⟩)
        · have c4' : (decide (f < nI 4) || decide (x = y)) = true := by
            by_cases q : f < nI 4
            · simp [q]
            · have : x = y := Classical.byContradiction fun e => c4 ⟨q, e⟩
              simp [this]
          rw [if_neg c4, c4', if_neg (show ¬ (true && (true && (true && true))) = false by decide)]
          by_cases c5 : nI R = nI 12
          · rw [if_pos (decide_eq_true ((full_eq hR).mpr c5)), if_pos c5]
            exact Or.inr (Or.inr ⟨rfl, rfl⟩)
          · rw [if_neg (fun e => c5 ((full_eq hR).mp (of_decide_eq_true e))), if_neg c5]
            exact Or.inl ⟨rfl, rfl⟩
theorem op_relation {n : Nat} {S : RS} {M M' : MS} {o : Int64} {R : Nat} {f x y kq v : Int32} {u : RS × Int64} (hn : n ≤ 40) (h : Sim n S M) (hR : S.1 0 = nI R) (hR12 : R ≤ 12)
    (hH : (kq = nI 0 ∧ ∃ v, u.2 = v.toInt64 ∧ u.1 = startF (addRel S R f x y) R n ∧ relW S f x y = none ∧ v = nI R) ∨ (kq = nI 1 ∧ u.2 = o ∧ (u.1 = S ∧ relW S f x y = some iaeS)) ∨ (kq = nI 2 ∧ u.2 = o ∧ (u.1 = S ∧ relW S f x y = some iseS)))
    (hM : M' = (if rC M f x y = 0 then makeM (sI M 0 (rC M f x y)) n R f x y else sI M 0 (rC M f x y)) ∧ v = (if rC M f x y = 0 then nI R else nI 0)) : M'.1 0 = kq ∧ (kq = nI 0 → u.2 = v.toInt64) ∧ Sim n u.1 M' := by
  obtain ⟨R', t, q, hs⟩ := h
  obtain ⟨⟨a1, a2, a3, a4, a5, a6, a7, a8⟩, hB, hC⟩ := id hs
  have eR : R' = R := (nI_eq (by omega) (by omega)).mp (a4.symm.trans hR)
  subst eR
  obtain ⟨rfl, rfl⟩ := hM
  rcases fin3 iai (cod_rel (f := f) (x := x) (y := y) a1 a4 a5) (fun ⟨v, _, _, e, _⟩ => e) hH with ⟨rfl, hc, v, e1, e2, e3, e4⟩ | ⟨hc, rfl, e⟩
  · have hc0 : rC M f x y = 0 := hc.trans nI_0
    rw [if_pos hc0, if_pos hc0]
    have hlt : R' < 12 := by
      unfold rC at hc0
      by_cases c : relOk f x y = false
      · rw [if_pos c] at hc0; exact absurd hc0 n1
      · rw [if_neg c] at hc0
        by_cases c2 : M.1 1 = nI 12
        · rw [if_pos c2] at hc0; exact absurd hc0 n2
        · rw [a5] at c2
          have : ¬ R' = 12 := fun e => c2 (by rw [e])
          omega
    have hf : ∃ g, g ≤ 6 ∧ f = nI g := by
      unfold relW at e3
      by_cases c1 : f < 0 ∨ ¬ f ≤ nI 6
      · rw [if_pos c1] at e3; cases e3
      · simp only [not_or, Classical.not_not] at c1
        exact nI_of2 (M := nI 6) (n := 6) (by decide) c1.1 c1.2
    obtain ⟨g, hg, rfl⟩ := hf
    refine ⟨?_, fun _ => by rw [e1, e4], ?_⟩
    · have := (makeM_0 (sI M 0 (rC M (nI g) x y)) n R' (nI g) x y).trans (sI_at (S := M))
      rw [this, hc]
    · rw [e2]
      exact ⟨_, _, _, SmR_rel hn (SmR_code _ hs) hlt hg⟩
  · rw [if_neg hc, if_neg hc, e]
    exact ⟨sI_at, fun q => absurd (q.trans nI_0) hc, R', t, q, SmR_code _ hs⟩
