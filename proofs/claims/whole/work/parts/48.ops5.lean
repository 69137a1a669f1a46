theorem cod_lead {n : Nat} {S : RS} {M : MS} {R t q : Nat} {x a : Int32} (hn : n ≤ 40) (hs : SmR n S M R t q) : cod (leadW S n x a) (lC M n R x a) iaeS iseS := by
  obtain ⟨⟨a1, a2, a3, a4, a5, a6, a7, a8⟩, hB, hC⟩ := id hs
  unfold leadW lC l1C
  rw [a4]
  by_cases c1 : inI x (nI R) = false
  · have e : (if inI x (nI R) = false ∨ inI a (nI n) = false then nI 1 else if ¬ M.2.1 1 (ixN x) = nI 6 then nI 2 else nI 0) = nI 1 := if_pos (Or.inl c1)
    rw [e, if_pos c1, if_neg (fun q => n1 q.1)]; exact Or.inr (Or.inl ⟨rfl, rfl⟩)
  · rw [if_neg c1]
    by_cases c2 : inI a (nI n) = false
    · have e : (if inI x (nI R) = false ∨ inI a (nI n) = false then nI 1 else if ¬ M.2.1 1 (ixN x) = nI 6 then nI 2 else nI 0) = nI 1 := if_pos (Or.inr c2)
      rw [e, if_pos c2, if_neg (fun q => n1 q.1)]; exact Or.inr (Or.inl ⟨rfl, rfl⟩)
    · rw [if_neg c2, if_neg (show ¬ (inI x (nI R) = false ∨ inI a (nI n) = false) from fun e => e.elim c1 c2)]
      obtain ⟨r, hr, rfl⟩ := inI_t (by omega) (show inI x (nI R) = true by simpa using c1)
      obtain ⟨a', ha, rfl⟩ := inI_t (by omega) (show inI a (nI n) = true by simpa using c2)
      rw [ixN_nI (by omega), ixN_nI (by omega)]
      obtain ⟨f1, f2, f3⟩ := hC.1 r hr
      have g1 : ofK S a' (S.2.1 3 r) = ofM (M.2.1 0 a') (M.2.1 2 r) := by unfold ofK ofM; rw [hB.1 a' ha, f2]
      rw [f1, g1]
      by_cases c3 : ¬ M.2.1 1 r = nI 6
      · rw [if_pos c3, if_pos c3, if_neg (fun q => n2 q.1)]; exact Or.inr (Or.inr ⟨rfl, rfl⟩)
      · rw [if_neg c3, if_neg c3]
        by_cases c4 : ofM (M.2.1 0 a') (M.2.1 2 r) = false
        · rw [if_pos c4, if_pos ⟨nI_0, c4⟩]; exact Or.inr (Or.inl ⟨rfl, rfl⟩)
        · rw [if_neg c4, if_neg (fun q => c4 q.2)]; exact Or.inl ⟨rfl, rfl⟩
theorem op_leader {n : Nat} {S : RS} {M M' : MS} {o : Int64} {R t : Nat} {x a kq v : Int32} {u : RS × Int64} (hn : n ≤ 40) {q : Nat} (hs : SmR n S M R t q)
    (hH : (kq = nI 0 ∧ ∃ v, u.2 = v.toInt64 ∧ u.1 = S ∧ leadW S n x a = none ∧ v = ntzL (S.2.2 (ixN x) (ixN a))) ∨ (kq = nI 1 ∧ u.2 = o ∧ (u.1 = S ∧ leadW S n x a = some iaeS)) ∨ (kq = nI 2 ∧ u.2 = o ∧ (u.1 = S ∧ leadW S n x a = some iseS)))
    (hM : M' = (if lC M n R x a = 0 then lrF (sI M 0 (lC M n R x a)) n (ixN x + 1) else sI M 0 (lC M n R x a)) ∧ v = (if lC M n R x a = 0 then bsG M' (ixN x) (ixN a) (nI 0) true n 0 0 else nI 0)) : M'.1 0 = kq ∧ (kq = nI 0 → u.2 = v.toInt64) ∧ Sim n u.1 M' := by
  have a1 := hs.1.1
  obtain ⟨hM1, rfl⟩ := hM
  rcases fin3 iai (cod_lead (x := x) (a := a) hn hs) (fun ⟨v, _, _, e, _⟩ => e) hH with ⟨rfl, hc, v, e1, e2, e3, e4⟩ | ⟨hc, rfl, e⟩
  · have hc0 : lC M n R x a = 0 := hc.trans nI_0
    rw [if_pos hc0] at hM1 ⊢
    have hl1 := lC_0 hc0
    obtain ⟨h1, h2⟩ := l1C_0 hl1
    obtain ⟨r, hr, rfl⟩ := inI_t (by omega) h1
    obtain ⟨a', ha, rfl⟩ := inI_t (by omega) h2
    have hf6 : M.2.1 1 r = nI 6 := by
      unfold l1C at hl1
      rw [ixN_nI (by omega)] at hl1
      by_cases c1 : inI (nI r) (nI R) = false ∨ inI (nI a') (nI n) = false
      · rw [if_pos c1] at hl1; exact absurd hl1 n1
      · rw [if_neg c1] at hl1
        by_cases c2 : ¬ M.2.1 1 r = nI 6
        · rw [if_pos c2] at hl1; exact absurd hl1 n2
        · exact Classical.not_not.mp c2
    have hof : dM M r a' = true := by
      have hc2 := hc0
      unfold lC at hc2
      rw [ixN_nI (by omega), ixN_nI (by omega)] at hc2
      by_cases c : l1C M n R (nI r) (nI a') = 0 ∧ ofM (M.2.1 0 a') (M.2.1 2 r) = false
      · rw [if_pos c] at hc2; exact absurd hc2 n1
      · cases e : ofM (M.2.1 0 a') (M.2.1 2 r) with
        | true => exact e
        | false => exact absurd ⟨hl1, e⟩ c
    rw [ixN_nI (by omega), ixN_nI (by omega)] at *
    have hf : M.2.1 1 r < nI 10 := by rw [hf6]; decide
    have hS : SmR n S (lrF (sI M 0 (lC M n R (nI r) (nI a'))) n (r + 1)) R t q := SmR_lr hn (SmR_code _ hs) (by omega)
    have kX : rIs S n r (dn M n r) := hs.2.2.2.2.1 r hr (Or.inl hf)
    have full : ∀ y, y < n → (lrF (sI M 0 (lC M n R (nI r) (nI a'))) n (r + 1)).2.2 0 (idB r a' y true) = tb (S.2.2 r a') y := fun y hy => by
      show pM (lrF (sI M 0 (lC M n R (nI r) (nI a'))) n (r + 1)) r a' y = _
      rw [kX a' y ha]
      exact lr_full hn a1 (M := sI M 0 (lC M n R (nI r) (nI a'))) hs.2.2.2.1 hs.2.2.2.2.2.1 (by omega) (by omega) (by omega) (by omega)
    have hz : ∀ y, ¬ y < n → tb (S.2.2 r a') y = false := fun y hy => by
      rw [kX a' y ha]
      cases e : dn M n r a' y with
      | false => rfl
      | true => exact absurd (dn_mask r a' y e).2 hy
    have haa : tb (S.2.2 r a') a' = true := by
      rw [kX a' a' ha, dn_form hf, qP_in ha ha]
      have := (hs.2.2.2.2.2.2.2 r hr hf).2.2.2 hf6
      rw [this.1 a' ha]; exact hof
    have hp : pickW (S.2.2 r a') (nI 0) = true := by
      unfold pickW
      rw [popL_nat]
      have := cntB_lt (tb (S.2.2 r a')) (a := a') (b := 64) (by omega) haa
      have h2 := cntB_le (tb (S.2.2 r a')) 64
      exact inI_nI (by omega) (by omega)
    have B := (beside (i0 := nI 0) hn full hz).1 hp
    rw [ixN_nI (by decide)] at B
    refine ⟨by rw [hM1, (lrF_1 _ _ _).1, hc]; exact sI_at, fun _ => ?_, by rw [e2, hM1]; exact ⟨_, _, _, hS⟩⟩
    rw [e1, e4, hM1, B.1]
    rfl
  · rw [if_neg hc] at hM1 ⊢
    rw [hM1, e]
    exact ⟨sI_at, fun q => absurd (q.trans nI_0) hc, R, t, q, SmR_code _ hs⟩
theorem op_differ {n : Nat} {S : RS} {M M' : MS} {o : Int64} {R t : Nat} {x y kq v : Int32} {u : RS × Int64} (hn : n ≤ 40) {q : Nat} (hs : SmR n S M R t q)
    (hH : (kq = nI 0 ∧ ∃ v, u.2 = v.toInt64 ∧ u.1 = stlF S n t (max (ixN x) (ixN y)) ∧ rsW S x y = none ∧ v = difG u.1 (ixN x) (ixN y) n 0) ∨ (kq = nI 1 ∧ u.2 = o ∧ (u.1 = S ∧ rsW S x y = some iaeS)))
    (hM : M' = (if t3C R x y = 0 then lrF (sI M 0 (t3C R x y)) n (max (ixN x) (ixN y) + 1) else sI M 0 (t3C R x y)) ∧ v = (if t3C R x y = 0 then dfG M' (ixN x) (ixN y) 1600 0 else nI 0)) : M'.1 0 = kq ∧ (kq = nI 0 → u.2 = v.toInt64) ∧ Sim n u.1 M' := by
  have a1 := hs.1.1
  obtain ⟨hM1, rfl⟩ := hM
  have hcod : (rsW S x y = none ∧ t3C R x y = nI 0) ∨ (rsW S x y = some iaeS ∧ t3C R x y = nI 1) := by
    unfold rsW t3C
    rw [hs.1.2.2.2.1]
    cases c : inI x (nI R) with
    | false => exact Or.inr ⟨rfl, if_pos (Or.inl rfl)⟩
    | true =>
      cases c2 : inI y (nI R) with
      | false => exact Or.inr ⟨rfl, if_pos (Or.inr rfl)⟩
      | true => exact Or.inl ⟨rfl, rfl⟩
  rcases fin2 hcod (fun ⟨v, _, _, e, _⟩ => e) hH with ⟨rfl, hc, v, e1, e2, e3, e4⟩ | ⟨hc, rfl, e⟩
  · have hc0 : t3C R x y = 0 := hc.trans nI_0
    rw [if_pos hc0] at hM1 ⊢
    obtain ⟨h1, h2⟩ := t3C_0 hc0
    obtain ⟨r, hr, rfl⟩ := inI_t (by omega) h1
    obtain ⟨p, hp, rfl⟩ := inI_t (by omega) h2
    rw [ixN_nI (by omega), ixN_nI (by omega)] at *
    obtain ⟨g1, -, -, g4⟩ := ask hn hs (r := max r p) (by omega) (t3C R (nI r) (nI p))
    have g0 := SmR_stl hn (SmR_code (t3C R (nI r) (nI p)) hs) (r := max r p) (by omega)
    have kX : ∀ z, z < R → z < max r p + 1 → rIs (stlF S n t (max r p)) n z (dn M n z) := fun z hz hz2 => g0.2.2.2.2.1 z hz (Or.inr (by omega))
    have kM : ∀ z, z < max r p + 1 → ∀ a b, a < 40 → b < 40 → pM (lrF (sI M 0 (t3C R (nI r) (nI p))) n (max r p + 1)) z a b = dn M n z a b := fun z hz a b ha hb => lr_full hn a1 (M := sI M 0 (t3C R (nI r) (nI p))) hs.2.2.2.1 hs.2.2.2.2.2.1 (by omega) hz ha hb
    refine ⟨by rw [hM1, g4, hc], fun _ => ?_, by rw [e2, hM1]; exact ⟨_, _, _, g1⟩⟩
    rw [e1, e4, e2, hM1, differ_eq hn (kX r hr (by omega)) (kX p hp (by omega)) (fun a b => dn_mask r a b) (fun a b => dn_mask p a b) (kM r (by omega)) (kM p (by omega))]
  · rw [if_neg hc] at hM1 ⊢
    rw [hM1, e]
    exact ⟨sI_at, fun q => absurd (q.trans nI_0) hc, R, t, q, SmR_code _ hs⟩
theorem op_tally {n : Nat} {S : RS} {M M' : MS} {o : Int64} {R t : Nat} {a b kq v : Int32} {u : RS × Int64} (hn : n ≤ 40) {q : Nat} (hs : SmR n S M R t q)
    (hH : (kq = nI 0 ∧ ∃ v, u.2 = v.toInt64 ∧ u.1 = S ∧ talW n a b = none ∧ v = S.2.1 1 (ixN a * n + ixN b)) ∨ (kq = nI 1 ∧ u.2 = o ∧ (u.1 = S ∧ talW n a b = some aioS)))
    (hM : M' = sI M 0 (gC n a b) ∧ v = (if gC n a b = 0 then M.2.1 6 (40 * ixN a + ixN b) else nI 0)) : M'.1 0 = kq ∧ (kq = nI 0 → u.2 = v.toInt64) ∧ Sim n u.1 M' := by
  obtain ⟨rfl, rfl⟩ := hM
  have hcod : (talW n a b = none ∧ gC n a b = nI 0) ∨ (talW n a b = some aioS ∧ gC n a b = nI 1) := by
    unfold talW gC
    cases c : inI a (nI n) with
    | false => exact Or.inr ⟨if_pos (Or.inl rfl), if_neg (fun q => absurd q.1 (by decide))⟩
    | true =>
      cases c2 : inI b (nI n) with
      | false => exact Or.inr ⟨if_pos (Or.inr rfl), if_neg (fun q => absurd q.2 (by decide))⟩
      | true => exact Or.inl ⟨rfl, rfl⟩
  rcases fin2 hcod (fun ⟨v, _, _, e, _⟩ => e) hH with ⟨rfl, hc, v, e1, e2, e3, e4⟩ | ⟨hc, rfl, e⟩
  · have hc0 : gC n a b = 0 := hc.trans nI_0
    rw [if_pos hc0]
    obtain ⟨h1, h2⟩ := gC_0 hc0
    obtain ⟨a', ha, rfl⟩ := inI_t (by omega) h1
    obtain ⟨b', hb, rfl⟩ := inI_t (by omega) h2
    rw [ixN_nI (by omega), ixN_nI (by omega)] at *
    refine ⟨by rw [hc]; exact sI_at, fun _ => by rw [e1, e4, hs.2.1.2.1 a' b' ha hb], by rw [e2]; exact ⟨R, t, q, SmR_code _ hs⟩⟩
  · rw [if_neg hc, e]
    exact ⟨sI_at, fun q => absurd (q.trans nI_0) hc, R, t, q, SmR_code _ hs⟩
theorem of_cod {w : Int32} : (¬ w = nI 0 ∧ ¬ w = nI 1 ∧ ¬ w = nI 2) ↔ inB w (nI 0) (nI 2) = false := by
  rw [inB_d]
  constructor
  · rintro ⟨e1, e2, e3⟩
    cases c : (decide (¬ w < 0) && decide (w ≤ nI 2)) with
    | false => rfl
    | true =>
      simp only [Bool.and_eq_true, decide_eq_true_eq] at c
      obtain ⟨j, hj, rfl⟩ := nI_of2 (M := nI 2) (n := 2) (by decide) c.1 c.2
      have : j = 0 ∨ j = 1 ∨ j = 2 := by omega
      rcases this with rfl | rfl | rfl
      · exact absurd rfl e1
      · exact absurd rfl e2
      · exact absurd rfl e3
  · intro e
    refine ⟨fun c => ?_, fun c => ?_, fun c => ?_⟩ <;> · rw [c] at e; exact absurd e (by decide)
theorem op_of {n : Nat} {S : RS} {M M' : MS} {o : Int64} {R t : Nat} {w kq v : Int32} {u : RS × Int64} {q : Nat} (hs : SmR n S M R t q)
    (hH : (kq = nI 0 ∧ ∃ v, u.2 = v.toInt64 ∧ u.1 = S ∧ ofW w = none ∧ v = (if w = nI 0 then nI n else if w = nI 1 then S.1 0 else S.1 2)) ∨ (kq = nI 1 ∧ u.2 = o ∧ (u.1 = S ∧ ofW w = some iaeS)))
    (hM : M' = sI M 0 (oC w) ∧ v = (if oC w = 0 then (if w = 0 then nI n else if w = nI 1 then M.1 1 else M.1 2) else nI 0)) : M'.1 0 = kq ∧ (kq = nI 0 → u.2 = v.toInt64) ∧ Sim n u.1 M' := by
  obtain ⟨rfl, rfl⟩ := hM
  have hcod : (ofW w = none ∧ oC w = nI 0) ∨ (ofW w = some iaeS ∧ oC w = nI 1) := by
    unfold ofW oC
    by_cases c : ¬ w = nI 0 ∧ ¬ w = nI 1 ∧ ¬ w = nI 2
    · rw [if_pos c, of_cod.mp c]; exact Or.inr ⟨rfl, rfl⟩
    · have c' : inB w (nI 0) (nI 2) = true := by
        cases e : inB w (nI 0) (nI 2) with
        | true => rfl
        | false => exact absurd (of_cod.mpr e) c
      rw [if_neg c, c']; exact Or.inl ⟨rfl, rfl⟩
  rcases fin2 hcod (fun ⟨v, _, _, e, _⟩ => e) hH with ⟨rfl, hc, v, e1, e2, e3, e4⟩ | ⟨hc, rfl, e⟩
  · have hc0 : oC w = 0 := hc.trans nI_0
    rw [if_pos hc0]
    refine ⟨by rw [hc]; exact sI_at, fun _ => ?_, by rw [e2]; exact ⟨R, t, q, SmR_code _ hs⟩⟩
    rw [e1, e4, hs.1.2.2.2.1, hs.1.2.2.2.2.1, hs.1.2.2.2.2.2.2.1, hs.1.2.2.2.2.2.2.2, nI_0]
  · rw [if_neg hc, e]
    exact ⟨sI_at, fun q => absurd (q.trans nI_0) hc, R, t, q, SmR_code _ hs⟩
theorem op_told {n : Nat} {S : RS} {M M' : MS} {o : Int64} {R t : Nat} {x w kq v : Int32} {u : RS × Int64} {q : Nat} (hs : SmR n S M R t q)
    (hH : (kq = nI 0 ∧ ∃ v, u.2 = v.toInt64 ∧ u.1 = S ∧ toldW S x w = none ∧ v = (if w = nI 0 then S.2.1 2 (ixN x) else if w = nI 1 then S.2.1 3 (ixN x) else S.2.1 4 (ixN x))) ∨ (kq = nI 1 ∧ u.2 = o ∧ (u.1 = S ∧ toldW S x w = some iaeS)))
    (hM : M' = sI M 0 (dC R x w) ∧ v = (if dC R x w = 0 then (if w = 0 then M.2.1 1 (ixN x) else if w = nI 1 then M.2.1 2 (ixN x) else M.2.1 3 (ixN x)) else nI 0)) : M'.1 0 = kq ∧ (kq = nI 0 → u.2 = v.toInt64) ∧ Sim n u.1 M' := by
  have a1 := hs.1.1
  obtain ⟨rfl, rfl⟩ := hM
  have hcod : (toldW S x w = none ∧ dC R x w = nI 0) ∨ (toldW S x w = some iaeS ∧ dC R x w = nI 1) := by
    unfold toldW dC
    rw [hs.1.2.2.2.1]
    by_cases c1 : inI x (nI R) = false
    · rw [if_pos c1, if_pos (Or.inl c1)]; exact Or.inr ⟨rfl, rfl⟩
    · rw [if_neg c1]
      by_cases c : ¬ w = nI 0 ∧ ¬ w = nI 1 ∧ ¬ w = nI 2
      · rw [if_pos c, if_pos (Or.inr (of_cod.mp c))]; exact Or.inr ⟨rfl, rfl⟩
      · rw [if_neg c, if_neg (show ¬ (inI x (nI R) = false ∨ inB w (nI 0) (nI 2) = false) from fun e => e.elim c1 (fun e => c (of_cod.mpr e)))]; exact Or.inl ⟨rfl, rfl⟩
  rcases fin2 hcod (fun ⟨v, _, _, e, _⟩ => e) hH with ⟨rfl, hc, v, e1, e2, e3, e4⟩ | ⟨hc, rfl, e⟩
  · have hc0 : dC R x w = 0 := hc.trans nI_0
    rw [if_pos hc0]
    obtain ⟨r, hr, rfl⟩ := inI_t (by omega) (dC_0 hc0)
    rw [ixN_nI (by omega)] at *
    obtain ⟨f1, f2, f3⟩ := hs.2.2.1 r hr
    refine ⟨by rw [hc]; exact sI_at, fun _ => by rw [e1, e4, f1, f2, f3, nI_0], by rw [e2]; exact ⟨R, t, q, SmR_code _ hs⟩⟩
  · rw [if_neg hc, e]
    exact ⟨sI_at, fun q => absurd (q.trans nI_0) hc, R, t, q, SmR_code _ hs⟩
