/-! the code that the model keeps -/
theorem pushM_0 (M : MS) (r a b : Nat) : (pushM M r a b).1 0 = M.1 0 := by
  unfold pushM
  rw [sI_ne (by decide)]
  show (putM M r a b false).1 0 = _
  rw [(putM_1 M r a b false).1]
theorem prM_0 (M : MS) (r a : Nat) : ∀ k, (prM M r a k).1 0 = M.1 0
  | 0 => rfl
  | k + 1 => by
    show (if pM (prM M r a k) r a k then pushM (prM M r a k) r a k else prM M r a k).1 0 = _
    split
    · rw [pushM_0, prM_0 M r a k]
    · exact prM_0 M r a k
theorem pcM_0 (M : MS) (r b : Nat) : ∀ k, (pcM M r b k).1 0 = M.1 0
  | 0 => rfl
  | k + 1 => by
    show (if pM (pcM M r b k) r k b then pushM (pcM M r b k) r k b else pcM M r b k).1 0 = _
    split
    · rw [pushM_0, pcM_0 M r b k]
    · exact pcM_0 M r b k
theorem joinM_0 (M : MS) (n r a b : Nat) : (joinM M n r a b).1 0 = M.1 0 := by
  have k1 := (jK_p (S := jX M n r a b n) (r := r) 1600).1
  have i1 := (jX_p (S := M) (n := n) (r := r) (a := a) (b := b) n).1
  have e : joinM M n r a b = jK (jX M n r a b n) r 1600 := rfl
  rw [e, k1, i1]
theorem setM_0 (M : MS) (n r a b : Nat) : (setM M n r a b).1 0 = M.1 0 := by
  have hT : (sT M a b).1 0 = M.1 0 := sI_ne (S := M) (k := 2) (j := 0) (v := nI 0) (by decide)
  have h1 : ∀ (P : MS) f a, (sP1 P n f r a).1 0 = P.1 0 := fun P f a => by unfold sP1; split <;> first | exact prM_0 _ _ _ _ | rfl
  have h2 : ∀ (P : MS) f b, (sP2 P n f r b).1 0 = P.1 0 := fun P f b => by unfold sP2; split <;> first | exact pcM_0 _ _ _ _ | rfl
  have h3 : ∀ (P : MS) f b, (sP3 P n f r b).1 0 = P.1 0 := fun P f b => by unfold sP3; split <;> first | exact prM_0 _ _ _ _ | rfl
  have h4 : ∀ (P : MS) f, (sP4 P n f r a b).1 0 = P.1 0 := fun P f => by
    unfold sP4
    split
    · exact joinM_0 _ _ _ _ _
    · rw [(putM_1 P r a b true).1]
  unfold setM
  split
  · exact hT
  · rw [h4]
    unfold sQ
    rw [h3, h2, h1, hT]
theorem dropM_0 (M : MS) (n r a b : Nat) : (dropM M n r a b).1 0 = M.1 0 := by
  have hp : ∀ k, (ptM M r a k).1 = M.1 := fun k => by
    induction k with
    | zero => rfl
    | succ k ih => exact ih
  unfold dropM
  split
  · split
    · rw [hp]
    · rfl
  · rw [(putM_1 M r a b false).1]
theorem cod_empt {n : Nat} {S : RS} {M : MS} {R t q : Nat} {x : Int32} (hs : SmR n S M R t q) : cod (emptW S x) (eC M R x) iaeS iseS := by
  obtain ⟨⟨a1, a2, a3, a4, a5, a6, a7, a8⟩, hB, hC⟩ := id hs
  unfold emptW eC
  rw [a4]
  by_cases c1 : inI x (nI R) = false
  · rw [if_pos c1, if_pos c1]; exact Or.inr (Or.inl ⟨rfl, rfl⟩)
  · rw [if_neg c1, if_neg c1]
    obtain ⟨r, hr, rfl⟩ := inI_t (by omega) (show inI x (nI R) = true by simpa using c1)
    rw [ixN_nI (by omega)]
    have hby : (byC S r = true) ↔ ¬ M.2.1 1 r < nI 10 := by
      unfold byC
      rw [(hC.1 r hr).1]; simp
    by_cases c4 : M.2.1 1 r < nI 10
    · rw [if_neg (show ¬ byC S r = true from fun e => hby.mp e c4), if_neg (show ¬ ¬ M.2.1 1 r < nI 10 from fun e => e c4)]; exact Or.inl ⟨rfl, rfl⟩
    · rw [if_pos (hby.mpr c4), if_pos c4]; exact Or.inr (Or.inr ⟨rfl, rfl⟩)
theorem op_empty {n : Nat} {S : RS} {M M' : MS} {o : Int64} {R t : Nat} {x kq v : Int32} {u : RS × Int64} (hn : n ≤ 40) {q : Nat} (hs : SmR n S M R t q)
    (hH : (kq = nI 0 ∧ ∃ v, u.2 = v.toInt64 ∧ u.1 = emptC S n t (ixN x) ∧ emptW S x = none ∧ v = pairsF S (ixN x) n - pairsF u.1 (ixN x) n) ∨ (kq = nI 1 ∧ u.2 = o ∧ (u.1 = S ∧ emptW S x = some iaeS)) ∨ (kq = nI 2 ∧ u.2 = o ∧ (u.1 = S ∧ emptW S x = some iseS)))
    (hM : M' = (if eC M R x = 0 then emA (sI M 0 (eC M R x)) n (ixN x) n else sI M 0 (eC M R x)) ∧ v = (if eC M R x = 0 then cnM M (ixN x) 1600 - cnM M' (ixN x) 1600 else nI 0)) : M'.1 0 = kq ∧ (kq = nI 0 → u.2 = v.toInt64) ∧ Sim n u.1 M' := by
  obtain ⟨⟨a1, a2, a3, a4, a5, a6, a7, a8⟩, hB, hC⟩ := id hs
  obtain ⟨hM1, rfl⟩ := hM
  rcases fin3 iai (cod_empt (x := x) hs) (fun ⟨v, _, _, e, _⟩ => e) hH with ⟨rfl, hc, v, e1, e2, e3, e4⟩ | ⟨hc, rfl, e⟩
  · have hc0 : eC M R x = 0 := hc.trans nI_0
    rw [if_pos hc0] at hM1 ⊢
    obtain ⟨hx, hf⟩ := eC_0 hc0
    obtain ⟨r, hr, rfl⟩ := inI_t (by omega) hx
    rw [ixN_nI (by omega)] at *
    obtain ⟨⟨t', q', g3⟩, g2⟩ := SmR_empty hn (SmR_code (eC M R (nI r)) hs) hr hf
    have ec : (emA (sI M 0 (eC M R (nI r))) n r n).1 = (sI M 0 (eC M R (nI r))).1 := (emA_p (S := sI M 0 (eC M R (nI r))) (r := r) hn n (Nat.le_refl n)).1
    refine ⟨by rw [hM1, ec, hc]; exact sI_at, fun _ => ?_, by rw [e2, hM1]; exact ⟨R, t', q', g3⟩⟩
    rw [e1, e4, e2, g2, hM1]
    have : ∀ c k, cnM (sI M 0 c) r k = cnM M r k := fun c k => by
      induction k with
      | zero => rfl
      | succ k ih => show cnM (sI M 0 c) r k + _ = cnM M r k + _; rw [ih]; rfl
    rw [this]
  · rw [if_neg hc] at hM1 ⊢
    rw [hM1, e]
    exact ⟨sI_at, fun q => absurd (q.trans nI_0) hc, R, t, q, SmR_code _ hs⟩
theorem cod_push {S : RS} {M : MS} {q : Nat} {i w : Int32} (hq : q ≤ 2) (h1 : S.1 2 = nI q) (h2 : M.1 2 = nI q) : cod (pushW S i w) (pdC M i w) iaeS nseS := by
  unfold pushW pdC
  rw [h1, h2, inB_inI (by omega)]
  have hw : inB w (nI 0) (nI 1) = false ↔ (¬ w = 0 ∧ ¬ w = nI 1) := by
    rw [inB_d]
    constructor
    · intro e
      refine ⟨fun c => ?_, fun c => ?_⟩
      · rw [c] at e; exact absurd e (by decide)
      · rw [c] at e; exact absurd e (by decide)
    · rintro ⟨e1, e2⟩
      cases c : (decide (¬ w < 0) && decide (w ≤ nI 1)) with
      | false => rfl
      | true =>
        simp only [Bool.and_eq_true, decide_eq_true_eq] at c
        obtain ⟨j, hj, rfl⟩ := nI_of2 (M := nI 1) (n := 1) (by decide) c.1 c.2
        have : j = 0 ∨ j = 1 := by omega
        rcases this with rfl | rfl
        · exact absurd nI_0 e1
        · exact absurd rfl e2
  by_cases c1 : ¬ w = 0 ∧ ¬ w = nI 1
  · rw [if_pos c1, if_pos (hw.mpr c1)]; exact Or.inr (Or.inl ⟨rfl, rfl⟩)
  · rw [if_neg c1, if_neg (fun e => c1 (hw.mp e))]
    by_cases c2 : inI i (nI q) = false
    · rw [if_pos c2, if_pos c2]; exact Or.inr (Or.inr ⟨rfl, rfl⟩)
    · rw [if_neg c2, if_neg c2]; exact Or.inl ⟨rfl, rfl⟩
theorem op_pushed {n : Nat} {S : RS} {M M' : MS} {o : Int64} {R t : Nat} {i w kq v : Int32} {u : RS × Int64} {q : Nat} (hs : SmR n S M R t q)
    (hH : (kq = nI 0 ∧ ∃ v, u.2 = v.toInt64 ∧ u.1 = S ∧ pushW S i w = none ∧ v = (if w = 0 then S.2.1 5 (ixN i) else S.2.1 6 (ixN i))) ∨ (kq = nI 1 ∧ u.2 = o ∧ (u.1 = S ∧ pushW S i w = some iaeS)) ∨ (kq = nI 2 ∧ u.2 = o ∧ (u.1 = S ∧ pushW S i w = some nseS)))
    (hM : M' = sI M 0 (pdC M i w) ∧ v = (if pdC M i w = 0 then (if w = 0 then M.2.1 4 (ixN i) else M.2.1 5 (ixN i)) else nI 0)) : M'.1 0 = kq ∧ (kq = nI 0 → u.2 = v.toInt64) ∧ Sim n u.1 M' := by
  obtain ⟨⟨a1, a2, a3, a4, a5, a6, a7, a8⟩, hB, hC⟩ := id hs
  obtain ⟨rfl, rfl⟩ := hM
  rcases fin3 ian (cod_push (i := i) (w := w) a3 a7 a8) (fun ⟨v, _, _, e, _⟩ => e) hH with ⟨rfl, hc, v, e1, e2, e3, e4⟩ | ⟨hc, rfl, e⟩
  · have hc0 : pdC M i w = 0 := hc.trans nI_0
    rw [if_pos hc0]
    have hi := (pdC_0 hc0).2
    rw [a8, inB_inI (by omega)] at hi
    obtain ⟨j, hj, rfl⟩ := inI_t (by omega) hi
    rw [ixN_nI (by omega)] at *
    refine ⟨by rw [hc]; exact sI_at, fun _ => ?_, by rw [e2]; exact ⟨R, t, q, SmR_code _ hs⟩⟩
    rw [e1, e4, (hB.2.2 j hj).1, (hB.2.2 j hj).2]
  · rw [if_neg hc, e]
    exact ⟨sI_at, fun q => absurd (q.trans nI_0) hc, R, t, q, SmR_code _ hs⟩
/-! asking -/
theorem cod_rab {n : Nat} {S : RS} {R : Nat} {x a b : Int32} (h : S.1 0 = nI R) : (rabW S n x a b = none ∧ tC n R x a b = nI 0) ∨ (rabW S n x a b = some iaeS ∧ tC n R x a b = nI 1) := by
  unfold rabW tC
  rw [h]
  by_cases c1 : inI x (nI R) = false
  · rw [if_pos c1, if_pos (Or.inl c1)]; exact Or.inr ⟨rfl, rfl⟩
  · rw [if_neg c1]
    by_cases c2 : inI a (nI n) = false
    · rw [if_pos c2, if_pos (Or.inr (Or.inl c2))]; exact Or.inr ⟨rfl, rfl⟩
    · rw [if_neg c2]
      by_cases c3 : inI b (nI n) = false
      · rw [if_pos c3, if_pos (Or.inr (Or.inr c3))]; exact Or.inr ⟨rfl, rfl⟩
      · rw [if_neg c3, if_neg (show ¬ (inI x (nI R) = false ∨ inI a (nI n) = false ∨ inI b (nI n) = false) from fun e => e.elim c1 (fun e => e.elim c2 c3))]; exact Or.inl ⟨rfl, rfl⟩
theorem cod_ra {n : Nat} {S : RS} {R : Nat} {x a : Int32} (h : S.1 0 = nI R) : (raW S n x a = none ∧ t2C n R x a = nI 0) ∨ (raW S n x a = some iaeS ∧ t2C n R x a = nI 1) := by
  unfold raW t2C
  rw [h]
  by_cases c1 : inI x (nI R) = false
  · rw [if_pos c1, if_pos (Or.inl c1)]; exact Or.inr ⟨rfl, rfl⟩
  · rw [if_neg c1]
    by_cases c2 : inI a (nI n) = false
    · rw [if_pos c2, if_pos (Or.inr c2)]; exact Or.inr ⟨rfl, rfl⟩
    · rw [if_neg c2, if_neg (show ¬ (inI x (nI R) = false ∨ inI a (nI n) = false) from fun e => e.elim c1 c2)]; exact Or.inl ⟨rfl, rfl⟩
theorem ask {n : Nat} {S : RS} {M : MS} {R t q r : Nat} (hn : n ≤ 40) (hs : SmR n S M R t q) (hr : r < R) (c : Int32) : SmR n (stlF S n t r) (lrF (sI M 0 c) n (r + 1)) R (max t (r + 1)) q ∧ rIs (stlF S n t r) n r (dn M n r) ∧ (∀ a b, a < 40 → b < 40 → pM (lrF (sI M 0 c) n (r + 1)) r a b = dn M n r a b) ∧ (lrF (sI M 0 c) n (r + 1)).1 0 = c := by
  have h1 := SmR_stl hn (SmR_code c hs) hr
  have h2 := SmR_lr hn h1 (k := r + 1) (by omega)
  refine ⟨h2, fun a b ha => h1.2.2.2.2.1 r hr (Or.inr (by omega)) a b ha, fun a b ha hb => ?_, by rw [(lrF_1 _ _ _).1]; exact sI_at⟩
  exact lr_full hn hs.1.1 (M := sI M 0 c) hs.2.2.2.1 hs.2.2.2.2.2.1 (by omega) (by omega) ha hb
theorem op_has {n : Nat} {S : RS} {M M' : MS} {o : Int64} {R t : Nat} {x a b kq v : Int32} {u : RS × Int64} (hn : n ≤ 40) {q : Nat} (hs : SmR n S M R t q)
    (hH : (kq = nI 0 ∧ ∃ v, u.2 = (if v = 0 then (0 : Int64) else 1) ∧ u.1 = stlF S n t (ixN x) ∧ rabW S n x a b = none ∧ v = bI (hX u.1 (ixN x) (ixN a) (ixN b))) ∨ (kq = nI 1 ∧ u.2 = o ∧ (u.1 = S ∧ rabW S n x a b = some iaeS)))
    (hM : M' = (if tC n R x a b = 0 then lrF (sI M 0 (tC n R x a b)) n (ixN x + 1) else sI M 0 (tC n R x a b)) ∧ v = (if tC n R x a b = 0 then bI (pM M' (ixN x) (ixN a) (ixN b)) else nI 0)) : M'.1 0 = kq ∧ (kq = nI 0 → u.2 = (if v = 0 then (0 : Int64) else 1)) ∧ Sim n u.1 M' := by
  have a1 := hs.1.1
  obtain ⟨hM1, rfl⟩ := hM
  rcases fin2 (cod_rab (n := n) (x := x) (a := a) (b := b) hs.1.2.2.2.1) (fun ⟨v, _, _, e, _⟩ => e) hH with ⟨rfl, hc, v, e1, e2, e3, e4⟩ | ⟨hc, rfl, e⟩
  · have hc0 : tC n R x a b = 0 := hc.trans nI_0
    rw [if_pos hc0] at hM1 ⊢
    obtain ⟨h1, h2, h3⟩ := tC_0 hc0
    obtain ⟨r, hr, rfl⟩ := inI_t (by omega) h1
    obtain ⟨a', ha, rfl⟩ := inI_t (by omega) h2
    obtain ⟨b', hb, rfl⟩ := inI_t (by omega) h3
    rw [ixN_nI (by omega), ixN_nI (by omega), ixN_nI (by omega)] at *
    obtain ⟨g1, g2, g3, g4⟩ := ask hn hs hr (tC n R (nI r) (nI a') (nI b'))
    refine ⟨by rw [hM1, g4, hc], fun _ => ?_, by rw [e2, hM1]; exact ⟨_, _, _, g1⟩⟩
    have : hX (stlF S n t r) r a' b' = dn M n r a' b' := g2 a' b' ha
    rw [e1, e4, e2, hM1, this, g3 a' b' (by omega) (by omega)]
  · rw [if_neg hc] at hM1 ⊢
    rw [hM1, e]
    exact ⟨sI_at, fun q => absurd (q.trans nI_0) hc, R, t, q, SmR_code _ hs⟩
theorem op_count {n : Nat} {S : RS} {M M' : MS} {o : Int64} {R t : Nat} {x kq v : Int32} {u : RS × Int64} (hn : n ≤ 40) {q : Nat} (hs : SmR n S M R t q)
    (hH : (kq = nI 0 ∧ ∃ v, u.2 = v.toInt64 ∧ u.1 = stlF S n t (ixN x) ∧ rW S x = none ∧ v = pairsF u.1 (ixN x) n) ∨ (kq = nI 1 ∧ u.2 = o ∧ (u.1 = S ∧ rW S x = some iaeS)))
    (hM : M' = (if r1C R x = 0 then lrF (sI M 0 (r1C R x)) n (ixN x + 1) else sI M 0 (r1C R x)) ∧ v = (if r1C R x = 0 then cnM M' (ixN x) 1600 else nI 0)) : M'.1 0 = kq ∧ (kq = nI 0 → u.2 = v.toInt64) ∧ Sim n u.1 M' := by
  have a1 := hs.1.1
  obtain ⟨hM1, rfl⟩ := hM
  have hcod : (rW S x = none ∧ r1C R x = nI 0) ∨ (rW S x = some iaeS ∧ r1C R x = nI 1) := by
    unfold rW r1C
    rw [hs.1.2.2.2.1]
    cases c : inI x (nI R) with
    | true => exact Or.inl ⟨rfl, rfl⟩
    | false => exact Or.inr ⟨rfl, rfl⟩
  rcases fin2 hcod (fun ⟨v, _, _, e, _⟩ => e) hH with ⟨rfl, hc, v, e1, e2, e3, e4⟩ | ⟨hc, rfl, e⟩
  · have hc0 : r1C R x = 0 := hc.trans nI_0
    rw [if_pos hc0] at hM1 ⊢
    obtain ⟨r, hr, rfl⟩ := inI_t (by omega) (r1C_0 hc0)
    rw [ixN_nI (by omega)] at *
    obtain ⟨g1, g2, g3, g4⟩ := ask hn hs hr (r1C R (nI r))
    refine ⟨by rw [hM1, g4, hc], fun _ => ?_, by rw [e2, hM1]; exact ⟨_, _, _, g1⟩⟩
    rw [e1, e4, e2, hM1, cnt_eq hn g2 (fun a b => dn_mask r a b) g3]
  · rw [if_neg hc] at hM1 ⊢
    rw [hM1, e]
    exact ⟨sI_at, fun q => absurd (q.trans nI_0) hc, R, t, q, SmR_code _ hs⟩
