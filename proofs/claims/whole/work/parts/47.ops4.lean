theorem fin3' {W : Option String} {c kq : Int32} {E2 : String} {A B C1 C2 D1 D2 : Prop} (hne : ¬ iaeS = E2) (hc : (W = none ∧ c = nI 0) ∨ (W = some iaeS ∧ c = nI 1)) (hA : A → W = none) (hH : (kq = nI 0 ∧ A) ∨ (kq = nI 1 ∧ B ∧ ((W = some iaeS ∧ C1) ∨ (W = none ∧ iaeS = E2 ∧ D1))) ∨ (kq = nI 2 ∧ B ∧ ((W = some E2 ∧ C2) ∨ (W = none ∧ E2 = E2 ∧ D2)))) : (kq = nI 0 ∧ c = nI 0 ∧ A) ∨ (c = nI 1 ∧ kq = nI 1 ∧ C1) ∨ (c = nI 0 ∧ kq = nI 2 ∧ D2) := by
  rcases hc with ⟨w, rfl⟩ | ⟨w, rfl⟩
  · rcases hH with ⟨e, a⟩ | ⟨-, -, ⟨q, -⟩ | ⟨-, q, -⟩⟩ | ⟨e, -, ⟨q, -⟩ | ⟨-, -, d⟩⟩
    · exact Or.inl ⟨e, rfl, a⟩
    · rw [w] at q; cases q
    · exact absurd q hne
    · rw [w] at q; cases q
    · exact Or.inr (Or.inr ⟨rfl, e, d⟩)
  · rcases hH with ⟨e, a⟩ | ⟨e, -, ⟨q, k⟩ | ⟨q, -⟩⟩ | ⟨-, -, ⟨q, -⟩ | ⟨q, -⟩⟩
    · have := hA a; rw [w] at this; cases this
    · exact Or.inr (Or.inl ⟨rfl, e, k⟩)
    · rw [w] at q; cases q
    · rw [w] at q; exact absurd (Option.some.inj q) hne
    · rw [w] at q; cases q
theorem bC_t {q : Int32} (h : ¬ q = -1) : bC q = nI 0 := if_neg h
theorem bC_f {q : Int32} (h : q = -1) : bC q = nI 2 := if_pos h
theorem op_beside {n : Nat} {S : RS} {M M' : MS} {o : Int64} {R t : Nat} {x a i kq v : Int32} {u : RS × Int64} {dir : Bool} (hn : n ≤ 40) {q : Nat} (hs : SmR n S M R t q) (rowOf : RS → Nat → Nat → Int64)
    (hrow : ∀ r a, r < R → a < n → ∀ c, (∀ y, y < n → (lrF (sI M 0 c) n (r + 1)).2.2 0 (idB r a y dir) = tb (rowOf (stlF S n t r) r a) y) ∧ ∀ y, ¬ y < n → tb (rowOf (stlF S n t r) r a) y = false)
    (hH : (kq = nI 0 ∧ ∃ v, u.2 = v.toInt64 ∧ u.1 = stlF S n t (ixN x) ∧ raW S n x a = none ∧ pickW (rowOf u.1 (ixN x) (ixN a)) i = true ∧ v = ntzL (lowF (rowOf u.1 (ixN x) (ixN a)) (ixN i))) ∨ (kq = nI 1 ∧ u.2 = o ∧ ((raW S n x a = some iaeS ∧ u.1 = S) ∨ (raW S n x a = none ∧ iaeS = nseS ∧ u.1 = stlF S n t (ixN x) ∧ pickW (rowOf u.1 (ixN x) (ixN a)) i = false))) ∨ (kq = nI 2 ∧ u.2 = o ∧ ((raW S n x a = some nseS ∧ u.1 = S) ∨ (raW S n x a = none ∧ nseS = nseS ∧ u.1 = stlF S n t (ixN x) ∧ pickW (rowOf u.1 (ixN x) (ixN a)) i = false))))
    (hM : M' = (if t2C n R x a = 0 then sI (boS M n R x a) 0 (bC (boQ M n R x a i dir)) else sI M 0 (t2C n R x a)) ∧ v = (if t2C n R x a = 0 then (if bC (boQ M n R x a i dir) = 0 then boQ M n R x a i dir else nI 0) else nI 0)) : M'.1 0 = kq ∧ (kq = nI 0 → u.2 = v.toInt64) ∧ Sim n u.1 M' := by
  have a1 := hs.1.1
  obtain ⟨rfl, rfl⟩ := hM
  have inn : t2C n R x a = nI 0 → ∃ r a', r < R ∧ a' < n ∧ x = nI r ∧ a = nI a' := fun hc => by
    obtain ⟨h1, h2⟩ := t2C_0 (hc.trans nI_0)
    obtain ⟨r, hr, rfl⟩ := inI_t (by omega) h1
    obtain ⟨a', ha, rfl⟩ := inI_t (by omega) h2
    exact ⟨r, a', hr, ha, rfl, rfl⟩
  rcases fin3' ian (cod_ra (n := n) (x := x) (a := a) hs.1.2.2.2.1) (fun ⟨v, _, _, e, _⟩ => e) hH with ⟨rfl, hc, v, e1, e2, e3, e4, e5⟩ | ⟨hc, rfl, e⟩ | ⟨hc, rfl, e2, e4⟩
  · have hc0 : t2C n R x a = 0 := hc.trans nI_0
    obtain ⟨r, a', hr, ha, rfl, rfl⟩ := inn hc
    rw [if_pos hc0, if_pos hc0]
    rw [ixN_nI (by omega), ixN_nI (by omega)] at *
    obtain ⟨g1, -, -, -⟩ := ask hn hs hr (t2C n R (nI r) (nI a'))
    obtain ⟨k1, k2⟩ := hrow r a' hr ha (t2C n R (nI r) (nI a'))
    rw [e2] at e4 e5
    have B := (beside (i0 := i) hn k1 k2).1 e4
    have eq : boQ M n R (nI r) (nI a') i dir = bsG (lrF (sI M 0 (t2C n R (nI r) (nI a'))) n (r + 1)) r a' i dir n 0 0 := by
      unfold boQ boS
      rw [ixN_nI (by omega), ixN_nI (by omega)]
    have es : boS M n R (nI r) (nI a') = lrF (sI M 0 (t2C n R (nI r) (nI a'))) n (r + 1) := by
      unfold boS
      rw [ixN_nI (by omega)]
    rw [eq, es, bC_t B.2, if_pos nI_0]
    refine ⟨sI_at, fun _ => by rw [e1, e5, B.1], by rw [e2]; exact ⟨_, _, _, SmR_code _ g1⟩⟩
  · rw [if_neg (by rw [hc]; decide), if_neg (by rw [hc]; decide), e, hc]
    exact ⟨sI_at, fun q => absurd q (by decide), R, t, q, SmR_code _ hs⟩
  · have hc0 : t2C n R x a = 0 := hc.trans nI_0
    obtain ⟨r, a', hr, ha, rfl, rfl⟩ := inn hc
    rw [if_pos hc0, if_pos hc0]
    rw [ixN_nI (by omega), ixN_nI (by omega)] at *
    obtain ⟨g1, -, -, -⟩ := ask hn hs hr (t2C n R (nI r) (nI a'))
    obtain ⟨k1, k2⟩ := hrow r a' hr ha (t2C n R (nI r) (nI a'))
    rw [e2] at e4
    have B := (beside (i0 := i) hn k1 k2).2 e4
    have eq : boQ M n R (nI r) (nI a') i dir = bsG (lrF (sI M 0 (t2C n R (nI r) (nI a'))) n (r + 1)) r a' i dir n 0 0 := by
      unfold boQ boS
      rw [ixN_nI (by omega), ixN_nI (by omega)]
    have es : boS M n R (nI r) (nI a') = lrF (sI M 0 (t2C n R (nI r) (nI a'))) n (r + 1) := by
      unfold boS
      rw [ixN_nI (by omega)]
    rw [eq, es, bC_f B]
    refine ⟨sI_at, fun q => absurd q (by decide), by rw [e2]; exact ⟨_, _, _, SmR_code _ g1⟩⟩
theorem row_next {n : Nat} {S : RS} {M : MS} {R t q : Nat} (hn : n ≤ 40) (hs : SmR n S M R t q) : ∀ r a, r < R → a < n → ∀ c, (∀ y, y < n → (lrF (sI M 0 c) n (r + 1)).2.2 0 (idB r a y true) = tb ((fun (P : RS) r a => P.2.2 r a) (stlF S n t r) r a) y) ∧ ∀ y, ¬ y < n → tb ((fun (P : RS) r a => P.2.2 r a) (stlF S n t r) r a) y = false := fun r a hr ha c => by
  obtain ⟨-, g2, g3, -⟩ := ask hn hs hr c
  refine ⟨fun y hy => ?_, fun y hy => ?_⟩
  · show pM (lrF (sI M 0 c) n (r + 1)) r a y = tb ((stlF S n t r).2.2 r a) y
    rw [g3 a y (by omega) (by omega), g2 a y ha]
  · show tb ((stlF S n t r).2.2 r a) y = false
    rw [g2 a y ha]
    cases e : dn M n r a y with
    | false => rfl
    | true => exact absurd (dn_mask r a y e).2 hy
theorem row_back {n : Nat} {S : RS} {M : MS} {R t q : Nat} (hn : n ≤ 40) (hs : SmR n S M R t q) : ∀ r a, r < R → a < n → ∀ c, (∀ y, y < n → (lrF (sI M 0 c) n (r + 1)).2.2 0 (idB r a y false) = tb ((fun (P : RS) r a => colF P r a n) (stlF S n t r) r a) y) ∧ ∀ y, ¬ y < n → tb ((fun (P : RS) r a => colF P r a n) (stlF S n t r) r a) y = false := fun r a hr ha c => by
  obtain ⟨-, g2, g3, -⟩ := ask hn hs hr c
  refine ⟨fun y hy => ?_, fun y hy => ?_⟩
  · show pM (lrF (sI M 0 c) n (r + 1)) r y a = tb (colF (stlF S n t r) r a n) y
    rw [g3 y a (by omega) (by omega), colF_tb _ _ _ _ (by omega)]
    unfold hX
    rw [g2 y a hy]
    simp [hy]
  · show tb (colF (stlF S n t r) r a n) y = false
    rw [colF_tb _ _ _ _ (by omega)]
    simp [hy]
theorem meas2 {n : Nat} {S : RS} {M : MS} {R t q r b : Nat} (hn : n ≤ 40) (hs : SmR n S M R t q) (hr : r < R) (hb : b < n) (c : Int32) : SmR n (measF (stlF S n t r) n r b) (measM (sI M 0 c) n r b) R (max t (r + 1)) q ∧ rIs (measF (stlF S n t r) n r b) n r (dn M n r) ∧ (∀ x y, x < n → y < n → pM (measM (sI M 0 c) n r b) r x y = dn M n r x y) ∧ (measM (sI M 0 c) n r b).1 0 = c ∧ (∀ y, y < n → (measF (stlF S n t r) n r b).2.1 7 y = stp (dn M n r) n b (n - 1) y) ∧ ∀ y, y < n → (measM (sI M 0 c) n r b).2.1 7 y = stp (dn M n r) n b (n - 1) y := by
  obtain ⟨g1, g2, g3, g4⟩ := ask hn hs hr c
  obtain ⟨x1, x2⟩ := measF_p hn hb g2 (fun a b => dn_mask r a b)
  obtain ⟨m1, m2⟩ := measM_p (S := sI M 0 c) (b := b) hn (fun a b ha hb => g3 a b (by omega) (by omega))
  refine ⟨SmR_x7 (SmR_s7 g1 m1) x1, fun a y ha => by rw [x1.2.2]; exact g2 a y ha, fun x y hx hy => ?_, by rw [m1.1]; exact g4, x2, m2⟩
  unfold pM
  rw [m1.2.2]
  exact g3 x y (by omega) (by omega)
theorem op_length {n : Nat} {S : RS} {M M' : MS} {o : Int64} {R t : Nat} {x a b kq v : Int32} {u : RS × Int64} (hn : n ≤ 40) {q : Nat} (hs : SmR n S M R t q)
    (hH : (kq = nI 0 ∧ ∃ v, u.2 = v.toInt64 ∧ u.1 = measF (stlF S n t (ixN x)) n (ixN x) (ixN b) ∧ rabW S n x a b = none ∧ v = u.1.2.1 7 (ixN a)) ∨ (kq = nI 1 ∧ u.2 = o ∧ (u.1 = S ∧ rabW S n x a b = some iaeS)))
    (hM : M' = (if tC n R x a b = 0 then measM (sI M 0 (tC n R x a b)) n (ixN x) (ixN b) else sI M 0 (tC n R x a b)) ∧ v = (if tC n R x a b = 0 then M'.2.1 7 (ixN a) else nI 0)) : M'.1 0 = kq ∧ (kq = nI 0 → u.2 = v.toInt64) ∧ Sim n u.1 M' := by
  have a1 := hs.1.1
  obtain ⟨hM1, rfl⟩ := hM
  rcases fin2 (cod_rab (n := n) (x := x) (a := a) (b := b) hs.1.2.2.2.1) (fun ⟨v, _, _, e, _⟩ => e) hH with ⟨rfl, hc, v, e1, e2, e3, e4⟩ | ⟨hc, rfl, e⟩
  · have hc0 : tC n R x a b = 0 := hc.trans nI_0
    rw [if_pos hc0] at hM1 ⊢
    obtain ⟨h1, h2, h3⟩ := tC_0 hc0
    obtain ⟨r, hr, rfl⟩ := inI_t (by omega) h1
    obtain ⟨a', ha, rfl⟩ := inI_t (by omega) h2
    obtain ⟨b', hb, rfl⟩ := inI_t (by omega) h3
    rw [ixN_nI (by omega), ixN_nI (by omega), ixN_nI (by omega)] at *
    obtain ⟨g1, g2, g3, g4, g5, g6⟩ := meas2 hn hs hr hb (tC n R (nI r) (nI a') (nI b'))
    refine ⟨by rw [hM1, g4, hc], fun _ => ?_, by rw [e2, hM1]; exact ⟨_, _, _, g1⟩⟩
    rw [e1, e4, e2, hM1, g5 a' ha, g6 a' ha]
  · rw [if_neg hc] at hM1 ⊢
    rw [hM1, e]
    exact ⟨sI_at, fun q => absurd (q.trans nI_0) hc, R, t, q, SmR_code _ hs⟩
theorem rou_eq {i w : Int32} : (decide (¬ i < 0) && decide (i ≤ w)) = inB i (nI 0) w := (inB_d i w).symm
theorem stp_in {X : Nat → Nat → Bool} {n b a : Nat} {i : Int32} (hn : n ≤ 40) (hi : inB i (nI 0) (stp X n b (n - 1) a) = true) : ∃ d k, d ≤ n - 1 ∧ stp X n b (n - 1) a = nI d ∧ i = nI k ∧ k ≤ d := by
  rw [inB_d] at hi
  simp only [Bool.and_eq_true, decide_eq_true_eq] at hi
  rcases stp_val (X := X) (n := n) (b := b) (n - 1) a with q | ⟨d, hd, q⟩
  · rw [q] at hi
    exfalso
    have h1 := Int32.le_iff_toInt_le.mp (Int32.not_lt.mp hi.1)
    have h2 := Int32.le_iff_toInt_le.mp hi.2
    have e1 : (-1 : Int32).toInt = -1 := by decide
    have e0 : (0 : Int32).toInt = 0 := by decide
    rw [e0] at h1
    rw [e1] at h2
    omega
  · rw [q] at hi
    obtain ⟨k, hk, rfl⟩ := nI_of2 (M := nI d) (n := d) (nI_toInt (by omega)) hi.1 hi.2
    exact ⟨d, k, hd, q, rfl, hk⟩
theorem hex_route {n : Nat} {S : RS} {M : MS} {R t : Nat} {x a b i : Int32} (hn : n ≤ 40) {q : Nat} (hs : SmR n S M R t q) : tC n R x a b = 0 → roC (measM (sI M 0 (tC n R x a b)) n (ixN x) (ixN b)) (ixN a) i = 0 → ∀ k, k < ixN i → rtM (measM (sI M 0 (tC n R x a b)) n (ixN x) (ixN b)) (ixN x) n (ixN a) k < n ∧ ∃ w, w < n ∧ nC (measM (sI M 0 (tC n R x a b)) n (ixN x) (ixN b)) (ixN x) (rtM (measM (sI M 0 (tC n R x a b)) n (ixN x) (ixN b)) (ixN x) n (ixN a) k) w = true := fun hc0 hro k hk => by
  have a1 := hs.1.1
  obtain ⟨h1, h2, h3⟩ := tC_0 hc0
  obtain ⟨r, hr, rfl⟩ := inI_t (by omega) h1
  obtain ⟨a', ha, rfl⟩ := inI_t (by omega) h2
  obtain ⟨b', hb, rfl⟩ := inI_t (by omega) h3
  rw [ixN_nI (by omega), ixN_nI (by omega), ixN_nI (by omega)] at *
  obtain ⟨g1, g2, g3, g4, g5, g6⟩ := meas2 hn hs hr hb (tC n R (nI r) (nI a') (nI b'))
  have hi : inB i (nI 0) (stp (dn M n r) n b' (n - 1) a') = true := by
    unfold roC at hro
    rw [g6 a' ha] at hro
    by_cases c : inB i (nI 0) (stp (dn M n r) n b' (n - 1) a') = true
    · exact c
    · rw [if_neg c] at hro; exact absurd hro n2
  obtain ⟨d, k', hd, hq, rfl, hk'⟩ := stp_in hn hi
  rw [ixN_nI (by omega)] at hk
  obtain ⟨-, q2, -, q4⟩ := route_eq hn ha g2 g3 g5 g6 hq hd k (by omega)
  exact ⟨q2, q4 (by omega)⟩
theorem op_route {n : Nat} {S : RS} {M M' : MS} {o : Int64} {R t : Nat} {x a b i kq v : Int32} {u : RS × Int64} (hn : n ≤ 40) {q : Nat} (hs : SmR n S M R t q)
    (hH : (kq = nI 0 ∧ ∃ v, u.2 = v.toInt64 ∧ u.1 = measF (stlF S n t (ixN x)) n (ixN x) (ixN b) ∧ rabW S n x a b = none ∧ rouB u.1 (ixN a) i = true ∧ v = nI (routF u.1 (ixN x) n (ixN a) (ixN i))) ∨ (kq = nI 1 ∧ u.2 = o ∧ ((rabW S n x a b = some iaeS ∧ u.1 = S) ∨ (rabW S n x a b = none ∧ iaeS = nseS ∧ u.1 = measF (stlF S n t (ixN x)) n (ixN x) (ixN b) ∧ rouB u.1 (ixN a) i = false))) ∨ (kq = nI 2 ∧ u.2 = o ∧ ((rabW S n x a b = some nseS ∧ u.1 = S) ∨ (rabW S n x a b = none ∧ nseS = nseS ∧ u.1 = measF (stlF S n t (ixN x)) n (ixN x) (ixN b) ∧ rouB u.1 (ixN a) i = false))))
    (hM : M' = (if tC n R x a b = 0 then sI (measM (sI M 0 (tC n R x a b)) n (ixN x) (ixN b)) 0 (roC (measM (sI M 0 (tC n R x a b)) n (ixN x) (ixN b)) (ixN a) i) else sI M 0 (tC n R x a b)) ∧ v = (if tC n R x a b = 0 then (if roC (measM (sI M 0 (tC n R x a b)) n (ixN x) (ixN b)) (ixN a) i = 0 then nI (rtM M' (ixN x) n (ixN a) (ixN i)) else nI 0) else nI 0)) : M'.1 0 = kq ∧ (kq = nI 0 → u.2 = v.toInt64) ∧ Sim n u.1 M' := by
  have a1 := hs.1.1
  obtain ⟨hM1, rfl⟩ := hM
  have inn : tC n R x a b = nI 0 → ∃ r a' b', r < R ∧ a' < n ∧ b' < n ∧ x = nI r ∧ a = nI a' ∧ b = nI b' := fun hc => by
    obtain ⟨h1, h2, h3⟩ := tC_0 (hc.trans nI_0)
    obtain ⟨r, hr, rfl⟩ := inI_t (by omega) h1
    obtain ⟨a', ha, rfl⟩ := inI_t (by omega) h2
    obtain ⟨b', hb, rfl⟩ := inI_t (by omega) h3
    exact ⟨r, a', b', hr, ha, hb, rfl, rfl, rfl⟩
  rcases fin3' ian (cod_rab (n := n) (x := x) (a := a) (b := b) hs.1.2.2.2.1) (fun ⟨v, _, _, e, _⟩ => e) hH with ⟨rfl, hc, v, e1, e2, e3, e4, e5⟩ | ⟨hc, rfl, e⟩ | ⟨hc, rfl, e2, e4⟩
  · have hc0 : tC n R x a b = 0 := hc.trans nI_0
    rw [if_pos hc0] at hM1 ⊢
    obtain ⟨r, a', b', hr, ha, hb, rfl, rfl, rfl⟩ := inn hc
    rw [ixN_nI (show r < 2 ^ 31 by omega), ixN_nI (show a' < 2 ^ 31 by omega), ixN_nI (show b' < 2 ^ 31 by omega)] at *
    obtain ⟨g1, g2, g3, g4, g5, g6⟩ := meas2 hn hs hr hb (tC n R (nI r) (nI a') (nI b'))
    rw [e2] at e4 e5
    have hi : inB i (nI 0) (stp (dn M n r) n b' (n - 1) a') = true := by
      unfold rouB at e4
      rw [g5 a' ha, rou_eq] at e4
      exact e4
    have hro : roC (measM (sI M 0 (tC n R (nI r) (nI a') (nI b'))) n r b') a' i = nI 0 := by
      unfold roC
      rw [g6 a' ha, if_pos hi]
    obtain ⟨d, k', hd, hq, rfl, hk'⟩ := stp_in hn hi
    rw [ixN_nI (show k' < 2 ^ 31 by omega)] at *
    obtain ⟨q1, -⟩ := route_eq hn ha g2 g3 g5 g6 hq hd k' hk'
    rw [hro] at hM1 ⊢
    rw [if_pos nI_0]
    refine ⟨by rw [hM1]; exact sI_at, fun _ => ?_, by rw [e2, hM1]; exact ⟨_, _, _, SmR_code _ g1⟩⟩
    rw [e1, e5, hM1, rtM_sI, q1]
  · rw [if_neg (by rw [hc]; decide)] at hM1 ⊢
    rw [hM1, e, hc]
    exact ⟨sI_at, fun q => absurd q (by decide), R, t, q, SmR_code _ hs⟩
  · have hc0 : tC n R x a b = 0 := hc.trans nI_0
    rw [if_pos hc0] at hM1 ⊢
    obtain ⟨r, a', b', hr, ha, hb, rfl, rfl, rfl⟩ := inn hc
    rw [ixN_nI (show r < 2 ^ 31 by omega), ixN_nI (show a' < 2 ^ 31 by omega), ixN_nI (show b' < 2 ^ 31 by omega)] at *
    obtain ⟨g1, g2, g3, g4, g5, g6⟩ := meas2 hn hs hr hb (tC n R (nI r) (nI a') (nI b'))
    rw [e2] at e4
    have hro : roC (measM (sI M 0 (tC n R (nI r) (nI a') (nI b'))) n r b') a' i = nI 2 := by
      unfold rouB at e4
      rw [g5 a' ha, rou_eq] at e4
      unfold roC
      rw [g6 a' ha, e4, if_neg (by decide)]
    rw [hro] at hM1 ⊢
    refine ⟨by rw [hM1]; exact sI_at, fun q => absurd q (by decide), by rw [e2, hM1]; exact ⟨_, _, _, SmR_code _ g1⟩⟩
