/-! one call of set -/
theorem rIs_q {S : RS} {M : MS} {n r : Nat} {Y : Nat → Nat → Bool} (h : rIs S n r Y) (hM : ∀ x y, x < n → y < n → pM M r x y = Y x y) (m : mkX n Y) : rIs S n r (qP M n r) := fun x y hx => by
  rw [h x y hx]
  by_cases hy : y < n
  · rw [qP_in hx hy, hM x y hx hy]
  · unfold qP
    simp only [hy, decide_false, Bool.false_and, Bool.and_false]
    cases e : Y x y with
    | false => rfl
    | true => exact absurd (m x y e).2 hy
theorem rowPush_q {n r : Nat} {f : Int32} {S0 S : RS} {M0 M : MS} {q : Nat} {X : Nat → Nat → Bool} (hn : n ≤ 40) (h6 : ¬ f = nI 6) (h : Psy n r f S0 S M0 M q X) (hq : q < 2) {a : Nat} (ha : a < n) (hu : rowU n X) {k : Nat} (hk : k ≤ n) : ∃ p, p < 4 ∧ (prM M r a k).1 2 = nI p := by
  rcases rowPush hn h6 h hq ha hu k hk with ⟨-, i⟩ | ⟨j, -, -, i⟩
  · exact ⟨q, by omega, i.2.2.2.1⟩
  · exact ⟨q + 1, by omega, i.2.2.2.1⟩
theorem colPush_q {n r : Nat} {f : Int32} {S0 S : RS} {M0 M : MS} {q : Nat} {X : Nat → Nat → Bool} (hn : n ≤ 40) (h6 : ¬ f = nI 6) (hbo : boF f = false) (h : Psy n r f S0 S M0 M q X) (hq : q < 2) {b : Nat} (hb : b < n) (hu : colU n X) {k : Nat} (hk : k ≤ n) : ∃ p, p < 4 ∧ (pcM M r b k).1 2 = nI p := by
  rcases colPush hn h6 hbo h hq hb hu k hk with ⟨-, i⟩ | ⟨j, -, -, i⟩
  · exact ⟨q, by omega, i.2.2.2.1⟩
  · exact ⟨q + 1, by omega, i.2.2.2.1⟩
theorem set_push {n r g : Nat} {S1 : RS} {M : MS} {X : Nat → Nat → Bool} {d : Nat → Bool} {a b : Nat} (hn : n ≤ 40) (hg : g < 6) (hf : M.2.1 1 r = nI g) (h : Psy n r (nI g) S1 S1 (sT M a b) (sT M a b) 0 X) (ha : a < n) (hb : b < n) (ok : fOk (nI g) n X d) : puOk M n r a b ∧ ∃ q', q' ≤ 2 ∧ Psy n r (nI g) S1 (pushOF S1 n r a b) (sT M a b) (sQ M n r a b) q' (pX (nI g) X a b) := by
  have hS : S1.2.1 2 r = nI g := h.2.2.2.2.2.2.2.2.1
  unfold puOk sQ pushOF
  rw [hf, hS]
  match g, hg with
  | 0, _ =>
    have s1 : ∀ P, sP1 P n (nI 0) r a = prM P r a n := fun P => if_pos (Or.inl nI_0)
    have s2 : ∀ P, sP2 P n (nI 0) r b = pcM P r b n := fun P => if_pos (Or.inl nI_0)
    have s3 : ∀ P, sP3 P n (nI 0) r b = P := fun P => if_neg (by decide)
    have hr := ok.2.1 (Or.inl rfl)
    have hc := ok.1 (Or.inl rfl)
    obtain ⟨q1, l1, p1⟩ := rowPush' hn (by decide) h (by omega) ha hr (fun e => absurd e (by decide))
    obtain ⟨q2, l2, p2⟩ := colPush' hn (by decide) (by decide) p1 (by omega) hb (rClr_col hc)
    simp only [s1, s2, s3]
    refine ⟨⟨fun _ k hk _ => rowPush_q hn (by decide) h (by omega) ha hr (by omega), fun _ k hk _ => colPush_q hn (by decide) (by decide) p1 (by omega) hb (rClr_col hc) (by omega), fun e => absurd e (by decide)⟩, q2, by omega, ?_⟩
    exact p2
  | 1, _ =>
    have s1 : ∀ P, sP1 P n (nI 1) r a = P := fun P => if_neg (by decide)
    have s2 : ∀ P, sP2 P n (nI 1) r b = pcM P r b n := fun P => if_pos (Or.inr rfl)
    have s3 : ∀ P, sP3 P n (nI 1) r b = P := fun P => if_neg (by decide)
    have hc := ok.1 (Or.inr rfl)
    obtain ⟨q2, l2, p2⟩ := colPush' hn (by decide) (by decide) h (by omega) hb hc
    simp only [s1, s2, s3]
    refine ⟨⟨fun e => absurd e (by decide), fun _ k hk _ => colPush_q hn (by decide) (by decide) h (by omega) hb hc (by omega), fun e => absurd e (by decide)⟩, q2, by omega, ?_⟩
    exact p2
  | 2, _ =>
    have s1 : ∀ P, sP1 P n (nI 2) r a = prM P r a n := fun P => if_pos (Or.inr (Or.inl rfl))
    have s2 : ∀ P, sP2 P n (nI 2) r b = P := fun P => if_neg (by decide)
    have s3 : ∀ P, sP3 P n (nI 2) r b = P := fun P => if_neg (by decide)
    have hr := ok.2.1 (Or.inr (Or.inl rfl))
    obtain ⟨q1, l1, p1⟩ := rowPush' hn (by decide) h (by omega) ha hr (fun e => absurd e (by decide))
    simp only [s1, s2, s3]
    refine ⟨⟨fun _ k hk _ => rowPush_q hn (by decide) h (by omega) ha hr (by omega), fun e => absurd e (by decide), fun e => absurd e (by decide)⟩, q1, by omega, ?_⟩
    exact p1
  | 3, _ =>
    have s1 : ∀ P, sP1 P n (nI 3) r a = P := fun P => if_neg (by decide)
    have s2 : ∀ P, sP2 P n (nI 3) r b = P := fun P => if_neg (by decide)
    have s3 : ∀ P, sP3 P n (nI 3) r b = P := fun P => if_neg (by decide)
    simp only [s1, s2, s3]
    refine ⟨⟨fun e => absurd e (by decide), fun e => absurd e (by decide), fun e => absurd e (by decide)⟩, 0, by omega, ?_⟩
    exact h
  | 4, _ =>
    have s1 : ∀ P, sP1 P n (nI 4) r a = prM P r a n := fun P => if_pos (Or.inr (Or.inr rfl))
    have s2 : ∀ P, sP2 P n (nI 4) r b = P := fun P => if_neg (by decide)
    have s3 : ∀ P, sP3 P n (nI 4) r b = prM P r b n := fun P => if_pos rfl
    have hr := ok.2.1 (Or.inr (Or.inr rfl))
    have hs := ok.2.2.1 (Or.inl rfl)
    obtain ⟨q1, l1, p1⟩ := rowPush' hn (by decide) h (by omega) ha hr (fun _ => hs)
    obtain ⟨q2, l2, p2⟩ := rowPush' hn (by decide) p1 (by omega) hb (rClr_row hr) (fun e => by rw [e]; exact rClr_sym hs)
    simp only [s1, s2, s3]
    refine ⟨⟨fun _ k hk _ => rowPush_q hn (by decide) h (by omega) ha hr (by omega), fun e => absurd e (by decide), fun _ k hk _ => rowPush_q hn (by decide) p1 (by omega) hb (rClr_row hr) (by omega)⟩, q2, by omega, ?_⟩
    exact p2
  | 5, _ =>
    have s1 : ∀ P, sP1 P n (nI 5) r a = P := fun P => if_neg (by decide)
    have s2 : ∀ P, sP2 P n (nI 5) r b = P := fun P => if_neg (by decide)
    have s3 : ∀ P, sP3 P n (nI 5) r b = P := fun P => if_neg (by decide)
    simp only [s1, s2, s3]
    refine ⟨⟨fun e => absurd e (by decide), fun e => absurd e (by decide), fun e => absurd e (by decide)⟩, 0, by omega, ?_⟩
    exact h
theorem setX_mk {n : Nat} {bo : Bool} {X : Nat → Nat → Bool} (m : mkX n X) {a b : Nat} (ha : a < n) (hb : b < n) : mkX n (setX bo X a b) := fun x y h => by
  rcases setX_t.mp h with h | h | h
  · exact m x y h
  · exact ⟨by omega, by omega⟩
  · exact ⟨by omega, by omega⟩
theorem SmR_set {n : Nat} {S : RS} {M : MS} {R t q r a b : Nat} (hn : n ≤ 40) (h : SmR n S M R t q) (hr : r < R) (ha : a < n) (hb : b < n) (hf : M.2.1 1 r < nI 10) : (pM (sT M a b) r a b = false → puOk M n r a b) ∧ hX (talF S n a b) r a b = pM (sT M a b) r a b ∧ ∃ t' q', SmR n (setC S n t r a b) (setM M n r a b) R t' q' := by
  have h1 := SmR_tal hn ha hb h
  obtain ⟨g, hg, eg⟩ := f_of h.2.2.2.1 hr hf
  have m1 : (sT M a b).2.1 1 r = nI g := (sA_ne (S := sI M 2 (nI 0)) (k := 6) (fun e => absurd e.1 (by decide))).trans eg
  have hf1 : (sT M a b).2.1 1 r < nI 10 := by rw [m1, ← eg]; exact hf
  have hs1 : (talF S n a b).2.1 2 r = nI g := ((h1.2.2.1 r hr).1).trans m1
  have kX : rIs (talF S n a b) n r (qP (sT M a b) n r) := fun x y hx => by rw [h1.2.2.2.2.1 r hr (Or.inl hf1) x y hx, dn_form hf1]
  have ok : fOk (nI g) n (pM (sT M a b) r) (dM (sT M a b) r) := by rw [← m1]; exact h1.2.2.2.2.2.2.2 r hr hf1
  have ok' : fOk (nI g) n (qP (sT M a b) n r) (dM (sT M a b) r) := fOk_congr (fun x y hx hy => (qP_in hx hy).symm) (fun _ _ => rfl) ok
  have p0 : Psy n r (nI g) (talF S n a b) (talF S n a b) (sT M a b) (sT M a b) 0 (qP (sT M a b) n r) := ⟨frS_rf _ _, frM_rf _ _ _, h1.1.2.2.2.2.2.2.1, h1.1.2.2.2.2.2.2.2, fun i hi => by omega, kX, fun x y hx hy => (qP_in hx hy).symm, fun x y => qP_mask r x y, hs1, m1⟩
  have hx : hX (talF S n a b) r a b = pM (sT M a b) r a b := by
    unfold hX
    rw [kX a b ha, qP_in ha hb]
  have ht : (setC S n t r a b) = if hX (talF S n a b) r a b then talF S n a b else sI (joinF (pushOF (talF S n a b) n r a b) n r a b) 1 (nI (min t (r + 1))) := rfl
  by_cases h6 : g = 6
  · subst h6
    have pu : puOk M n r a b := by
      unfold puOk
      rw [eg]
      exact ⟨fun e => absurd e (by decide), fun e => absurd e (by decide), fun e => absurd e (by decide)⟩
    refine ⟨fun _ => pu, hx, ?_⟩
    rw [ht, hx]
    unfold setM
    cases e : pM (sT M a b) r a b with
    | true => rw [if_pos rfl, if_pos rfl]; exact ⟨t, 0, h1⟩
    | false =>
      rw [if_neg (by decide), if_neg (by decide)]
      have eP : pushOF (talF S n a b) n r a b = talF S n a b := by
        unfold pushOF
        rw [hs1, if_neg (by decide), if_neg (by decide), if_neg (by decide), if_neg (by decide)]
      have eQ : sQ M n r a b = sT M a b := by
        unfold sQ
        rw [eg]
        have s1 : ∀ P, sP1 P n (nI 6) r a = P := fun P => if_neg (by decide)
        have s2 : ∀ P, sP2 P n (nI 6) r b = P := fun P => if_neg (by decide)
        have s3 : ∀ P, sP3 P n (nI 6) r b = P := fun P => if_neg (by decide)
        rw [s1, s2, s3]
      have e4 : sP4 (sT M a b) n (nI 6) r a b = joinM (sT M a b) n r a b := if_pos rfl
      rw [eP, eQ, eg, e4]
      have eJ : joinF (talF S n a b) n r a b = makeF (talF S n a b) r ((talF S n a b).2.2 r a ||| (talF S n a b).2.2 r b) n := if_pos hs1
      rw [eJ]
      generalize hS1 : talF S n a b = S1 at *
      generalize hM1 : sT M a b = M1 at *
      obtain ⟨j1, j2, j3, j4⟩ := joinM_p (S := M1) (n := n) (r := r) (a := a) (b := b) hn h1.2.2.2.2.2.2.1
      obtain ⟨-, hsy, htr⟩ := ok'.2.2.2 rfl
      have mk := makeF_1 S1 r (S1.2.2 r a ||| S1.2.2 r b) n
      have rows := makeF_r S1 r (S1.2.2 r a ||| S1.2.2 r b) n
      refine ⟨_, 0, SmR_wr hn h1 hr hf1 (S' := makeF S1 r (S1.2.2 r a ||| S1.2.2 r b) n) (M' := joinM M1 n r a b) ⟨by rw [mk.1], by rw [mk.1], fun _ _ _ _ => by rw [mk.2], fun r' x hr' => by rw [rows, if_neg (fun q => hr' q.1)]⟩ j1 (by omega) (by rw [mk.1]; exact p0.2.2.1) (by rw [j2]; exact p0.2.2.2.1) (fun i hi => by omega) (rIs_q (Y := jnX (qP M1 n r) a b) (fun x y hx => ?_) (fun x y hx hy => ?_) (fun x y q => ?_)) ?_⟩
      · rw [rows]
        have hv : tb (S1.2.2 r a ||| S1.2.2 r b) x = (qP M1 n r a x || qP M1 n r b x) := by rw [tb_or, kX a x ha, kX b x hb]
        rw [hv]
        have hy' : jnX (qP M1 n r) a b x y = if (qP M1 n r a x || qP M1 n r b x) = true then (qP M1 n r a y || qP M1 n r b y) else qP M1 n r x y := by
          by_cases hy : y < n
          · exact jnX_cls hsy htr ha hb hx hy
          · have z : ∀ w, qP M1 n r w y = false := fun w => by
              cases e : qP M1 n r w y with
              | false => rfl
              | true => exact absurd (qP_mask r w y e).2 hy
            unfold jnX
            rw [z, z, z]; simp
        rw [hy']
        by_cases c : (qP M1 n r a x || qP M1 n r b x) = true
        · rw [if_pos ⟨rfl, hx, c⟩, if_pos c, tb_or, kX a y ha, kX b y hb]
        · rw [if_neg (fun q => c q.2.2), if_neg c, kX x y hx]
      · rw [j4 x y hx hy]
        unfold jnX
        rw [qP_in hx hy, qP_in ha hx, qP_in hb hy, qP_in hb hx, qP_in ha hy]
      · unfold jnX at q
        simp only [Bool.or_eq_true, Bool.and_eq_true] at q
        rcases q with q | q | q
        · exact qP_mask r x y q
        · exact ⟨(qP_mask r a x q.1).2, (qP_mask r b y q.2).2⟩
        · exact ⟨(qP_mask r b x q.1).2, (qP_mask r a y q.2).2⟩
      · rw [m1]
        refine fOk_congr (fun x y hx hy => (j4 x y hx hy).symm) (fun _ _ => rfl) (jnX_ok ha hb ok)
  · have hne6 : ¬ nI g = nI 6 := fun e => h6 ((nI_eq (by omega) (by omega)).mp e)
    obtain ⟨pu, q', hq', p1⟩ := set_push hn (by omega) eg p0 ha hb ok'
    refine ⟨fun _ => pu, hx, ?_⟩
    rw [ht, hx]
    unfold setM
    cases e : pM (sT M a b) r a b with
    | true => rw [if_pos rfl, if_pos rfl]; exact ⟨t, 0, h1⟩
    | false =>
      rw [if_neg (by decide), if_neg (by decide), eg]
      have e4 : ∀ P, sP4 P n (nI g) r a b = putM P r a b true := fun P => if_neg hne6
      rw [e4]
      obtain ⟨p1a, p1b, p1c, p1d, p1e, p1f, p1g, p1h, p1i, p1j⟩ := p1
      obtain ⟨x1, x2, x3, x4⟩ := joinF_x hn p1i hne6 ha hb p1f
      obtain ⟨y1, y2, y3, y4⟩ := putM_x (v := true) hn p1j ha hb
      have hy : ∀ x y, x < n → y < n → pM (putM (sQ M n r a b) r a b true) r x y = setX (boF (nI g)) (pX (nI g) (qP (sT M a b) n r) a b) a b x y := fun x y hx hy => by
        rw [y4 x y (by omega) (by omega), Bool.eq_iff_iff, setX_t]
        by_cases c : (x = a ∧ y = b) ∨ (boF (nI g) = true ∧ x = b ∧ y = a)
        · rw [if_pos c]
          exact ⟨fun _ => Or.inr c, fun _ => rfl⟩
        · rw [if_neg c, p1g x y hx hy]
          exact ⟨fun q => Or.inl q, fun q => q.elim id (fun q => absurd q c)⟩
      refine ⟨_, q', SmR_wr hn h1 hr hf1 (frS_tr p1a x1) (frM_tr p1b y1) hq' (by rw [x3]; exact p1c) (by rw [y3]; exact p1d) (fun i hi => by rw [x2, y2]; exact p1e i hi) (rIs_q x4 hy (setX_mk p1h ha hb)) ?_⟩
      rw [m1]
      exact fOk_congr (fun x y hx hy' => (hy x y hx hy').symm) (fun _ _ => rfl) (set_ok hg rfl hne6 ok')
