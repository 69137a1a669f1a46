/-! drop -/
theorem clrX_t {bo : Bool} {X : Nat → Nat → Bool} {a b x y : Nat} : clrX bo X a b x y = true ↔ X x y = true ∧ ¬ (x = a ∧ y = b) ∧ ¬ (bo = true ∧ x = b ∧ y = a) := by
  unfold clrX
  cases bo <;> simp <;> intro _ <;> omega
theorem clrX_ok {n a b : Nat} {f : Int32} {X : Nat → Nat → Bool} {d : Nat → Bool} (h6 : ¬ f = nI 6) (h : fOk f n X d) : fOk f n (clrX (boF f) X a b) d := by
  refine ⟨fun q x x' y h1 h2 h3 e1 e2 => h.1 q x x' y h1 h2 h3 (clrX_t.mp e1).1 (clrX_t.mp e2).1, fun q x y y' h1 h2 h3 e1 e2 => h.2.1 q x y y' h1 h2 h3 (clrX_t.mp e1).1 (clrX_t.mp e2).1, fun q x y h1 h2 => ?_, fun q => absurd q h6⟩
  have hb : boF f = true := by rcases q with q | q <;> rw [q] <;> decide
  rw [Bool.eq_iff_iff, clrX_t, clrX_t, h.2.2.1 q x y h1 h2, hb]
  constructor
  · exact fun e => ⟨e.1, fun k => e.2.2 ⟨rfl, k.2, k.1⟩, fun k => e.2.1 ⟨k.2.2, k.2.1⟩⟩
  · exact fun e => ⟨e.1, fun k => e.2.2 ⟨rfl, k.2, k.1⟩, fun k => e.2.1 ⟨k.2.2, k.2.1⟩⟩
theorem SmR_eqv {n : Nat} {S : RS} {M M' : MS} {R t q : Nat} (hn : n ≤ 40) (h : SmR n S M R t q) (e1 : M'.1 = M.1) (e2 : M'.2.1 = M.2.1) (e3 : ∀ j, M'.2.2 1 j = M.2.2 1 j) (e4 : ∀ r a b, a < 40 → b < 40 → pM M' r a b = pM M r a b) : SmR n S M' R t q := by
  obtain ⟨⟨a1, a2, a3, a4, a5, a6, a7, a8⟩, hB, c1, c2, c3, c4, c5, c6⟩ := h
  refine ⟨⟨a1, a2, a3, a4, by rw [e1]; exact a5, a6, a7, by rw [e1]; exact a8⟩, by unfold SmB; rw [e2]; exact hB, by unfold eqF; rw [e2]; exact c1, by unfold wfN; rw [e2]; exact c2, ?_, ?_, fun j => by rw [e3]; exact c5 j, ?_⟩
  · intro r hr hq a b ha
    rw [e2] at hq
    rw [c3 r hr hq a b ha]
    exact dn_congr a1 c2 (fun r _ => by rw [e2]; exact ⟨rfl, rfl, rfl⟩) (fun r _ _ a b ha hb => (e4 r a b (by omega) (by omega)).symm) hr a b
  · intro r a b hr ha hb hc
    rw [e4 r a b ha hb]; exact c4 r a b hr ha hb hc
  · intro r hr hf
    have hd : dM M' r = dM M r := by unfold dM; rw [e2]
    rw [hd]
    rw [e2] at hf ⊢
    exact fOk_congr (fun a b ha hb => (e4 r a b (by omega) (by omega)).symm) (fun _ _ => rfl) (c6 r hr hf)
theorem SmR_drop {n : Nat} {S : RS} {M : MS} {R t q r a b : Nat} (hn : n ≤ 40) (h : SmR n S M R t q) (hr : r < R) (ha : a < n) (hb : b < n) (hf : M.2.1 1 r < nI 10) : dropB S r a b = drB M r a b ∧ ∃ t' q', SmR n (dropC S n t r a b) (dropM M n r a b) R t' q' := by
  obtain ⟨g, hg, eg⟩ := f_of h.2.2.2.1 hr hf
  have hs1 : S.2.1 2 r = nI g := ((h.2.2.1 r hr).1).trans eg
  have kX : rIs S n r (qP M n r) := fun x y hx => by rw [h.2.2.2.2.1 r hr (Or.inl hf) x y hx, dn_form hf]
  have ok : fOk (nI g) n (pM M r) (dM M r) := by rw [← eg]; exact h.2.2.2.2.2.2.2 r hr hf
  have ok' : fOk (nI g) n (qP M n r) (dM M r) := fOk_congr (fun x y hx hy => (qP_in hx hy).symm) (fun _ _ => rfl) ok
  have hXe : hX S r a b = pM M r a b := by
    unfold hX
    rw [kX a b ha, qP_in ha hb]
  have hB : dropB S r a b = drB M r a b := by
    unfold dropB drB
    rw [hXe, hs1, eg]
  refine ⟨hB, ?_⟩
  unfold dropC dropM
  rw [hB, eg]
  by_cases h6 : g = 6
  · subst h6
    rw [if_pos rfl]
    cases e : drB M r a b with
    | false => rw [if_neg (by decide), if_neg (by decide)]; exact ⟨t, q, h⟩
    | true =>
      rw [if_pos rfl, if_pos rfl]
      have hab : pM M r a b = true ∧ ¬ a = b := by
        unfold drB at e
        rw [eg] at e
        simp at e
        exact e
      obtain ⟨k1, k2, k3, k4⟩ := ptM_p (S := M) (r := r) hn ha n (Nat.le_refl n)
      obtain ⟨hd, hsy, htr⟩ := ok'.2.2.2 rfl
      have haa : dM M r a = true := by
        rw [← hd a ha]
        exact htr a b a ha hb ha (by rw [qP_in ha hb]; exact hab.1) (by rw [hsy b a hb ha, qP_in ha hb]; exact hab.1)
      have eP : partF S n r a b = makeF (makeF S r (nbit (S.2.2 r a) a) n) r (bitN a) n := if_pos hs1
      have q1 := makeF_1 S r (nbit (S.2.2 r a) a) n
      have q2 := makeF_1 (makeF S r (nbit (S.2.2 r a) a) n) r (bitN a) n
      have r1 := makeF_r S r (nbit (S.2.2 r a) a) n
      have r2 := makeF_r (makeF S r (nbit (S.2.2 r a) a) n) r (bitN a) n
      rw [eP]
      have hp : ∀ x y, x < n → y < n → pM (ptM M r a n) r x y = ptX (pM M r) a x y := fun x y hx hy => by
        rw [k4 r x y (by omega) (by omega)]
        unfold ptX
        by_cases c : x = a ∨ y = a
        · rw [if_pos c, if_pos ⟨rfl, by omega⟩]
        · rw [if_neg c, if_neg (by omega)]
      refine ⟨_, q, SmR_wr hn h hr hf ⟨by rw [q2.1, q1.1], by rw [q2.1, q1.1], fun _ _ _ _ => by rw [q2.2, q1.2], fun r' x hr' => by rw [r2, if_neg (fun q => hr' q.1), r1, if_neg (fun q => hr' q.1)]⟩ ⟨by rw [k1], fun _ _ _ _ => by rw [k2], k3, fun r' x y hr' hx hy => by rw [k4 r' x y hx hy, if_neg (fun q => hr' q.1)], fun x y hx hy hc => by rw [k4 r x y hx hy, if_neg (by omega)]⟩ h.1.2.2.1 (by rw [q2.1, q1.1]; exact h.1.2.2.2.2.2.2.1) (by rw [k1]; exact h.1.2.2.2.2.2.2.2) (fun i hi => by rw [q2.2, q1.2, k2]; exact h.2.1.2.2 i hi) (rIs_q (Y := ptX (qP M n r) a) (fun x y hx => ?_) (fun x y hx hy => ?_) (fun x y z => ?_)) ?_⟩
      · rw [r2, r1, tb_bit (by omega)]
        have hv : ∀ z, tb (nbit (S.2.2 r a) a) z = (qP M n r a z && !decide (z = a)) := fun z => by rw [nbit_tb (by omega), kX a z ha]
        rw [hv x]
        unfold ptX
        by_cases ex : x = a
        · subst ex
          rw [if_pos ⟨rfl, hx, by simp⟩, tb_bit (by omega), if_pos (Or.inl rfl)]; simp
        · rw [if_neg (fun q => absurd q.2.2 (by simp [ex]))]
          by_cases ey : y = a
          · subst ey
            rw [if_pos (show x = y ∨ y = y from Or.inr rfl)]
            by_cases c : (qP M n r y x && !decide (x = y)) = true
            · rw [if_pos ⟨rfl, hx, c⟩, hv]; simp [ex]
            · rw [if_neg (fun q => c q.2.2), kX x y hx]
              have : qP M n r y x = false := by
                cases e : qP M n r y x with
                | false => rfl
                | true => exact absurd (by rw [e]; simp [ex]) c
              rw [hsy x y hx ha, this]; simp [ex]
          · rw [if_neg (show ¬ (x = a ∨ y = a) from fun q => q.elim ex ey)]
            by_cases c : (qP M n r a x && !decide (x = a)) = true
            · rw [if_pos ⟨rfl, hx, c⟩, hv]
              have hax : qP M n r a x = true := by
                simp only [Bool.and_eq_true] at c
                exact c.1
              by_cases hy : y < n
              · rw [eqv_same hsy htr ha hx hy hax]; simp [ey]
              · have z : ∀ w, qP M n r w y = false := fun w => by
                  cases e : qP M n r w y with
                  | false => rfl
                  | true => exact absurd (qP_mask r w y e).2 hy
                rw [z, z]; rfl
            · rw [if_neg (fun q => c q.2.2), kX x y hx]
      · rw [hp x y hx hy]
        unfold ptX
        rw [qP_in hx hy]
      · unfold ptX at z
        by_cases c : x = a ∨ y = a
        · rw [if_pos c] at z
          simp at z
          omega
        · rw [if_neg c] at z
          exact qP_mask r x y z
      · rw [eg]
        exact fOk_congr (fun x y hx hy => (hp x y hx hy).symm) (fun _ _ => rfl) (ptX_ok ha haa ok)
  · have hne6 : ¬ nI g = nI 6 := fun e => h6 ((nI_eq (by omega) (by omega)).mp e)
    rw [if_neg hne6]
    obtain ⟨x1, x2, x3, x4⟩ := partF_x hn hs1 hne6 ha hb kX
    obtain ⟨y1, y2, y3, y4⟩ := putM_x (v := false) hn eg ha hb
    have hdr : drB M r a b = pM M r a b := by
      unfold drB
      rw [eg]
      simp [hne6]
    rw [hdr]
    cases e : pM M r a b with
    | true =>
      rw [if_pos rfl]
      have hy : ∀ x y, x < n → y < n → pM (putM M r a b false) r x y = clrX (boF (nI g)) (qP M n r) a b x y := fun x y hx hy => by
        rw [y4 x y (by omega) (by omega), Bool.eq_iff_iff, clrX_t, qP_in hx hy]
        by_cases c : (x = a ∧ y = b) ∨ (boF (nI g) = true ∧ x = b ∧ y = a)
        · rw [if_pos c]
          exact ⟨fun q => absurd q (by decide), fun q => absurd c (fun z => z.elim q.2.1 q.2.2)⟩
        · rw [if_neg c]
          exact ⟨fun q => ⟨q, fun z => c (Or.inl z), fun z => c (Or.inr z)⟩, fun q => q.1⟩
      refine ⟨_, q, SmR_wr hn h hr hf x1 y1 h.1.2.2.1 (by rw [x3]; exact h.1.2.2.2.2.2.2.1) (by rw [y3]; exact h.1.2.2.2.2.2.2.2) (fun i hi => by rw [x2, y2]; exact h.2.1.2.2 i hi) (rIs_q x4 hy (clrX_mk (fun x y => qP_mask r x y) a b)) ?_⟩
      rw [eg]
      exact fOk_congr (fun x y hx hy' => (hy x y hx hy').symm) (fun _ _ => rfl) (clrX_ok hne6 ok')
    | false =>
      rw [if_neg (by decide)]
      refine ⟨t, q, SmR_eqv hn h y3 y2 y1.2.2.1 (fun r' x y hx hy => ?_)⟩
      by_cases er : r' = r
      · subst er
        rw [y4 x y hx hy]
        by_cases c : (x = a ∧ y = b) ∨ (boF (nI g) = true ∧ x = b ∧ y = a)
        · rw [if_pos c]
          rcases c with c | c
          · rw [c.1, c.2, e]
          · rw [c.2.1, c.2.2]
            have hs := ok.2.2.1 (by
              have := c.1
              unfold boF at this
              simpa using this)
            rw [hs b a hb ha, e]
        · rw [if_neg c]
      · exact y1.2.2.2.1 r' x y er hx hy
/-! empty -/
theorem startF_r (S : RS) (r : Nat) : ∀ (k q x : Nat), k ≤ 64 → (startF S r k).2.2 q x = if q = r ∧ x < k then (if decide (S.2.1 2 r = nI 6) && ofK S x (S.2.1 3 r) then bitN x else 0) else S.2.2 q x
  | 0, q, x, _ => by rw [if_neg (by omega)]; rfl
  | k + 1, q, x, hk => by
    have ih := startF_r S r k q x (by omega)
    have e1 := startF_1 S r k
    show (if q = r ∧ x = k then (if decide (S.2.1 2 r = nI 6) && ofK (startF S r k) k ((startF S r k).2.1 3 r) then bitN k else 0) else (startF S r k).2.2 q x) = _
    have eo : ofK (startF S r k) k ((startF S r k).2.1 3 r) = ofK S k (S.2.1 3 r) := by unfold ofK; rw [e1.2]
    rw [eo]
    by_cases c : q = r ∧ x = k
    · rw [if_pos c, if_pos (show q = r ∧ x < k + 1 from ⟨c.1, by omega⟩), c.2]
    · rw [if_neg c, ih]
      by_cases c2 : q = r ∧ x < k
      · rw [if_pos c2, if_pos (show q = r ∧ x < k + 1 from ⟨c2.1, by omega⟩)]
      · rw [if_neg c2, if_neg (show ¬ (q = r ∧ x < k + 1) by omega)]
def diX (f : Int32) (d : Nat → Bool) (n x y : Nat) : Bool := decide (x < n) && (decide (f = nI 6) && (decide (x = y) && d x))
theorem diX_mk {f : Int32} {d : Nat → Bool} {n : Nat} : mkX n (diX f d n) := fun x y h => by
  unfold diX at h
  simp only [Bool.and_eq_true, decide_eq_true_eq] at h
  omega
theorem diX_ok {f : Int32} {d : Nat → Bool} {n : Nat} : fOk f n (diX f d n) d := by
  have t : ∀ x y, diX f d n x y = true → x = y := fun x y h => by
    unfold diX at h
    simp only [Bool.and_eq_true, decide_eq_true_eq] at h
    exact h.2.2.1
  have s : symU n (diX f d n) := fun x y hx hy => by
    rw [Bool.eq_iff_iff]
    constructor
    · intro e; have := t x y e; subst this; exact e
    · intro e; have := t y x e; subst this; exact e
  refine ⟨fun q x x' y _ _ _ e1 e2 => (t _ _ e1).trans (t _ _ e2).symm, fun q x y y' _ _ _ e1 e2 => (t _ _ e1).symm.trans (t _ _ e2), fun _ => s, fun q => ⟨fun x hx => ?_, s, fun x y z _ _ _ e1 e2 => ?_⟩⟩
  · unfold diX
    simp [hx, q]
  · have := t _ _ e1; subst this; exact e2
theorem startF_is {S : RS} {n r : Nat} (hn : n ≤ 40) : rIs (startF S r n) n r (diX (S.2.1 2 r) (fun x => ofK S x (S.2.1 3 r)) n) := fun x y hx => by
  rw [startF_r S r n r x (by omega), if_pos ⟨rfl, hx⟩]
  unfold diX
  simp only [hx, decide_true, Bool.true_and]
  by_cases c : (decide (S.2.1 2 r = nI 6) && ofK S x (S.2.1 3 r)) = true
  · rw [if_pos c, tb_bit (by omega)]
    simp only [Bool.and_eq_true] at c
    rw [c.1, c.2]
    simp [eq_comm]
  · rw [if_neg c, tb_0]
    simp only [Bool.not_eq_true] at c
    cases e1 : decide (S.2.1 2 r = nI 6) with
    | false => rfl
    | true =>
      rw [e1, Bool.true_and] at c
      rw [c]; simp
theorem emB_p {S : MS} {n r a : Nat} (hn : n ≤ 40) (ha : a < n) : ∀ (k : Nat), k ≤ n → (emB S r a k).1 = S.1 ∧ (emB S r a k).2.1 = S.2.1 ∧ (∀ j, (emB S r a k).2.2 1 j = S.2.2 1 j) ∧ ∀ r' x y, x < 40 → y < 40 → pM (emB S r a k) r' x y = if r' = r ∧ x = a ∧ y < k then (decide (S.2.1 1 r = nI 6) && (decide (a = y) && pM S r a a)) else pM S r' x y
  | 0, _ => ⟨rfl, rfl, fun _ => rfl, fun r' x y _ _ => by rw [if_neg (by omega)]; rfl⟩
  | k + 1, hk => by
    obtain ⟨i1, i2, i3, i4⟩ := emB_p (S := S) (r := r) hn ha k (by omega)
    have e : emB S r a (k + 1) = sW (emB S r a k) 0 (ixP r a k) (decide ((emB S r a k).2.1 1 r = nI 6) && (decide (a = k) && pM (emB S r a k) r a a)) := rfl
    have ev : (decide ((emB S r a k).2.1 1 r = nI 6) && (decide (a = k) && pM (emB S r a k) r a a)) = (decide (S.2.1 1 r = nI 6) && (decide (a = k) && pM S r a a)) := by
      rw [i2]
      by_cases q : a = k
      · subst q
        rw [i4 r a a (by omega) (by omega), if_neg (by omega)]
      · simp [q]
    rw [e, ev]
    refine ⟨i1, i2, fun j => by rw [sW0_1, i3], fun r' x y hx hy => ?_⟩
    rw [pM_sW (by omega) (by omega) hx hy, i4 r' x y hx hy]
    by_cases c : r' = r ∧ x = a ∧ y = k
    · rw [if_pos c, if_pos ⟨c.1, c.2.1, by omega⟩, c.2.2]
    · rw [if_neg c]
      by_cases c2 : r' = r ∧ x = a ∧ y < k
      · rw [if_pos c2, if_pos ⟨c2.1, c2.2.1, by omega⟩]
      · rw [if_neg c2, if_neg (by omega)]
theorem emA_p {S : MS} {n r : Nat} (hn : n ≤ 40) : ∀ (k : Nat), k ≤ n → (emA S n r k).1 = S.1 ∧ (emA S n r k).2.1 = S.2.1 ∧ (∀ j, (emA S n r k).2.2 1 j = S.2.2 1 j) ∧ ∀ r' x y, x < 40 → y < 40 → pM (emA S n r k) r' x y = if r' = r ∧ x < k ∧ y < n then (decide (S.2.1 1 r = nI 6) && (decide (x = y) && pM S r x x)) else pM S r' x y
  | 0, _ => ⟨rfl, rfl, fun _ => rfl, fun r' x y _ _ => by rw [if_neg (by omega)]; rfl⟩
  | k + 1, hk => by
    obtain ⟨i1, i2, i3, i4⟩ := emA_p (S := S) (r := r) hn k (by omega)
    obtain ⟨j1, j2, j3, j4⟩ := emB_p (S := emA S n r k) (r := r) (a := k) hn (by omega) n (Nat.le_refl n)
    have e : emA S n r (k + 1) = emB (emA S n r k) r k n := rfl
    rw [e]
    refine ⟨j1.trans i1, j2.trans i2, fun j => (j3 j).trans (i3 j), fun r' x y hx hy => ?_⟩
    have ekk : pM (emA S n r k) r k k = pM S r k k := by rw [i4 r k k (by omega) (by omega), if_neg (by omega)]
    rw [j4 r' x y hx hy, i2, ekk, i4 r' x y hx hy]
    by_cases c : r' = r ∧ x = k ∧ y < n
    · rw [if_pos c, if_pos ⟨c.1, by omega, c.2.2⟩, c.2.1]
    · rw [if_neg c]
      by_cases c2 : r' = r ∧ x < k ∧ y < n
      · rw [if_pos c2, if_pos ⟨c2.1, by omega, c2.2.2⟩]
      · rw [if_neg c2, if_neg (by omega)]
theorem SmR_empty {n : Nat} {S : RS} {M : MS} {R t q r : Nat} (hn : n ≤ 40) (h : SmR n S M R t q) (hr : r < R) (hf : M.2.1 1 r < nI 10) : (∃ t' q', SmR n (emptC S n t r) (emA M n r n) R t' q') ∧ pairsF S r n - pairsF (emptC S n t r) r n = cnM M r 1600 - cnM (emA M n r n) r 1600 := by
  obtain ⟨g, hg, eg⟩ := f_of h.2.2.2.1 hr hf
  have he := h.2.2.1 r hr
  have hs1 : S.2.1 2 r = nI g := (he.1).trans eg
  have kX : rIs S n r (qP M n r) := fun x y hx => by rw [h.2.2.2.2.1 r hr (Or.inl hf) x y hx, dn_form hf]
  have ok : fOk (nI g) n (pM M r) (dM M r) := by rw [← eg]; exact h.2.2.2.2.2.2.2 r hr hf
  obtain ⟨k1, k2, k3, k4⟩ := emA_p (S := M) (r := r) hn n (Nat.le_refl n)
  have st := startF_1 S r n
  have sr := fun q x => startF_r S r n q x (by omega)
  have is := startF_is (S := S) (r := r) hn
  have hp : ∀ x y, x < n → y < n → pM (emA M n r n) r x y = diX (nI g) (dM M r) n x y := fun x y hx hy => by
    rw [k4 r x y (by omega) (by omega), if_pos ⟨rfl, hx, hy⟩, eg]
    unfold diX
    by_cases c : nI g = nI 6
    · rw [(ok.2.2.2 c).1 x hx]; simp [hx]
    · simp [c]
  have is' : rIs (startF S r n) n r (diX (nI g) (dM M r) n) := fun x y hx => by
    rw [is x y hx, hs1]
    simp only [diX]
    have : ofK S x (S.2.1 3 r) = dM M r x := by
      unfold ofK dM ofM
      rw [h.2.1.1 x hx, he.2.1]
    rw [this]
  have sim : SmR n (emptC S n t r) (emA M n r n) R (min t (r + 1)) q := SmR_wr hn h hr hf ⟨by rw [st.1], by rw [st.1], fun _ _ _ _ => by rw [st.2], fun r' x hr' => by rw [sr, if_neg (fun q => hr' q.1)]⟩ ⟨by rw [k1], fun _ _ _ _ => by rw [k2], k3, fun r' x y hr' hx hy => by rw [k4 r' x y hx hy, if_neg (fun q => hr' q.1)], fun x y hx hy hc => by rw [k4 r x y hx hy, if_neg (fun q => hc q.2)]⟩ h.1.2.2.1 (by rw [st.1]; exact h.1.2.2.2.2.2.2.1) (by rw [k1]; exact h.1.2.2.2.2.2.2.2) (fun i hi => by rw [st.2, k2]; exact h.2.1.2.2 i hi) (rIs_q is' hp diX_mk) (by
      rw [eg]
      exact fOk_congr (fun x y hx hy => (hp x y hx hy).symm) (fun _ _ => rfl) diX_ok)
  refine ⟨⟨_, _, sim⟩, ?_⟩
  have full : ∀ (P : MS) (Y : Nat → Nat → Bool), supM P n R → (∀ x y, x < n → y < n → pM P r x y = Y x y) → mkX n Y → ∀ a b, a < 40 → b < 40 → pM P r a b = Y a b := fun P Y hs hy m a b ha hb => by
    by_cases c : a < n ∧ b < n
    · exact hy a b c.1 c.2
    · rw [hs r a b hr ha hb c]
      cases e : Y a b with
      | false => rfl
      | true => exact absurd (m a b e) c
  have c1 := cnt_eq (M := M) hn kX (fun a b => qP_mask r a b) (full M _ h.2.2.2.2.2.1 (fun x y hx hy => (qP_in hx hy).symm) (fun x y => qP_mask r x y))
  have c2 := cnt_eq (S := emptC S n t r) (M := emA M n r n) (r := r) hn (X := diX (nI g) (dM M r) n) is' diX_mk (full _ _ sim.2.2.2.2.2.1 hp diX_mk)
  rw [c1, c2]
