/-! set -/
theorem sA_ne {α : Type} {S : (Nat → Int32) × (Nat → Nat → Int32) × α} {k j : Nat} {v : Int32} {q i : Nat} (h : ¬ (q = k ∧ i = j)) : (sA S k j v).2.1 q i = S.2.1 q i := by
  show (if q = k ∧ i = j then v else S.2.1 q i) = _
  rw [if_neg h]
theorem sA_at {α : Type} {S : (Nat → Int32) × (Nat → Nat → Int32) × α} {k j : Nat} {v : Int32} : (sA S k j v).2.1 k j = v := by
  show (if k = k ∧ j = j then v else S.2.1 k j) = _
  rw [if_pos ⟨rfl, rfl⟩]
theorem idx_inj {a b a' b' n : Nat} (hb : b < n) (hb' : b' < n) (h : a * n + b = a' * n + b') : a = a' ∧ b = b' := by
  have h1 : (a * n + b) / n = a := by rw [Nat.mul_comm, Nat.mul_add_div (by omega), Nat.div_eq_of_lt hb, Nat.add_zero]
  have h2 : (a' * n + b') / n = a' := by rw [Nat.mul_comm, Nat.mul_add_div (by omega), Nat.div_eq_of_lt hb', Nat.add_zero]
  rw [h, h2] at h1
  subst h1
  exact ⟨rfl, by omega⟩
theorem SmR_tal {n : Nat} {S : RS} {M : MS} {R t q a b : Nat} (hn : n ≤ 40) (ha : a < n) (hb : b < n) (h : SmR n S M R t q) : SmR n (talF S n a b) (sT M a b) R t 0 := by
  obtain ⟨⟨a1, a2, a3, a4, a5, a6, a7, a8⟩, ⟨b1, b2, b3⟩, c1, c2, c3, c4, c5, c6⟩ := h
  have xs : ∀ q j, ¬ q = 1 → (talF S n a b).2.1 q j = S.2.1 q j := fun q j hq => sA_ne (fun e => hq e.1)
  have ms : ∀ q j, ¬ q = 6 → (sT M a b).2.1 q j = M.2.1 q j := fun q j hq => sA_ne (fun e => hq e.1)
  have mf : ∀ q, ¬ q = 6 → (sT M a b).2.1 q = M.2.1 q := fun q hq => funext fun j => ms q j hq
  refine ⟨⟨a1, a2, by omega, ?_, ?_, ?_, ?_, ?_⟩, ⟨fun x hx => ?_, fun x y hx hy => ?_, fun i hi => by omega⟩, fun r hr => ?_, ?_, ?_, c4, c5, ?_⟩
  · exact (sI_ne (S := S) (k := 2) (v := nI 0) (by decide)).trans a4
  · exact (sI_ne (S := M) (k := 2) (v := nI 0) (by decide)).trans a5
  · exact (sI_ne (S := S) (k := 2) (v := nI 0) (by decide)).trans a6
  · exact sI_at (S := S) (k := 2) (v := nI 0)
  · exact sI_at (S := M) (k := 2) (v := nI 0)
  · rw [xs 0 x (by decide), ms 0 x (by decide)]; exact b1 x hx
  · by_cases e : x = a ∧ y = b
    · obtain ⟨rfl, rfl⟩ := e
      refine Eq.trans (sA_at (S := sI S 2 (nI 0)) (k := 1)) (Eq.trans ?_ (sA_at (S := sI M 2 (nI 0)) (k := 6)).symm)
      rw [b2 x y hx hy]
    · refine Eq.trans (sA_ne (S := sI S 2 (nI 0)) (k := 1) (fun q => e (idx_inj hy hb q.2))) (Eq.trans ?_ (sA_ne (S := sI M 2 (nI 0)) (k := 6) (fun q => e ⟨by omega, by omega⟩)).symm)
      exact b2 x y hx hy
  · rw [xs 2 r (by decide), xs 3 r (by decide), xs 4 r (by decide), ms 1 r (by decide), ms 2 r (by decide), ms 3 r (by decide)]; exact c1 r hr
  · unfold wfN; rw [mf 1 (by decide), mf 2 (by decide), mf 3 (by decide)]; exact c2
  · intro r hr hq
    rw [mf 1 (by decide)] at hq
    have : dn (sT M a b) n r = dn M n r := by
      unfold dn
      rw [mf 1 (by decide), mf 2 (by decide), mf 3 (by decide)]
      rfl
    rw [this]
    exact c3 r hr hq
  · unfold invM dM
    rw [mf 0 (by decide), mf 1 (by decide), mf 2 (by decide)]
    exact c6
def pX (f : Int32) (X : Nat → Nat → Bool) (a b : Nat) : Nat → Nat → Bool :=
  if f = nI 0 then cClr (rClr (boF f) X a) b else if f = nI 1 then cClr X b else if f = nI 2 then rClr (boF f) X a else if f = nI 4 then rClr (boF f) (rClr (boF f) X a) b else X
theorem setX_t {bo : Bool} {X : Nat → Nat → Bool} {a b x y : Nat} : setX bo X a b x y = true ↔ X x y = true ∨ (x = a ∧ y = b) ∨ (bo = true ∧ x = b ∧ y = a) := by
  unfold setX; simp
theorem rClr_t {bo : Bool} {X : Nat → Nat → Bool} {a x y : Nat} : rClr bo X a x y = true ↔ X x y = true ∧ ¬ x = a ∧ (bo = true → ¬ y = a) := by
  unfold rClr
  cases bo <;> simp
theorem cClr_t {X : Nat → Nat → Bool} {b x y : Nat} : cClr X b x y = true ↔ X x y = true ∧ ¬ y = b := by
  unfold cClr; simp
theorem rClr_row {n : Nat} {bo : Bool} {X : Nat → Nat → Bool} {a : Nat} (h : rowU n X) : rowU n (rClr bo X a) := fun x y y' h1 h2 h3 e1 e2 => h x y y' h1 h2 h3 (rClr_t.mp e1).1 (rClr_t.mp e2).1
theorem rClr_col {n : Nat} {bo : Bool} {X : Nat → Nat → Bool} {a : Nat} (h : colU n X) : colU n (rClr bo X a) := fun x y y' h1 h2 h3 e1 e2 => h x y y' h1 h2 h3 (rClr_t.mp e1).1 (rClr_t.mp e2).1
theorem rClr_sym {n : Nat} {X : Nat → Nat → Bool} {a : Nat} (h : symU n X) : symU n (rClr true X a) := fun x y h1 h2 => by
  rw [Bool.eq_iff_iff, rClr_t, rClr_t, h x y h1 h2]
  exact ⟨fun q => ⟨q.1, q.2.2 rfl, fun _ => q.2.1⟩, fun q => ⟨q.1, q.2.2 rfl, fun _ => q.2.1⟩⟩
theorem set_ok {n a b : Nat} {f : Int32} {X : Nat → Nat → Bool} {d : Nat → Bool} {g : Nat} (hg : g ≤ 6) (hf : f = nI g) (h6 : ¬ f = nI 6) (h : fOk f n X d) : fOk f n (setX (boF f) (pX f X a b) a b) d := by
  subst hf
  have ne : ∀ i j, i ≤ 6 → j ≤ 6 → ¬ i = j → ¬ nI i = nI j := fun i j h1 h2 h3 e => h3 ((nI_eq (by omega) (by omega)).mp e)
  have hg6 : ¬ g = 6 := fun e => h6 (by rw [e])
  unfold pX
  refine ⟨fun q => ?_, fun q => ?_, fun q => ?_, fun q => absurd q h6⟩
  · have hb : boF (nI g) = false := by rcases q with q | q <;> rw [q] <;> decide
    have hc := h.1 q
    rw [hb]
    rcases q with q | q
    · rw [if_pos q]
      intro x x' y h1 h2 h3 e1 e2
      rw [setX_t, cClr_t, rClr_t] at e1 e2
      rcases e1 with e1 | e1 | e1 <;> rcases e2 with e2 | e2 | e2 <;> first | exact absurd e1.1 (by decide) | exact absurd e2.1 (by decide) | skip
      · exact hc x x' y h1 h2 h3 e1.1.1 e2.1.1
      · exact absurd e2.2 e1.2
      · exact absurd e1.2 e2.2
      · rw [e1.1, e2.1]
    · rw [if_neg (by rw [q]; decide), if_pos q]
      intro x x' y h1 h2 h3 e1 e2
      rw [setX_t, cClr_t] at e1 e2
      rcases e1 with e1 | e1 | e1 <;> rcases e2 with e2 | e2 | e2 <;> first | exact absurd e1.1 (by decide) | exact absurd e2.1 (by decide) | skip
      · exact hc x x' y h1 h2 h3 e1.1 e2.1
      · exact absurd e2.2 e1.2
      · exact absurd e1.2 e2.2
      · rw [e1.1, e2.1]
  · have hr := h.2.1 q
    rcases q with q | q | q
    · have hb : boF (nI g) = false := by rw [q]; decide
      rw [hb, if_pos q]
      intro x y y' h1 h2 h3 e1 e2
      rw [setX_t, cClr_t, rClr_t] at e1 e2
      rcases e1 with e1 | e1 | e1 <;> rcases e2 with e2 | e2 | e2 <;> first | exact absurd e1.1 (by decide) | exact absurd e2.1 (by decide) | skip
      · exact hr x y y' h1 h2 h3 e1.1.1 e2.1.1
      · exact absurd e2.1 e1.1.2.1
      · exact absurd e1.1 e2.1.2.1
      · rw [e1.2, e2.2]
    · have hb : boF (nI g) = false := by rw [q]; decide
      rw [hb, if_neg (by rw [q]; decide), if_neg (by rw [q]; decide), if_pos q]
      intro x y y' h1 h2 h3 e1 e2
      rw [setX_t, rClr_t] at e1 e2
      rcases e1 with e1 | e1 | e1 <;> rcases e2 with e2 | e2 | e2 <;> first | exact absurd e1.1 (by decide) | exact absurd e2.1 (by decide) | skip
      · exact hr x y y' h1 h2 h3 e1.1 e2.1
      · exact absurd e2.1 e1.2.1
      · exact absurd e1.1 e2.2.1
      · rw [e1.2, e2.2]
    · have hb : boF (nI g) = true := by rw [q]; decide
      rw [hb, if_neg (by rw [q]; decide), if_neg (by rw [q]; decide), if_neg (by rw [q]; decide), if_pos q]
      intro x y y' h1 h2 h3 e1 e2
      rw [setX_t, rClr_t, rClr_t] at e1 e2
      rcases e1 with e1 | e1 | e1 <;> rcases e2 with e2 | e2 | e2
      · exact hr x y y' h1 h2 h3 e1.1.1 e2.1.1
      · exact absurd e2.1 e1.1.2.1
      · exact absurd e2.2.1 e1.2.1
      · exact absurd e1.1 e2.1.2.1
      · rw [e1.2, e2.2]
      · rw [e1.2, e2.2.2, ← e2.2.1, e1.1]
      · exact absurd e1.2.1 e2.2.1
      · rw [e2.2, e1.2.2, ← e1.2.1, e2.1]
      · rw [e1.2.2, e2.2.2]
  · have hs := h.2.2.1 q
    have hb : boF (nI g) = true := by rcases q with q | q <;> rw [q] <;> decide
    rw [hb]
    have hX' : symU n (if nI g = nI 0 then cClr (rClr true X a) b else if nI g = nI 1 then cClr X b else if nI g = nI 2 then rClr true X a else if nI g = nI 4 then rClr true (rClr true X a) b else X) := by
      rcases q with q | q
      · rw [if_neg (by rw [q]; decide), if_neg (by rw [q]; decide), if_neg (by rw [q]; decide), if_pos q]
        exact rClr_sym (rClr_sym hs)
      · rw [if_neg (by rw [q]; decide), if_neg (by rw [q]; decide), if_neg (by rw [q]; decide), if_neg (by rw [q]; decide)]
        exact hs
    intro x y h1 h2
    rw [Bool.eq_iff_iff, setX_t, setX_t, hX' x y h1 h2]
    constructor
    · rintro (e | e | e)
      · exact Or.inl e
      · exact Or.inr (Or.inr ⟨rfl, e.2, e.1⟩)
      · exact Or.inr (Or.inl ⟨e.2.2, e.2.1⟩)
    · rintro (e | e | e)
      · exact Or.inl e
      · exact Or.inr (Or.inr ⟨rfl, e.2, e.1⟩)
      · exact Or.inr (Or.inl ⟨e.2.2, e.2.1⟩)
theorem joinF_x {S : RS} {n r a b : Nat} {f : Int32} {X : Nat → Nat → Bool} (hn : n ≤ 40) (hf : S.2.1 2 r = f) (h6 : ¬ f = nI 6) (ha : a < n) (hb : b < n) (kX : rIs S n r X) : frS r S (joinF S n r a b) ∧ (joinF S n r a b).2.1 = S.2.1 ∧ (joinF S n r a b).1 = S.1 ∧ rIs (joinF S n r a b) n r (setX (boF f) X a b) := by
  have hbo : bothW S r = boF f := by unfold bothW boF; rw [hf]
  have e1 : (joinF S n r a b).1 = S.1 ∧ (joinF S n r a b).2.1 = S.2.1 := by
    unfold joinF
    rw [if_neg (by rw [hf]; exact h6)]
    split <;> exact ⟨rfl, rfl⟩
  have rows : (∀ r' x, ¬ r' = r → (joinF S n r a b).2.2 r' x = S.2.2 r' x) ∧ rIs (joinF S n r a b) n r (setX (boF f) X a b) := by
    unfold joinF
    rw [if_neg (by rw [hf]; exact h6), hbo]
    cases ho : boF f with
    | false =>
      rw [if_neg (by decide)]
      refine ⟨fun r' x hr => ?_, fun x y hx => ?_⟩
      · show (if r' = r ∧ x = a then _ else S.2.2 r' x) = _
        rw [if_neg (fun q => hr q.1)]
      · show tb (if r = r ∧ x = a then S.2.2 r a ||| bitN b else S.2.2 r x) y = _
        unfold setX
        by_cases e : x = a
        · subst e
          rw [if_pos ⟨rfl, rfl⟩, tb_or, tb_bit (by omega), kX x y hx]; simp
        · rw [if_neg (fun q => e q.2), kX x y hx]; simp [e]
    | true =>
      rw [if_pos rfl]
      refine ⟨fun r' x hr => ?_, fun x y hx => ?_⟩
      · show (if r' = r ∧ x = b then _ else (if r' = r ∧ x = a then _ else S.2.2 r' x)) = _
        rw [if_neg (fun q => hr q.1), if_neg (fun q => hr q.1)]
      · show tb (if r = r ∧ x = b then (if r = r ∧ b = a then S.2.2 r a ||| bitN b else S.2.2 r b) ||| bitN a else (if r = r ∧ x = a then S.2.2 r a ||| bitN b else S.2.2 r x)) y = _
        unfold setX
        by_cases e : x = b
        · subst e
          rw [if_pos ⟨rfl, rfl⟩, tb_or, tb_bit (by omega)]
          by_cases e2 : x = a
          · subst e2
            rw [if_pos ⟨rfl, rfl⟩, tb_or, tb_bit (by omega), kX x y hx]
            cases X x y <;> by_cases q : y = x <;> simp [q]
          · rw [if_neg (fun q => e2 q.2), kX x y hx]; simp [e2]
        · rw [if_neg (fun q => e q.2)]
          by_cases e2 : x = a
          · subst e2
            rw [if_pos ⟨rfl, rfl⟩, tb_or, tb_bit (by omega), kX x y hx]; simp [e]
          · rw [if_neg (fun q => e2 q.2), kX x y hx]; simp [e, e2]
  exact ⟨⟨by rw [e1.1], by rw [e1.1], fun q j _ _ => by rw [e1.2], rows.1⟩, e1.2, e1.1, rows.2⟩
/-! joining and parting classes -/
theorem makeF_r (S : RS) (r : Nat) (v : Int64) : ∀ (k q x : Nat), (makeF S r v k).2.2 q x = if q = r ∧ x < k ∧ tb v x = true then v else S.2.2 q x
  | 0, q, x => by rw [if_neg (by omega)]; rfl
  | k + 1, q, x => by
    have ih := makeF_r S r v k q x
    show (if tb v k then sW (makeF S r v k) r k v else makeF S r v k).2.2 q x = _
    cases e : tb v k with
    | true =>
      rw [if_pos rfl]
      show (if q = r ∧ x = k then v else (makeF S r v k).2.2 q x) = _
      by_cases c : q = r ∧ x = k
      · rw [if_pos c, if_pos ⟨c.1, by omega, by rw [c.2]; exact e⟩]
      · rw [if_neg c, ih]
        by_cases c2 : q = r ∧ x < k ∧ tb v x = true
        · rw [if_pos c2, if_pos ⟨c2.1, by omega, c2.2.2⟩]
        · rw [if_neg c2, if_neg (fun q => c2 ⟨q.1, by omega, q.2.2⟩)]
    | false =>
      rw [if_neg (by decide), ih]
      by_cases c2 : q = r ∧ x < k ∧ tb v x = true
      · rw [if_pos c2, if_pos ⟨c2.1, by omega, c2.2.2⟩]
      · rw [if_neg c2, if_neg]
        rintro ⟨q1, q2, q3⟩
        by_cases ex : x = k
        · rw [ex, e] at q3; exact absurd q3 (by decide)
        · exact c2 ⟨q1, by omega, q3⟩
def jnX (X : Nat → Nat → Bool) (a b x y : Nat) : Bool := X x y || ((X a x && X b y) || (X b x && X a y))
def ptX (X : Nat → Nat → Bool) (a x y : Nat) : Bool := if x = a ∨ y = a then decide (x = a) && decide (y = a) else X x y
section EQV
variable {n : Nat} {X : Nat → Nat → Bool}
theorem eqv_same (hs : symU n X) (ht : trnU n X) {a x y : Nat} (ha : a < n) (hx : x < n) (hy : y < n) (h : X a x = true) : X x y = X a y := by
  rw [Bool.eq_iff_iff]
  constructor
  · exact fun e => ht a x y ha hx hy h e
  · exact fun e => ht x a y hx ha hy (by rw [hs x a hx ha]; exact h) e
theorem jnX_cls (hs : symU n X) (ht : trnU n X) {a b x y : Nat} (ha : a < n) (hb : b < n) (hx : x < n) (hy : y < n) : jnX X a b x y = if (X a x || X b x) = true then (X a y || X b y) else X x y := by
  unfold jnX
  cases e1 : X a x with
  | true =>
    rw [eqv_same hs ht ha hx hy e1]
    cases X a y <;> cases X b y <;> cases X b x <;> rfl
  | false =>
    cases e2 : X b x with
    | true =>
      rw [eqv_same hs ht hb hx hy e2]
      cases X a y <;> cases X b y <;> rfl
    | false => simp
theorem jnX_ok {d : Nat → Bool} {a b : Nat} (ha : a < n) (hb : b < n) (h : fOk (nI 6) n X d) : fOk (nI 6) n (jnX X a b) d := by
  obtain ⟨h1, hs, ht⟩ := h.2.2.2 rfl
  have rfx : ∀ x y, x < n → y < n → X x y = true → X y y = true := fun x y hx hy e => ht y x y hy hx hy (by rw [hs y x hy hx]; exact e) e
  refine ⟨fun q => by rcases q with q | q <;> exact absurd q (by decide), fun q => by rcases q with q | q | q <;> exact absurd q (by decide), fun q => by rcases q with q | q <;> exact absurd q (by decide), fun _ => ⟨fun x hx => ?_, fun x y hx hy => ?_, fun x y z hx hy hz e1 e2 => ?_⟩⟩
  · rw [← h1 x hx]
    unfold jnX
    cases e1 : X a x with
    | true => rw [rfx a x ha hx e1]; rfl
    | false => simp
  · unfold jnX
    rw [hs x y hx hy]
    cases X y x <;> cases X a x <;> cases X b y <;> cases X b x <;> cases X a y <;> rfl
  · rw [jnX_cls hs ht ha hb hx hy] at e1
    rw [jnX_cls hs ht ha hb hy hz] at e2
    rw [jnX_cls hs ht ha hb hx hz]
    by_cases cx : (X a x || X b x) = true
    · rw [if_pos cx] at e1 ⊢
      rw [if_pos e1] at e2
      exact e2
    · rw [if_neg cx] at e1 ⊢
      have cy : ¬ (X a y || X b y) = true := fun q => cx (by
        simp only [Bool.or_eq_true] at q ⊢
        rcases q with q | q
        · exact Or.inl (ht a y x ha hy hx q (by rw [hs y x hy hx]; exact e1))
        · exact Or.inr (ht b y x hb hy hx q (by rw [hs y x hy hx]; exact e1)))
      rw [if_neg cy] at e2
      exact ht x y z hx hy hz e1 e2
theorem ptX_ok {d : Nat → Bool} {a : Nat} (ha : a < n) (hd : d a = true) (h : fOk (nI 6) n X d) : fOk (nI 6) n (ptX X a) d := by
  obtain ⟨h1, hs, ht⟩ := h.2.2.2 rfl
  refine ⟨fun q => by rcases q with q | q <;> exact absurd q (by decide), fun q => by rcases q with q | q | q <;> exact absurd q (by decide), fun q => by rcases q with q | q <;> exact absurd q (by decide), fun _ => ⟨fun x hx => ?_, fun x y hx hy => ?_, fun x y z hx hy hz e1 e2 => ?_⟩⟩
  · unfold ptX
    by_cases e : x = a
    · subst e; simp [hd]
    · simp only [e, or_self, if_false]; exact h1 x hx
  · unfold ptX
    by_cases e : x = a
    · by_cases e2 : y = a <;> simp [e, e2]
    · by_cases e2 : y = a
      · simp [e, e2]
      · simp only [e, e2, or_self, if_false]; exact hs x y hx hy
  · unfold ptX at *
    by_cases e : x = a
    · by_cases e' : y = a
      · subst e; subst e'; exact e2
      · simp [e, e'] at e1
    · by_cases e' : y = a
      · simp [e, e'] at e1
      · by_cases e'' : z = a
        · simp [e', e''] at e2
        · simp only [e, e', e'', or_self, if_false] at e1 e2 ⊢
          exact ht x y z hx hy hz e1 e2
end EQV
/-! the model joins -/
theorem sW0_1 (P : MS) (i : Nat) (v : Bool) (j : Nat) : (sW P 0 i v).2.2 1 j = P.2.2 1 j := by show (if 1 = 0 ∧ j = i then v else P.2.2 1 j) = _; rw [if_neg (fun q => absurd q.1 (by decide))]
theorem sW1_0 (P : MS) (i : Nat) (v : Bool) (j : Nat) : (sW P 1 i v).2.2 0 j = P.2.2 0 j := by show (if 0 = 1 ∧ j = i then v else P.2.2 0 j) = _; rw [if_neg (fun q => absurd q.1 (by decide))]
theorem sW_i (P : MS) (q i : Nat) (v : Bool) (j : Nat) : (sW P q i v).2.2 q j = if j = i then v else P.2.2 q j := by
  show (if q = q ∧ j = i then v else P.2.2 q j) = _
  by_cases e : j = i
  · rw [if_pos ⟨rfl, e⟩, if_pos e]
  · rw [if_neg (fun q => e q.2), if_neg e]
theorem jY_p {S : MS} {r a b u : Nat} : ∀ (k : Nat), (jY S r a b u k).1 = S.1 ∧ (jY S r a b u k).2.1 = S.2.1 ∧ (jY S r a b u k).2.2 0 = S.2.2 0 ∧ ∀ j, (jY S r a b u k).2.2 1 j = true ↔ (S.2.2 1 j = true ∨ ∃ y, y < k ∧ pM S r a u = true ∧ pM S r b y = true ∧ (j = 40 * u + y ∨ j = 40 * y + u))
  | 0 => ⟨rfl, rfl, rfl, fun j => ⟨fun h => Or.inl h, fun h => by
      rcases h with h | ⟨y, h, -⟩
      · exact h
      · omega⟩⟩
  | k + 1 => by
    obtain ⟨i1, i2, i3, i4⟩ := jY_p (S := S) (r := r) (a := a) (b := b) (u := u) k
    have hp : ∀ x y, pM (jY S r a b u k) r x y = pM S r x y := fun x y => by unfold pM; rw [i3]
    have e : jY S r a b u (k + 1) = if (pM S r a u && pM S r b k) = true then sW (sW (jY S r a b u k) 1 (40 * u + k) true) 1 (40 * k + u) true else jY S r a b u k := by
      show (if (pM (jY S r a b u k) r a u && pM (jY S r a b u k) r b k) = true then _ else _) = _
      rw [hp, hp]
    rw [e]
    by_cases c : (pM S r a u && pM S r b k) = true
    · rw [if_pos c]
      refine ⟨i1, i2, funext fun j => ?_, fun j => ?_⟩
      · rw [sW1_0, sW1_0, i3]
      · rw [sW_i, sW_i]
        simp only [Bool.and_eq_true] at c
        by_cases c1 : j = 40 * k + u
        · rw [if_pos c1]
          exact ⟨fun _ => Or.inr ⟨k, by omega, c.1, c.2, Or.inr c1⟩, fun _ => rfl⟩
        · rw [if_neg c1]
          by_cases c2 : j = 40 * u + k
          · rw [if_pos c2]
            exact ⟨fun _ => Or.inr ⟨k, by omega, c.1, c.2, Or.inl c2⟩, fun _ => rfl⟩
          · rw [if_neg c2, i4]
            constructor
            · rintro (h | ⟨y, h1, h2⟩)
              · exact Or.inl h
              · exact Or.inr ⟨y, by omega, h2⟩
            · rintro (h | ⟨y, h1, h2⟩)
              · exact Or.inl h
              · refine Or.inr ⟨y, ?_, h2⟩
                by_cases ey : y = k
                · subst ey
                  rcases h2.2.2 with q | q
                  · exact absurd q c2
                  · exact absurd q c1
                · omega
    · rw [if_neg c]
      refine ⟨i1, i2, i3, fun j => ?_⟩
      rw [i4]
      constructor
      · rintro (h | ⟨y, h1, h2⟩)
        · exact Or.inl h
        · exact Or.inr ⟨y, by omega, h2⟩
      · rintro (h | ⟨y, h1, h2⟩)
        · exact Or.inl h
        · refine Or.inr ⟨y, ?_, h2⟩
          by_cases ey : y = k
          · subst ey
            exact absurd (by rw [h2.1, h2.2.1]; rfl) c
          · omega
theorem jX_p {S : MS} {n r a b : Nat} : ∀ (k : Nat), (jX S n r a b k).1 = S.1 ∧ (jX S n r a b k).2.1 = S.2.1 ∧ (jX S n r a b k).2.2 0 = S.2.2 0 ∧ ∀ j, (jX S n r a b k).2.2 1 j = true ↔ (S.2.2 1 j = true ∨ ∃ x y, x < k ∧ y < n ∧ pM S r a x = true ∧ pM S r b y = true ∧ (j = 40 * x + y ∨ j = 40 * y + x))
  | 0 => ⟨rfl, rfl, rfl, fun j => ⟨fun h => Or.inl h, fun h => by
      rcases h with h | ⟨x, y, h, -⟩
      · exact h
      · omega⟩⟩
  | k + 1 => by
    obtain ⟨i1, i2, i3, i4⟩ := jX_p (S := S) (n := n) (r := r) (a := a) (b := b) k
    obtain ⟨j1, j2, j3, j4⟩ := jY_p (S := jX S n r a b k) (r := r) (a := a) (b := b) (u := k) n
    have hp : ∀ x y, pM (jX S n r a b k) r x y = pM S r x y := fun x y => by unfold pM; rw [i3]
    have e : jX S n r a b (k + 1) = jY (jX S n r a b k) r a b k n := rfl
    rw [e]
    refine ⟨j1.trans i1, j2.trans i2, j3.trans i3, fun j => ?_⟩
    rw [j4, i4]
    constructor
    · rintro ((h | ⟨x, y, h1, h2⟩) | ⟨y, h1, h2, h3, h4⟩)
      · exact Or.inl h
      · exact Or.inr ⟨x, y, by omega, h2⟩
      · rw [hp] at h2 h3
        exact Or.inr ⟨k, y, by omega, h1, h2, h3, h4⟩
    · rintro (h | ⟨x, y, h1, h2, h3, h4, h5⟩)
      · exact Or.inl (Or.inl h)
      · by_cases ex : x = k
        · subst ex
          exact Or.inr ⟨y, h2, by rw [hp]; exact h3, by rw [hp]; exact h4, h5⟩
        · exact Or.inl (Or.inr ⟨x, y, by omega, h2, h3, h4, h5⟩)
theorem jK_p {S : MS} {r : Nat} : ∀ (k : Nat), (jK S r k).1 = S.1 ∧ (jK S r k).2.1 = S.2.1 ∧ (∀ i, (jK S r k).2.2 0 i = if 1600 * r ≤ i ∧ i < 1600 * r + k then (S.2.2 0 i || S.2.2 1 (i - 1600 * r)) else S.2.2 0 i) ∧ ∀ j, (jK S r k).2.2 1 j = if j < k then false else S.2.2 1 j
  | 0 => ⟨rfl, rfl, fun i => by rw [if_neg (by omega)]; rfl, fun j => by rw [if_neg (by omega)]; rfl⟩
  | k + 1 => by
    obtain ⟨i1, i2, i3, i4⟩ := jK_p (S := S) (r := r) k
    have e : jK S r (k + 1) = sW (sW (jK S r k) 0 (1600 * r + k) ((jK S r k).2.2 0 (1600 * r + k) || (jK S r k).2.2 1 k)) 1 k false := rfl
    rw [e]
    refine ⟨i1, i2, fun i => ?_, fun j => ?_⟩
    · rw [sW1_0, sW_i]
      by_cases c : i = 1600 * r + k
      · rw [if_pos c, if_pos ⟨by omega, by omega⟩, i3, i4, if_neg (by omega), if_neg (by omega), c, show 1600 * r + k - 1600 * r = k by omega]
      · rw [if_neg c, i3]
        by_cases c2 : 1600 * r ≤ i ∧ i < 1600 * r + k
        · rw [if_pos c2, if_pos ⟨c2.1, by omega⟩]
        · rw [if_neg c2, if_neg (by omega)]
    · rw [sW_i]
      by_cases c : j = k
      · rw [if_pos c, if_pos (by omega)]
      · rw [if_neg c, sW0_1, i4]
        by_cases c2 : j < k
        · rw [if_pos c2, if_pos (by omega)]
        · rw [if_neg c2, if_neg (by omega)]
theorem joinM_p {S : MS} {n r a b : Nat} (hn : n ≤ 40) (hj : ∀ j, S.2.2 1 j = false) : frM n r S (joinM S n r a b) ∧ (joinM S n r a b).1 = S.1 ∧ (joinM S n r a b).2.1 = S.2.1 ∧ ∀ x y, x < n → y < n → pM (joinM S n r a b) r x y = jnX (pM S r) a b x y := by
  obtain ⟨i1, i2, i3, i4⟩ := jX_p (S := S) (n := n) (r := r) (a := a) (b := b) n
  obtain ⟨k1, k2, k3, k4⟩ := jK_p (S := jX S n r a b n) (r := r) 1600
  have eJ : joinM S n r a b = jK (jX S n r a b n) r 1600 := rfl
  generalize jK (jX S n r a b n) r 1600 = J at k1 k2 k3 k4 eJ
  have e1 : (joinM S n r a b).1 = S.1 := by rw [eJ]; exact k1.trans i1
  have e2 : (joinM S n r a b).2.1 = S.2.1 := by rw [eJ]; exact k2.trans i2
  have hb : ∀ j, (jX S n r a b n).2.2 1 j = true ↔ ∃ x y, x < n ∧ y < n ∧ pM S r a x = true ∧ pM S r b y = true ∧ (j = 40 * x + y ∨ j = 40 * y + x) := fun j => by
    rw [i4, hj j]; simp
  have hin : ∀ x y, x < 40 → y < 40 → pM (joinM S n r a b) r x y = (pM S r x y || (jX S n r a b n).2.2 1 (40 * x + y)) := fun x y hx hy => by
    rw [eJ]
    show J.2.2 0 (ixP r x y) = _
    rw [k3, if_pos (by unfold ixP; omega), i3, show ixP r x y - 1600 * r = 40 * x + y by unfold ixP; omega]
    rfl
  refine ⟨⟨by rw [e1], fun q j _ _ => by rw [e2], fun j => ?_, fun r' x y hr hx hy => ?_, fun x y hx hy hc => ?_⟩, e1, e2, fun x y hx hy => ?_⟩
  · rw [eJ]
    rw [k4, hj j]
    by_cases c : j < 1600
    · rw [if_pos c]
    · rw [if_neg c]
      cases q : (jX S n r a b n).2.2 1 j with
      | false => rfl
      | true =>
        obtain ⟨x, y, h1, h2, -, -, h5⟩ := (hb j).mp q
        omega
  · rw [eJ]
    show J.2.2 0 (ixP r' x y) = _
    rw [k3, if_neg (by unfold ixP; omega), i3]
    rfl
  · rw [hin x y hx hy]
    cases q : (jX S n r a b n).2.2 1 (40 * x + y) with
    | false => simp
    | true =>
      obtain ⟨x', y', h1, h2, -, -, h5⟩ := (hb _).mp q
      omega
  · rw [hin x y (by omega) (by omega)]
    unfold jnX
    refine congrArg (fun z => pM S r x y || z) ?_
    rw [Bool.eq_iff_iff, hb]
    simp only [Bool.or_eq_true, Bool.and_eq_true]
    constructor
    · rintro ⟨x', y', h1, h2, h3, h4, h5 | h5⟩
      · have ex : x' = x := by omega
        have ey : y' = y := by omega
        subst ex; subst ey
        exact Or.inl ⟨h3, h4⟩
      · have ex : y' = x := by omega
        have ey : x' = y := by omega
        subst ex; subst ey
        exact Or.inr ⟨h4, h3⟩
    · rintro (⟨h3, h4⟩ | ⟨h4, h3⟩)
      · exact ⟨x, y, hx, hy, h3, h4, Or.inl rfl⟩
      · exact ⟨y, x, hy, hx, h3, h4, Or.inr rfl⟩
theorem ptM_p {S : MS} {n r a : Nat} (hn : n ≤ 40) (ha : a < n) : ∀ (k : Nat), k ≤ n → (ptM S r a k).1 = S.1 ∧ (ptM S r a k).2.1 = S.2.1 ∧ (∀ j, (ptM S r a k).2.2 1 j = S.2.2 1 j) ∧ ∀ r' x y, x < 40 → y < 40 → pM (ptM S r a k) r' x y = if r' = r ∧ ((x = a ∧ y < k) ∨ (y = a ∧ x < k)) then decide (x = a) && decide (y = a) else pM S r' x y
  | 0, _ => ⟨rfl, rfl, fun _ => rfl, fun r' x y _ _ => by rw [if_neg (by omega)]; rfl⟩
  | k + 1, hk => by
    obtain ⟨i1, i2, i3, i4⟩ := ptM_p (S := S) (r := r) hn ha k (by omega)
    have e : ptM S r a (k + 1) = sW (sW (ptM S r a k) 0 (ixP r a k) (decide (k = a))) 0 (ixP r k a) (decide (k = a)) := rfl
    rw [e]
    refine ⟨i1, i2, fun j => by rw [sW0_1, sW0_1, i3], fun r' x y hx hy => ?_⟩
    rw [pM_sW (by omega) (by omega) hx hy, pM_sW (by omega) (by omega) hx hy, i4 r' x y hx hy]
    by_cases c1 : r' = r ∧ x = k ∧ y = a
    · rw [if_pos c1, if_pos ⟨c1.1, Or.inr ⟨c1.2.2, by omega⟩⟩, c1.2.1, c1.2.2]
      simp
    · rw [if_neg c1]
      by_cases c2 : r' = r ∧ x = a ∧ y = k
      · rw [if_pos c2, if_pos ⟨c2.1, Or.inl ⟨c2.2.1, by omega⟩⟩, c2.2.1, c2.2.2]
        simp
      · rw [if_neg c2]
        by_cases c3 : r' = r ∧ ((x = a ∧ y < k) ∨ (y = a ∧ x < k))
        · rw [if_pos c3, if_pos (by omega)]
        · rw [if_neg c3, if_neg (by omega)]
