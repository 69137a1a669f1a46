/-! class and model agree -/
def colU (n : Nat) (X : Nat → Nat → Bool) : Prop := ∀ a a' b, a < n → a' < n → b < n → X a b = true → X a' b = true → a = a'
def rowU (n : Nat) (X : Nat → Nat → Bool) : Prop := ∀ a b b', a < n → b < n → b' < n → X a b = true → X a b' = true → b = b'
def symU (n : Nat) (X : Nat → Nat → Bool) : Prop := ∀ a b, a < n → b < n → X a b = X b a
def trnU (n : Nat) (X : Nat → Nat → Bool) : Prop := ∀ a b c, a < n → b < n → c < n → X a b = true → X b c = true → X a c = true
def fOk (f : Int32) (n : Nat) (X : Nat → Nat → Bool) (d : Nat → Bool) : Prop :=
  ((f = nI 0 ∨ f = nI 1) → colU n X) ∧ ((f = nI 0 ∨ f = nI 2 ∨ f = nI 4) → rowU n X) ∧ ((f = nI 4 ∨ f = nI 5) → symU n X) ∧ (f = nI 6 → (∀ a, a < n → X a a = d a) ∧ symU n X ∧ trnU n X)
theorem fOk_congr {f : Int32} {n : Nat} {X Y : Nat → Nat → Bool} {d e : Nat → Bool} (h : ∀ a b, a < n → b < n → X a b = Y a b) (hd : ∀ a, a < n → d a = e a) (k : fOk f n X d) : fOk f n Y e := by
  refine ⟨fun q a a' b h1 h2 h3 e1 e2 => ?_, fun q a b b' h1 h2 h3 e1 e2 => ?_, fun q a b h1 h2 => ?_, fun q => ⟨fun a h1 => ?_, fun a b h1 h2 => ?_, fun a b c h1 h2 h3 e1 e2 => ?_⟩⟩
  · exact k.1 q a a' b h1 h2 h3 (by rw [h a b h1 h3]; exact e1) (by rw [h a' b h2 h3]; exact e2)
  · exact k.2.1 q a b b' h1 h2 h3 (by rw [h a b h1 h2]; exact e1) (by rw [h a b' h1 h3]; exact e2)
  · rw [← h a b h1 h2, ← h b a h2 h1]; exact k.2.2.1 q a b h1 h2
  · rw [← h a a h1 h1, ← hd a h1]; exact (k.2.2.2 q).1 a h1
  · rw [← h a b h1 h2, ← h b a h2 h1]; exact (k.2.2.2 q).2.1 a b h1 h2
  · rw [← h a c h1 h3]; exact (k.2.2.2 q).2.2 a b c h1 h2 h3 (by rw [h a b h1 h2]; exact e1) (by rw [h b c h2 h3]; exact e2)
def dM (M : MS) (r : Nat) : Nat → Bool := fun a => ofM (M.2.1 0 a) (M.2.1 2 r)
def invM (M : MS) (n R : Nat) : Prop := ∀ r, r < R → M.2.1 1 r < nI 10 → fOk (M.2.1 1 r) n (pM M r) (dM M r)
def supM (M : MS) (n R : Nat) : Prop := ∀ r a b, r < R → a < 40 → b < 40 → ¬ (a < n ∧ b < n) → pM M r a b = false
def SmA (S : RS) (M : MS) (R t q : Nat) : Prop := R ≤ 12 ∧ t ≤ R ∧ q ≤ 2 ∧ S.1 0 = nI R ∧ M.1 1 = nI R ∧ S.1 1 = nI t ∧ S.1 2 = nI q ∧ M.1 2 = nI q
def SmB (n : Nat) (S : RS) (M : MS) (q : Nat) : Prop := (∀ a, a < n → S.2.1 0 a = M.2.1 0 a) ∧ (∀ a b, a < n → b < n → S.2.1 1 (a * n + b) = M.2.1 6 (40 * a + b)) ∧ ∀ i, i < q → S.2.1 5 i = M.2.1 4 i ∧ S.2.1 6 i = M.2.1 5 i
def SmC (n : Nat) (S : RS) (M : MS) (R t : Nat) : Prop := eqF S M R ∧ wfN M R ∧ stF S M n R t ∧ supM M n R ∧ (∀ j, M.2.2 1 j = false) ∧ invM M n R
def SmR (n : Nat) (S : RS) (M : MS) (R t q : Nat) : Prop := SmA S M R t q ∧ SmB n S M q ∧ SmC n S M R t
def Sim (n : Nat) (S : RS) (M : MS) : Prop := ∃ R t q, SmR n S M R t q
theorem f_of {M : MS} {R r : Nat} (hw : wfN M R) (hr : r < R) (hf : M.2.1 1 r < nI 10) : ∃ f, f ≤ 6 ∧ M.2.1 1 r = nI f := by
  rcases hw r hr with h | ⟨cn, j, h6, q, -⟩
  · exact h
  · rw [q] at hf
    have := (nI_ltI (by omega) (by decide)).mp hf
    omega
theorem SmR_code {n : Nat} {S : RS} {M : MS} {R t q : Nat} (v : Int32) (h : SmR n S M R t q) : SmR n S (sI M 0 v) R t q := by
  obtain ⟨⟨a1, a2, a3, a4, a5, a6, a7, a8⟩, hB, c⟩ := h
  refine ⟨⟨a1, a2, a3, a4, ?_, a6, a7, ?_⟩, hB, c⟩
  · show upd M.1 0 v 1 = _
    unfold upd
    rw [if_neg (by decide)]; exact a5
  · show upd M.1 0 v 2 = _
    unfold upd
    rw [if_neg (by decide)]; exact a8
theorem SmR_stl {n : Nat} {S : RS} {M : MS} {R t q r : Nat} (hn : n ≤ 40) (h : SmR n S M R t q) (hr : r < R) : SmR n (stlF S n t r) M R (max t (r + 1)) q := by
  obtain ⟨⟨a1, a2, a3, a4, a5, a6, a7, a8⟩, hB, c1, c2, c3, c4, c5, c6⟩ := h
  have e := setF_1 S n t (max t (r + 1) - t)
  have e2 : (stlF S n t r).2.1 = S.2.1 := e.2
  have e1 : (stlF S n t r).1 = upd S.1 1 (nI (max t (r + 1))) := by
    show upd (setF S n t (max t (r + 1) - t)).1 1 _ = _
    rw [e.1]
  refine ⟨⟨a1, by omega, a3, ?_, a5, ?_, ?_, a8⟩, ?_, ?_, c2, stlF_st hn a1 c2 c1 c3 a2 hr, c4, c5, c6⟩
  · rw [e1]; unfold upd; rw [if_neg (by decide)]; exact a4
  · rw [e1]; unfold upd; rw [if_pos rfl]
  · rw [e1]; unfold upd; rw [if_neg (by decide)]; exact a7
  · unfold SmB; rw [e2]; exact hB
  · unfold eqF; rw [e2]; exact c1
theorem dn_congr {M M' : MS} {n R : Nat} (hR : R ≤ 12) (hw : wfN M R) (hF : ∀ r, r < R → M.2.1 1 r = M'.2.1 1 r ∧ M.2.1 2 r = M'.2.1 2 r ∧ M.2.1 3 r = M'.2.1 3 r) (hP : ∀ r, r < R → M.2.1 1 r < nI 10 → ∀ a b, a < n → b < n → pM M r a b = pM M' r a b) {r : Nat} (hr : r < R) (a b : Nat) : dn M n r a b = dn M' n r a b :=
  dnK_congr hR hw hF (fun r hr hf a b => by
    unfold qP
    by_cases ha : a < n
    · by_cases hb : b < n
      · rw [hP r hr hf a b ha hb]
      · simp [hb]
    · simp [ha]) (r + 1) r (by omega) hr 12 12 (by omega) (by omega) a b
theorem joined_lr (M : MS) (n : Nat) : ∀ k j, (lrF M n k).2.2 1 j = M.2.2 1 j := by
  have s : ∀ (P : MS) i v j, (sW P 0 i v).2.2 1 j = P.2.2 1 j := fun P i v j => by show (if 1 = 0 ∧ j = i then v else P.2.2 1 j) = _; rw [if_neg (fun q => absurd q.1 (by decide))]
  have hB : ∀ (P : MS) r f x y a k j, (wB P n r f x y a k).2.2 1 j = P.2.2 1 j := fun P r f x y a k j => by
    induction k with
    | zero => rfl
    | succ k ih => exact (s _ _ _ j).trans ih
  have hA : ∀ (P : MS) r f x y k j, (wA P n r f x y k).2.2 1 j = P.2.2 1 j := fun P r f x y k j => by
    induction k with
    | zero => rfl
    | succ k ih => exact (hB _ _ _ _ _ _ _ j).trans ih
  have hG : ∀ r u a k b (P : MS) j, (faG r u a k b P).2.2 1 j = P.2.2 1 j := fun r u a k => by
    induction k with
    | zero => exact fun b P j => rfl
    | succ k ih =>
      intro b P j
      show (if pM P r a u then faG r u a k (b + 1) (sW P 0 (ixP r a b) (pM P r a b || pM P r u b)) else P).2.2 1 j = _
      split
      · exact (ih _ _ j).trans (s _ _ _ j)
      · rfl
  have h2 : ∀ (P : MS) r u k j, (fa2 P n r u k).2.2 1 j = P.2.2 1 j := fun P r u k j => by
    induction k with
    | zero => rfl
    | succ k ih => exact (hG _ _ _ _ _ _ j).trans ih
  have h3 : ∀ (P : MS) r k j, (fa3 P n r k).2.2 1 j = P.2.2 1 j := fun P r k j => by
    induction k with
    | zero => rfl
    | succ k ih => exact (h2 _ _ _ _ j).trans ih
  intro k j
  induction k with
  | zero => rfl
  | succ k ih =>
    show (if (lrF M n k).2.1 1 k < nI 10 then lrF M n k else workM (lrF M n k) n k).2.2 1 j = _
    split
    · exact ih
    · unfold workM
      split
      · exact (hA _ _ _ _ _ _ j).trans ih
      · exact (h3 _ _ _ j).trans ((hA _ _ _ _ _ _ j).trans ih)
theorem lrF_form {M : MS} {n R k r a b : Nat} (hn : n ≤ 40) (hR : R ≤ 12) (hw : wfN M R) (hk : k ≤ R) (hf : M.2.1 1 r < nI 10) (ha : a < 40) (hb : b < 40) : pM (lrF M n k) r a b = pM M r a b := by
  rw [lrF_p hn hR hw k hk r a b ha hb]
  split
  · rename_i e
    rw [dnK_form hf, qP_in e.1 e.2]
  · rfl
theorem SmR_lr {n : Nat} {S : RS} {M : MS} {R t q k : Nat} (hn : n ≤ 40) (h : SmR n S M R t q) (hk : k ≤ R) : SmR n S (lrF M n k) R t q := by
  obtain ⟨⟨a1, a2, a3, a4, a5, a6, a7, a8⟩, hB, c1, c2, c3, c4, c5, c6⟩ := h
  have e := lrF_1 M n k
  have hdn : ∀ r, r < R → ∀ a b, dn M n r a b = dn (lrF M n k) n r a b := fun r hr a b => dn_congr a1 c2 (fun r _ => by rw [e.2]; exact ⟨rfl, rfl, rfl⟩) (fun r _ hf a b ha hb => (lrF_form hn a1 c2 hk hf (by omega) (by omega)).symm) hr a b
  refine ⟨⟨a1, a2, a3, a4, by rw [e.1]; exact a5, a6, a7, by rw [e.1]; exact a8⟩, by unfold SmB; rw [e.2]; exact hB, by unfold eqF; rw [e.2]; exact c1, by unfold wfN; rw [e.2]; exact c2, ?_, ?_, fun j => by rw [joined_lr]; exact c5 j, ?_⟩
  · intro r hr hq a b ha
    rw [e.2] at hq
    rw [c3 r hr hq a b ha, hdn r hr a b]
  · intro r a b hr ha hb hc
    rw [lrF_p hn a1 c2 k hk r a b ha hb, if_neg hc]
    exact c4 r a b hr ha hb hc
  · intro r hr hf
    rw [e.2] at hf ⊢
    refine fOk_congr (fun a b ha hb => (lrF_form hn a1 c2 hk hf (by omega) (by omega)).symm) (fun a _ => ?_) (c6 r hr hf)
    unfold dM
    rw [e.2]
theorem lr_full {M : MS} {n R r k : Nat} (hn : n ≤ 40) (hR : R ≤ 12) (hw : wfN M R) (hs : supM M n R) (hk : k ≤ R) (hr : r < k) {a b : Nat} (ha : a < 40) (hb : b < 40) : pM (lrF M n k) r a b = dn M n r a b := by
  by_cases e : a < n ∧ b < n
  · exact lrF_dn hn hR hw hk hr e.1 e.2
  · rw [lrF_p hn hR hw k hk r a b ha hb, if_neg e, hs r a b (by omega) ha hb e]
    cases q : dn M n r a b with
    | false => rfl
    | true => exact absurd (dn_mask r a b q) e
theorem SmR_s7 {n : Nat} {S : RS} {M M' : MS} {R t q : Nat} (h : SmR n S M R t q) (f : frS7 M M') : SmR n S M' R t q := by
  obtain ⟨⟨a1, a2, a3, a4, a5, a6, a7, a8⟩, ⟨b1, b2, b3⟩, c1, c2, c3, c4, c5, c6⟩ := h
  obtain ⟨f1, f2, f3⟩ := f
  have ar : ∀ q, ¬ q = 7 → M'.2.1 q = M.2.1 q := fun q hq => funext fun j => f2 q j hq
  have hp : pM M' = pM M := by funext r a b; unfold pM; rw [f3]
  have hd : dn M' n = dn M n := by unfold dn qP; rw [hp, ar 1 (by decide), ar 2 (by decide), ar 3 (by decide)]
  refine ⟨⟨a1, a2, a3, a4, by rw [f1]; exact a5, a6, a7, by rw [f1]; exact a8⟩, ⟨by rw [ar 0 (by decide)]; exact b1, by rw [ar 6 (by decide)]; exact b2, by rw [ar 4 (by decide), ar 5 (by decide)]; exact b3⟩, ?_, ?_, ?_, ?_, by rw [f3]; exact c5, ?_⟩
  · unfold eqF; rw [ar 1 (by decide), ar 2 (by decide), ar 3 (by decide)]; exact c1
  · unfold wfN; rw [ar 1 (by decide), ar 2 (by decide), ar 3 (by decide)]; exact c2
  · unfold stF; rw [ar 1 (by decide), hd]; exact c3
  · unfold supM; rw [hp]; exact c4
  · unfold invM dM; rw [hp, ar 0 (by decide), ar 1 (by decide), ar 2 (by decide)]; exact c6
theorem SmR_x7 {n : Nat} {S S' : RS} {M : MS} {R t q : Nat} (h : SmR n S M R t q) (f : frX7 S S') : SmR n S' M R t q := by
  obtain ⟨⟨a1, a2, a3, a4, a5, a6, a7, a8⟩, ⟨b1, b2, b3⟩, c1, c2, c3, c4, c5, c6⟩ := h
  obtain ⟨f1, f2, f3⟩ := f
  have ar : ∀ q, ¬ q = 7 → S'.2.1 q = S.2.1 q := fun q hq => funext fun j => f2 q j hq
  refine ⟨⟨a1, a2, a3, by rw [f1]; exact a4, a5, by rw [f1]; exact a6, by rw [f1]; exact a7, a8⟩, ⟨by rw [ar 0 (by decide)]; exact b1, by rw [ar 1 (by decide)]; exact b2, by rw [ar 5 (by decide), ar 6 (by decide)]; exact b3⟩, ?_, c2, ?_, c4, c5, c6⟩
  · unfold eqF; rw [ar 2 (by decide), ar 3 (by decide), ar 4 (by decide)]; exact c1
  · unfold stF rIs; rw [f3]; exact c3
/-! what a change of one relation keeps -/
def frS (r : Nat) (S S' : RS) : Prop := S'.1 0 = S.1 0 ∧ S'.1 1 = S.1 1 ∧ (∀ q j, ¬ q = 5 → ¬ q = 6 → S'.2.1 q j = S.2.1 q j) ∧ ∀ r' a, ¬ r' = r → S'.2.2 r' a = S.2.2 r' a
def frM (n r : Nat) (M M' : MS) : Prop := M'.1 1 = M.1 1 ∧ (∀ q j, ¬ q = 4 → ¬ q = 5 → M'.2.1 q j = M.2.1 q j) ∧ (∀ j, M'.2.2 1 j = M.2.2 1 j) ∧ (∀ r' a b, ¬ r' = r → a < 40 → b < 40 → pM M' r' a b = pM M r' a b) ∧ ∀ a b, a < 40 → b < 40 → ¬ (a < n ∧ b < n) → pM M' r a b = pM M r a b
theorem frS_rf (r : Nat) (S : RS) : frS r S S := ⟨rfl, rfl, fun _ _ _ _ => rfl, fun _ _ _ => rfl⟩
theorem frS_tr {r : Nat} {S S' S'' : RS} (h : frS r S S') (k : frS r S' S'') : frS r S S'' := ⟨k.1.trans h.1, k.2.1.trans h.2.1, fun q j h1 h2 => (k.2.2.1 q j h1 h2).trans (h.2.2.1 q j h1 h2), fun r' a hr => (k.2.2.2 r' a hr).trans (h.2.2.2 r' a hr)⟩
theorem frM_rf (n r : Nat) (M : MS) : frM n r M M := ⟨rfl, fun _ _ _ _ => rfl, fun _ => rfl, fun _ _ _ _ _ _ => rfl, fun _ _ _ _ _ => rfl⟩
theorem frM_tr {n r : Nat} {S S' S'' : MS} (h : frM n r S S') (k : frM n r S' S'') : frM n r S S'' := ⟨k.1.trans h.1, fun q j h1 h2 => (k.2.1 q j h1 h2).trans (h.2.1 q j h1 h2), fun j => (k.2.2.1 j).trans (h.2.2.1 j), fun r' a b hr h1 h2 => (k.2.2.2.1 r' a b hr h1 h2).trans (h.2.2.2.1 r' a b hr h1 h2), fun a b h1 h2 h3 => (k.2.2.2.2 a b h1 h2 h3).trans (h.2.2.2.2 a b h1 h2 h3)⟩
theorem SmR_wr {n : Nat} {S S' : RS} {M M' : MS} {R t q q' r : Nat} (hn : n ≤ 40) (h : SmR n S M R t q) (hr : r < R) (hf : M.2.1 1 r < nI 10) (fS : frS r S S') (fM : frM n r M M') (h2 : q' ≤ 2) (s2 : S'.1 2 = nI q') (m2 : M'.1 2 = nI q') (hp : ∀ i, i < q' → S'.2.1 5 i = M'.2.1 4 i ∧ S'.2.1 6 i = M'.2.1 5 i) (hrow : rIs S' n r (qP M' n r)) (hok : fOk (M.2.1 1 r) n (pM M' r) (dM M r)) : SmR n (sI S' 1 (nI (min t (r + 1)))) M' R (min t (r + 1)) q' := by
  obtain ⟨⟨a1, a2, a3, a4, a5, a6, a7, a8⟩, ⟨b1, b2, b3⟩, c1, c2, c3, c4, c5, c6⟩ := h
  obtain ⟨f1, f2, f3, f4⟩ := fS
  obtain ⟨g1, g2, g3, g4, g5⟩ := fM
  have ax : ∀ q, ¬ q = 5 → ¬ q = 6 → S'.2.1 q = S.2.1 q := fun q e1 e2 => funext fun j => f3 q j e1 e2
  have am : ∀ q, ¬ q = 4 → ¬ q = 5 → M'.2.1 q = M.2.1 q := fun q e1 e2 => funext fun j => g2 q j e1 e2
  have m1 := am 1 (by decide) (by decide)
  have m2' := am 2 (by decide) (by decide)
  have m3 := am 3 (by decide) (by decide)
  have iv : ∀ k, ¬ k = 1 → (sI S' 1 (nI (min t (r + 1)))).1 k = S'.1 k := fun k hk => by show upd S'.1 1 _ k = _; unfold upd; rw [if_neg hk]
  have iv1 : (sI S' 1 (nI (min t (r + 1)))).1 1 = nI (min t (r + 1)) := by
    show (if 1 = 1 then nI (min t (r + 1)) else S'.1 1) = _
    rw [if_pos rfl]
  refine ⟨⟨a1, by omega, h2, by rw [iv 0 (by decide), f1]; exact a4, by rw [g1]; exact a5, iv1, by rw [iv 2 (by decide)]; exact s2, m2⟩, ⟨?_, ?_, hp⟩, ?_, ?_, ?_, ?_, fun j => by rw [g3]; exact c5 j, ?_⟩
  · show ∀ a, a < n → S'.2.1 0 a = _
    rw [ax 0 (by decide) (by decide), am 0 (by decide) (by decide)]; exact b1
  · show ∀ a b, a < n → b < n → S'.2.1 1 (a * n + b) = _
    rw [ax 1 (by decide) (by decide), am 6 (by decide) (by decide)]; exact b2
  · show ∀ r, r < R → S'.2.1 2 r = _ ∧ S'.2.1 3 r = _ ∧ S'.2.1 4 r = _
    rw [ax 2 (by decide) (by decide), ax 3 (by decide) (by decide), ax 4 (by decide) (by decide), m1, m2', m3]; exact c1
  · unfold wfN; rw [m1, m2', m3]; exact c2
  · intro r' hr' hq
    rw [m1] at hq
    by_cases e : r' = r
    · subst e
      intro a b ha
      rw [dn_form (by rw [m1]; exact hf)]
      exact hrow a b ha
    · intro a b ha
      show tb (S'.2.2 r' a) b = _
      rw [f4 r' a e]
      by_cases hlt : r' < r
      · have hw' : wfN M r := fun x hx => c2 x (by omega)
        rw [← dn_congr (M := M) (M' := M') (R := r) (by omega) hw' (fun x _ => ⟨by rw [m1], by rw [m2'], by rw [m3]⟩) (fun x hx _ a b ha hb => (g4 x a b (by omega) (by omega) (by omega)).symm) hlt a b]
        refine c3 r' hr' ?_ a b ha
        rcases hq with q | q
        · exact Or.inl q
        · exact Or.inr (by omega)
      · have hf' : M.2.1 1 r' < nI 10 := by
          rcases hq with q | q
          · exact q
          · omega
        rw [dn_form (by rw [m1]; exact hf'), c3 r' hr' (Or.inl hf') a b ha, dn_form hf']
        unfold qP
        by_cases hb : b < n
        · rw [g4 r' a b e (by omega) (by omega)]
        · simp [hb]
  · intro r' a b hr' ha hb hc
    by_cases e : r' = r
    · subst e
      rw [g5 a b ha hb hc]; exact c4 r' a b hr' ha hb hc
    · rw [g4 r' a b e ha hb]; exact c4 r' a b hr' ha hb hc
  · intro r' hr' hf'
    have hd : dM M' r' = dM M r' := by unfold dM; rw [am 0 (by decide) (by decide), m2']
    rw [hd]
    rw [m1] at hf' ⊢
    by_cases e : r' = r
    · subst e; exact hok
    · exact fOk_congr (fun a b ha hb => (g4 r' a b e (by omega) (by omega)).symm) (fun _ _ => rfl) (c6 r' hr' hf')
/-! pushing out -/
theorem sI_ne {α : Type} {S : (Nat → Int32) × α} {k j : Nat} {v : Int32} (h : ¬ j = k) : (sI S k v).1 j = S.1 j := by
  show (if j = k then v else S.1 j) = _
  rw [if_neg h]
theorem sI_at {α : Type} {S : (Nat → Int32) × α} {k : Nat} {v : Int32} : (sI S k v).1 k = v := by
  show (if k = k then v else S.1 k) = _
  rw [if_pos rfl]
def clrX (bo : Bool) (X : Nat → Nat → Bool) (a b x y : Nat) : Bool := X x y && (!(decide (x = a) && decide (y = b)) && !(bo && (decide (x = b) && decide (y = a))))
def setX (bo : Bool) (X : Nat → Nat → Bool) (a b x y : Nat) : Bool := X x y || ((decide (x = a) && decide (y = b)) || (bo && (decide (x = b) && decide (y = a))))
def rClr (bo : Bool) (X : Nat → Nat → Bool) (a x y : Nat) : Bool := X x y && (!decide (x = a) && !(bo && decide (y = a)))
def cClr (X : Nat → Nat → Bool) (b x y : Nat) : Bool := X x y && !decide (y = b)
def mkX (n : Nat) (X : Nat → Nat → Bool) : Prop := ∀ a b, X a b = true → a < n ∧ b < n
def Psy (n r : Nat) (f : Int32) (S0 S : RS) (M0 M : MS) (q : Nat) (X : Nat → Nat → Bool) : Prop :=
  frS r S0 S ∧ frM n r M0 M ∧ S.1 2 = nI q ∧ M.1 2 = nI q ∧ (∀ i, i < q → S.2.1 5 i = M.2.1 4 i ∧ S.2.1 6 i = M.2.1 5 i) ∧ rIs S n r X ∧ (∀ a b, a < n → b < n → pM M r a b = X a b) ∧ mkX n X ∧ S.2.1 2 r = f ∧ M.2.1 1 r = f
def boF (f : Int32) : Bool := decide (f = nI 4) || decide (f = nI 5)
theorem nbit_tb {v : Int64} {b : Nat} (hb : b < 64) (i : Nat) : tb (nbit v b) i = (tb v i && !decide (i = b)) := by
  unfold nbit
  rw [tb_and, tb_xor, tb_bit hb]
  by_cases h : i < 64
  · rw [tb_m1 i h]; simp
  · rw [tb_big (x := v) (by omega)]; simp
theorem partF_x {S : RS} {n r a b : Nat} {f : Int32} {X : Nat → Nat → Bool} (hn : n ≤ 40) (hf : S.2.1 2 r = f) (h6 : ¬ f = nI 6) (ha : a < n) (hb : b < n) (kX : rIs S n r X) : frS r S (partF S n r a b) ∧ (partF S n r a b).2.1 = S.2.1 ∧ (partF S n r a b).1 = S.1 ∧ rIs (partF S n r a b) n r (clrX (boF f) X a b) := by
  have e1 := partF_1 S n r a b
  have hbo : bothW S r = boF f := by unfold bothW boF; rw [hf]
  have rows : (∀ r' x, ¬ r' = r → (partF S n r a b).2.2 r' x = S.2.2 r' x) ∧ rIs (partF S n r a b) n r (clrX (boF f) X a b) := by
    unfold partF
    rw [if_neg (by rw [hf]; exact h6), hbo]
    cases ho : boF f with
    | false =>
      rw [if_neg (by decide)]
      refine ⟨fun r' x hr => ?_, fun x y hx => ?_⟩
      · show (if r' = r ∧ x = a then _ else S.2.2 r' x) = _
        rw [if_neg (fun q => hr q.1)]
      · show tb (if r = r ∧ x = a then nbit (S.2.2 r a) b else S.2.2 r x) y = _
        unfold clrX
        by_cases e : x = a
        · subst e
          rw [if_pos ⟨rfl, rfl⟩, nbit_tb (by omega), kX x y hx]; simp
        · rw [if_neg (fun q => e q.2), kX x y hx]; simp [e]
    | true =>
      rw [if_pos rfl]
      refine ⟨fun r' x hr => ?_, fun x y hx => ?_⟩
      · show (if r' = r ∧ x = b then _ else (if r' = r ∧ x = a then _ else S.2.2 r' x)) = _
        rw [if_neg (fun q => hr q.1), if_neg (fun q => hr q.1)]
      · show tb (if r = r ∧ x = b then nbit (if r = r ∧ b = a then nbit (S.2.2 r a) b else S.2.2 r b) a else (if r = r ∧ x = a then nbit (S.2.2 r a) b else S.2.2 r x)) y = _
        unfold clrX
        by_cases e : x = b
        · subst e
          rw [if_pos ⟨rfl, rfl⟩, nbit_tb (by omega)]
          by_cases e2 : x = a
          · subst e2
            rw [if_pos ⟨rfl, rfl⟩, nbit_tb (by omega), kX x y hx]
            cases X x y <;> by_cases q : y = x <;> simp [q]
          · rw [if_neg (fun q => e2 q.2), kX x y hx]; simp [e2]
        · rw [if_neg (fun q => e q.2)]
          by_cases e2 : x = a
          · subst e2
            rw [if_pos ⟨rfl, rfl⟩, nbit_tb (by omega), kX x y hx]; simp [e]
          · rw [if_neg (fun q => e2 q.2), kX x y hx]; simp [e, e2]
  exact ⟨⟨by rw [e1.1], by rw [e1.1], fun q j _ _ => by rw [e1.2], rows.1⟩, e1.2, e1.1, rows.2⟩
theorem putM_x {M : MS} {n r a b : Nat} {f : Int32} {v : Bool} (hn : n ≤ 40) (hf : M.2.1 1 r = f) (ha : a < n) (hb : b < n) : frM n r M (putM M r a b v) ∧ (putM M r a b v).2.1 = M.2.1 ∧ (putM M r a b v).1 = M.1 ∧ ∀ x y, x < 40 → y < 40 → pM (putM M r a b v) r x y = if (x = a ∧ y = b) ∨ (boF f = true ∧ x = b ∧ y = a) then v else pM M r x y := by
  have e1 := putM_1 M r a b v
  have hbo : bothM M r = boF f := by unfold bothM boF; rw [hf]
  have s : ∀ (P : MS) i v j, (sW P 0 i v).2.2 1 j = P.2.2 1 j := fun P i v j => by show (if 1 = 0 ∧ j = i then v else P.2.2 1 j) = _; rw [if_neg (fun q => absurd q.1 (by decide))]
  have hp : ∀ r' x y, x < 40 → y < 40 → pM (putM M r a b v) r' x y = if r' = r ∧ ((x = a ∧ y = b) ∨ (boF f = true ∧ x = b ∧ y = a)) then v else pM M r' x y := fun r' x y hx hy => by
    unfold putM
    rw [hbo]
    cases ho : boF f with
    | false =>
      rw [if_neg (by decide), pM_sW (by omega) (by omega) hx hy]
      by_cases c : r' = r ∧ x = a ∧ y = b
      · rw [if_pos c, if_pos ⟨c.1, Or.inl c.2⟩]
      · rw [if_neg c, if_neg]
        rintro ⟨q1, q2 | q2⟩
        · exact c ⟨q1, q2⟩
        · exact absurd q2.1 (by decide)
    | true =>
      rw [if_pos rfl, pM_sW (by omega) (by omega) hx hy, pM_sW (by omega) (by omega) hx hy]
      by_cases c : r' = r ∧ x = b ∧ y = a
      · rw [if_pos c, if_pos ⟨c.1, Or.inr ⟨rfl, c.2⟩⟩]
      · rw [if_neg c]
        by_cases c2 : r' = r ∧ x = a ∧ y = b
        · rw [if_pos c2, if_pos ⟨c2.1, Or.inl c2.2⟩]
        · rw [if_neg c2, if_neg]
          rintro ⟨q1, q2 | q2⟩
          · exact c2 ⟨q1, q2⟩
          · exact c ⟨q1, q2.2⟩
  have hj : ∀ j, (putM M r a b v).2.2 1 j = M.2.2 1 j := fun j => by
    unfold putM
    split
    · rw [s, s]
    · rw [s]
  refine ⟨⟨by rw [e1.1], fun q j _ _ => by rw [e1.2], hj, fun r' x y hr hx hy => ?_, fun x y hx hy hc => ?_⟩, e1.2, e1.1, fun x y hx hy => ?_⟩
  · rw [hp r' x y hx hy, if_neg (fun q => hr q.1)]
  · rw [hp r x y hx hy, if_neg]
    rintro ⟨-, q | q⟩ <;> omega
  · rw [hp r x y hx hy]
    by_cases c : (x = a ∧ y = b) ∨ (boF f = true ∧ x = b ∧ y = a)
    · rw [if_pos c, if_pos ⟨rfl, c⟩]
    · rw [if_neg c, if_neg (fun q => c q.2)]
theorem clrX_mk {n : Nat} {bo : Bool} {X : Nat → Nat → Bool} (m : mkX n X) (a b : Nat) : mkX n (clrX bo X a b) := fun x y h => by
  unfold clrX at h
  simp only [Bool.and_eq_true] at h
  exact m x y h.1
theorem push1 {n r : Nat} {f : Int32} {S0 S : RS} {M0 M : MS} {q : Nat} {X : Nat → Nat → Bool} (hn : n ≤ 40) (h6 : ¬ f = nI 6) (h : Psy n r f S0 S M0 M q X) (hq : q < 2) {a b : Nat} (ha : a < n) (hb : b < n) : Psy n r f S0 (pushPF S n r a b) M0 (pushM M r a b) (q + 1) (clrX (boF f) X a b) := by
  obtain ⟨p1, p2, p3, p4, p5, p6, p7, p8, p9, p10⟩ := h
  obtain ⟨x1, x2, x3, x4⟩ := partF_x hn p9 h6 ha hb p6
  obtain ⟨y1, y2, y3, y4⟩ := putM_x (v := false) hn p10 ha hb
  have eS : pushPF S n r a b = sI (sA (sA (partF S n r a b) 5 q (nI a)) 6 q (nI b)) 2 (nI (q + 1)) := by
    unfold pushPF
    rw [p3, if_neg (nI_ge hq (by decide)), ixN_nI (by omega)]
  have eM : pushM M r a b = sI (sA (sA (putM M r a b false) 4 q (nI a)) 5 q (nI b)) 2 (nI (q + 1)) := by
    unfold pushM
    rw [p4, ixN_nI (by omega)]
  rw [eS, eM]
  refine ⟨frS_tr p1 (frS_tr x1 ⟨?_, ?_, fun w j h1 h2 => ?_, fun _ _ _ => rfl⟩), frM_tr p2 (frM_tr y1 ⟨?_, fun w j h1 h2 => ?_, fun _ => rfl, fun _ _ _ _ _ _ => rfl, fun _ _ _ _ _ => rfl⟩), ?_, ?_, fun i hi => ?_, x4, fun x y hx hy => ?_, clrX_mk p8 a b, ?_, ?_⟩
  · exact sI_ne (by decide)
  · exact sI_ne (by decide)
  · show (if w = 6 ∧ j = q then nI b else (if w = 5 ∧ j = q then nI a else (partF S n r a b).2.1 w j)) = _
    rw [if_neg (fun e => h2 e.1), if_neg (fun e => h1 e.1)]
  · exact sI_ne (by decide)
  · show (if w = 5 ∧ j = q then nI b else (if w = 4 ∧ j = q then nI a else (putM M r a b false).2.1 w j)) = _
    rw [if_neg (fun e => h2 e.1), if_neg (fun e => h1 e.1)]
  · exact sI_at
  · exact sI_at
  · show (if 5 = 6 ∧ i = q then nI b else (if 5 = 5 ∧ i = q then nI a else (partF S n r a b).2.1 5 i)) = (if 4 = 5 ∧ i = q then nI b else (if 4 = 4 ∧ i = q then nI a else (putM M r a b false).2.1 4 i)) ∧ (if 6 = 6 ∧ i = q then nI b else (if 6 = 5 ∧ i = q then nI a else (partF S n r a b).2.1 6 i)) = (if 5 = 5 ∧ i = q then nI b else (if 5 = 4 ∧ i = q then nI a else (putM M r a b false).2.1 5 i))
    rw [x2, y2]
    by_cases e : i = q
    · simp [e]
    · simp only [e, and_false, if_false]
      exact p5 i (by omega)
  · have := y4 x y (by omega) (by omega)
    refine Eq.trans this ?_
    unfold clrX
    rw [p7 x y hx hy]
    by_cases c : (x = a ∧ y = b) ∨ (boF f = true ∧ x = b ∧ y = a)
    · rw [if_pos c]
      rcases c with ⟨c1, c2⟩ | ⟨c0, c1, c2⟩
      · simp [c1, c2]
      · simp [c0, c1, c2]
    · rw [if_neg c]
      cases X x y with
      | false => rfl
      | true =>
        simp only [Bool.true_and]
        symm
        simp only [Bool.and_eq_true, Bool.not_eq_true', Bool.and_eq_false_iff, decide_eq_false_iff_not]
        constructor
        · by_cases e1 : x = a
          · exact Or.inr (fun e2 => c (Or.inl ⟨e1, e2⟩))
          · exact Or.inl e1
        · cases e0 : boF f with
          | false => exact Or.inl rfl
          | true =>
            refine Or.inr ?_
            by_cases e1 : x = b
            · exact Or.inr (fun e2 => c (Or.inr ⟨e0, e1, e2⟩))
            · exact Or.inl e1
  · show (if 2 = 6 ∧ r = q then nI b else (if 2 = 5 ∧ r = q then nI a else (partF S n r a b).2.1 2 r)) = _
    rw [if_neg (fun e => absurd e.1 (by decide)), if_neg (fun e => absurd e.1 (by decide)), x2]; exact p9
  · show (if 1 = 5 ∧ r = q then nI b else (if 1 = 4 ∧ r = q then nI a else (putM M r a b false).2.1 1 r)) = _
    rw [if_neg (fun e => absurd e.1 (by decide)), if_neg (fun e => absurd e.1 (by decide)), y2]; exact p10
theorem rowPush {n r : Nat} {f : Int32} {S0 S : RS} {M0 M : MS} {q : Nat} {X : Nat → Nat → Bool} (hn : n ≤ 40) (h6 : ¬ f = nI 6) (h : Psy n r f S0 S M0 M q X) (hq : q < 2) {a : Nat} (ha : a < n) (hu : rowU n X) : ∀ (k : Nat), k ≤ n → ((∀ j, j < k → X a j = false) ∧ Psy n r f S0 (pushRF S n r a k) M0 (prM M r a k) q X) ∨ (∃ j, j < k ∧ X a j = true ∧ Psy n r f S0 (pushRF S n r a k) M0 (prM M r a k) (q + 1) (clrX (boF f) X a j))
  | 0, _ => Or.inl ⟨fun j hj => by omega, h⟩
  | k + 1, hk => by
    rcases rowPush hn h6 h hq ha hu k (by omega) with ⟨i1, i2⟩ | ⟨j, hj, i1, i2⟩
    · have eS : pushRF S n r a (k + 1) = if X a k then pushPF (pushRF S n r a k) n r a k else pushRF S n r a k := by
        show (if tb ((pushRF S n r a k).2.2 r a) k then _ else _) = _
        rw [i2.2.2.2.2.2.1 a k ha]
      have eM : prM M r a (k + 1) = if X a k then pushM (prM M r a k) r a k else prM M r a k := by
        show (if pM (prM M r a k) r a k then _ else _) = _
        rw [i2.2.2.2.2.2.2.1 a k ha (by omega)]
      rw [eS, eM]
      cases e : X a k with
      | true =>
        rw [if_pos rfl, if_pos rfl]
        exact Or.inr ⟨k, by omega, e, push1 hn h6 i2 hq ha (by omega)⟩
      | false =>
        rw [if_neg (by decide), if_neg (by decide)]
        refine Or.inl ⟨fun j hj => ?_, i2⟩
        by_cases ej : j = k
        · subst ej; exact e
        · exact i1 j (by omega)
    · have hz : clrX (boF f) X a j a k = false := by
        unfold clrX
        cases e : X a k with
        | false => rfl
        | true => exact absurd (hu a j k ha (by omega) (by omega) i1 e) (by omega)
      have eS : pushRF S n r a (k + 1) = pushRF S n r a k := by
        show (if tb ((pushRF S n r a k).2.2 r a) k then _ else _) = _
        rw [i2.2.2.2.2.2.1 a k ha, hz, if_neg (by decide)]
      have eM : prM M r a (k + 1) = prM M r a k := by
        show (if pM (prM M r a k) r a k then _ else _) = _
        rw [i2.2.2.2.2.2.2.1 a k ha (by omega), hz, if_neg (by decide)]
      rw [eS, eM]
      exact Or.inr ⟨j, by omega, i1, i2⟩
theorem colPush {n r : Nat} {f : Int32} {S0 S : RS} {M0 M : MS} {q : Nat} {X : Nat → Nat → Bool} (hn : n ≤ 40) (h6 : ¬ f = nI 6) (hbo : boF f = false) (h : Psy n r f S0 S M0 M q X) (hq : q < 2) {b : Nat} (hb : b < n) (hu : colU n X) : ∀ (k : Nat), k ≤ n → ((∀ j, j < k → X j b = false) ∧ Psy n r f S0 (pushCF S n r b k) M0 (pcM M r b k) q X) ∨ (∃ j, j < k ∧ X j b = true ∧ Psy n r f S0 (pushCF S n r b k) M0 (pcM M r b k) (q + 1) (clrX (boF f) X j b))
  | 0, _ => Or.inl ⟨fun j hj => by omega, h⟩
  | k + 1, hk => by
    rcases colPush hn h6 hbo h hq hb hu k (by omega) with ⟨i1, i2⟩ | ⟨j, hj, i1, i2⟩
    · have eS : pushCF S n r b (k + 1) = if X k b then pushPF (pushCF S n r b k) n r k b else pushCF S n r b k := by
        show (if tb ((pushCF S n r b k).2.2 r k) b then _ else _) = _
        rw [i2.2.2.2.2.2.1 k b (by omega)]
      have eM : pcM M r b (k + 1) = if X k b then pushM (pcM M r b k) r k b else pcM M r b k := by
        show (if pM (pcM M r b k) r k b then _ else _) = _
        rw [i2.2.2.2.2.2.2.1 k b (by omega) hb]
      rw [eS, eM]
      cases e : X k b with
      | true =>
        rw [if_pos rfl, if_pos rfl]
        exact Or.inr ⟨k, by omega, e, push1 hn h6 i2 hq (by omega) hb⟩
      | false =>
        rw [if_neg (by decide), if_neg (by decide)]
        refine Or.inl ⟨fun j hj => ?_, i2⟩
        by_cases ej : j = k
        · subst ej; exact e
        · exact i1 j (by omega)
    · have hz : clrX (boF f) X j b k b = false := by
        unfold clrX
        cases e : X k b with
        | false => rfl
        | true => exact absurd (hu j k b (by omega) (by omega) hb i1 e) (by omega)
      have eS : pushCF S n r b (k + 1) = pushCF S n r b k := by
        show (if tb ((pushCF S n r b k).2.2 r k) b then _ else _) = _
        rw [i2.2.2.2.2.2.1 k b (by omega), hz, if_neg (by decide)]
      have eM : pcM M r b (k + 1) = pcM M r b k := by
        show (if pM (pcM M r b k) r k b then _ else _) = _
        rw [i2.2.2.2.2.2.2.1 k b (by omega) hb, hz, if_neg (by decide)]
      rw [eS, eM]
      exact Or.inr ⟨j, by omega, i1, i2⟩
theorem Psy_to {n r : Nat} {f : Int32} {S0 S : RS} {M0 M : MS} {q : Nat} {X Y : Nat → Nat → Bool} (h : Psy n r f S0 S M0 M q X) (e : ∀ x y, X x y = Y x y) : Psy n r f S0 S M0 M q Y := by
  have : X = Y := funext fun x => funext fun y => e x y
  rw [← this]; exact h
theorem rowPush' {n r : Nat} {f : Int32} {S0 S : RS} {M0 M : MS} {q : Nat} {X : Nat → Nat → Bool} (hn : n ≤ 40) (h6 : ¬ f = nI 6) (h : Psy n r f S0 S M0 M q X) (hq : q < 2) {a : Nat} (ha : a < n) (hu : rowU n X) (hs : boF f = true → symU n X) : ∃ q', q' ≤ q + 1 ∧ Psy n r f S0 (pushRF S n r a n) M0 (prM M r a n) q' (rClr (boF f) X a) := by
  have m := h.2.2.2.2.2.2.2.1
  rcases rowPush hn h6 h hq ha hu n (Nat.le_refl n) with ⟨i1, i2⟩ | ⟨j, hj, i1, i2⟩
  · refine ⟨q, by omega, Psy_to i2 (fun x y => ?_)⟩
    unfold rClr
    cases e : X x y with
    | false => rfl
    | true =>
      obtain ⟨hx, hy⟩ := m x y e
      have c1 : ¬ x = a := fun q => by rw [q, i1 y hy] at e; exact absurd e (by decide)
      cases e0 : boF f with
      | false => simp [c1]
      | true =>
        have c2 : ¬ y = a := fun q => by
          rw [hs e0 x y hx hy, q, i1 x hx] at e
          exact absurd e (by decide)
        simp [c1, c2]
  · refine ⟨q + 1, by omega, Psy_to i2 (fun x y => ?_)⟩
    unfold rClr clrX
    cases e : X x y with
    | false => rfl
    | true =>
      obtain ⟨hx, hy⟩ := m x y e
      simp only [Bool.true_and]
      have c1 : (decide (x = a) && decide (y = j)) = decide (x = a) := by
        by_cases q : x = a
        · subst q
          have := hu x y j hx hy (by omega) e i1
          simp [this]
        · simp [q]
      rw [c1]
      cases e0 : boF f with
      | false => simp
      | true =>
        have c2 : (decide (x = j) && decide (y = a)) = decide (y = a) := by
          by_cases q : y = a
          · subst q
            rw [hs e0 x y hx hy] at e
            have := hu y x j hy hx (by omega) e i1
            simp [this]
          · simp [q]
        rw [c2]
theorem colPush' {n r : Nat} {f : Int32} {S0 S : RS} {M0 M : MS} {q : Nat} {X : Nat → Nat → Bool} (hn : n ≤ 40) (h6 : ¬ f = nI 6) (hbo : boF f = false) (h : Psy n r f S0 S M0 M q X) (hq : q < 2) {b : Nat} (hb : b < n) (hu : colU n X) : ∃ q', q' ≤ q + 1 ∧ Psy n r f S0 (pushCF S n r b n) M0 (pcM M r b n) q' (cClr X b) := by
  have m := h.2.2.2.2.2.2.2.1
  rcases colPush hn h6 hbo h hq hb hu n (Nat.le_refl n) with ⟨i1, i2⟩ | ⟨j, hj, i1, i2⟩
  · refine ⟨q, by omega, Psy_to i2 (fun x y => ?_)⟩
    unfold cClr
    cases e : X x y with
    | false => rfl
    | true =>
      obtain ⟨hx, hy⟩ := m x y e
      have c1 : ¬ y = b := fun q => by rw [q, i1 x hx] at e; exact absurd e (by decide)
      simp [c1]
  · refine ⟨q + 1, by omega, Psy_to i2 (fun x y => ?_)⟩
    unfold cClr clrX
    rw [hbo]
    cases e : X x y with
    | false => rfl
    | true =>
      obtain ⟨hx, hy⟩ := m x y e
      simp only [Bool.true_and, Bool.false_and, Bool.not_false, Bool.and_true]
      congr 1
      by_cases q : y = b
      · subst q
        have := hu x j y hx (by omega) hy e i1
        simp [this]
      · simp [q]
