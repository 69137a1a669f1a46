/-! counts -/
def cnt2 (X : Nat → Nat → Bool) : Nat → Nat
  | 0 => 0
  | k + 1 => cnt2 X k + cntB (X k) 40
theorem cnt2_congr {X Y : Nat → Nat → Bool} : ∀ (k : Nat), (∀ a b, a < k → b < 40 → X a b = Y a b) → cnt2 X k = cnt2 Y k
  | 0, _ => rfl
  | k + 1, h => by
    show cnt2 X k + _ = cnt2 Y k + _
    rw [cnt2_congr k (fun a b ha hb => h a b (by omega) hb), cntB_congr 40 (fun i hi => h k i (by omega) hi)]
theorem cnt2_up {X : Nat → Nat → Bool} {n : Nat} (h : ∀ a b, ¬ a < n → X a b = false) : ∀ (k : Nat), cnt2 X (n + k) = cnt2 X n
  | 0 => rfl
  | k + 1 => by
    show cnt2 X (n + k) + cntB (X (n + k)) 40 = _
    rw [cnt2_up h k, cntB_f 40 (fun i _ => h (n + k) i (by omega))]
    rfl
theorem cntB_64 {v : Int64} {f : Nat → Bool} {n : Nat} (hn : n ≤ 40) (h : ∀ b, tb v b = f b) (hf : ∀ b, ¬ b < n → f b = false) : cntB (tb v) 64 = cntB f 40 := by
  rw [cntB_congr 64 (fun i _ => h i), show 64 = 40 + 24 from rfl, cntB_add f 40 24, cntB_f 24 (fun i _ => hf (40 + i) (by omega))]
  rfl
theorem pairsF_n {S : RS} {n r : Nat} {X : Nat → Nat → Bool} (hn : n ≤ 40) (kX : rIs S n r X) (mX : ∀ a b, X a b = true → a < n ∧ b < n) : ∀ (k : Nat), k ≤ n → pairsF S r k = nI (cnt2 X k)
  | 0, _ => rfl
  | k + 1, hk => by
    show pairsF S r k + popL (S.2.2 r k) = nI (cnt2 X k + cntB (X k) 40)
    rw [pairsF_n hn kX mX k (by omega), popL_nat, cntB_64 hn (fun b => kX k b (by omega)) (fun b hb => by
      cases e : X k b with
      | false => rfl
      | true => exact absurd (mX k b e).2 hb), nI_add]
theorem cnM_n (M : MS) (r : Nat) : ∀ k, cnM M r k = nI (cntB (fun i => M.2.2 0 (1600 * r + i)) k)
  | 0 => rfl
  | k + 1 => by
    show cnM M r k + (if M.2.2 0 (1600 * r + k) then nI 1 else nI 0) = nI (cntB _ k + (if M.2.2 0 (1600 * r + k) then 1 else 0))
    rw [cnM_n M r k, ← nI_add]
    split <;> rfl
theorem cntB_2 (g : Nat → Bool) : ∀ m, cntB g (40 * m) = cnt2 (fun a b => g (40 * a + b)) m
  | 0 => rfl
  | m + 1 => by
    rw [show 40 * (m + 1) = 40 * m + 40 by omega, cntB_add, cntB_2 g m]
    rfl
theorem flat_p (M : MS) (p a b : Nat) : M.2.2 0 (1600 * p + (40 * a + b)) = pM M p a b := congrArg (M.2.2 0) (by unfold ixP; omega)
theorem cnM_2 (M : MS) (r : Nat) : cnM M r 1600 = nI (cnt2 (pM M r) 40) := by
  rw [cnM_n]
  exact congrArg nI ((cntB_2 _ 40).trans (cnt2_congr 40 (fun a b _ _ => flat_p M r a b)))
theorem cnt_eq {S : RS} {M : MS} {n r : Nat} {X : Nat → Nat → Bool} (hn : n ≤ 40) (kX : rIs S n r X) (mX : ∀ a b, X a b = true → a < n ∧ b < n) (hM : ∀ a b, a < 40 → b < 40 → pM M r a b = X a b) : pairsF S r n = cnM M r 1600 := by
  rw [pairsF_n hn kX mX n (Nat.le_refl n), cnM_2, cnt2_congr 40 hM]
  congr 1
  have := cnt2_up (X := X) (n := n) (fun a b ha => by
    cases e : X a b with
    | false => rfl
    | true => exact absurd (mX a b e).1 ha) (40 - n)
  rw [show n + (40 - n) = 40 by omega] at this
  exact this.symm
/-! the i-th one -/
theorem nth_ex {f : Nat → Bool} {i : Nat} : ∀ (n : Nat), i < cntB f n → ∃ b, b < n ∧ f b = true ∧ cntB f b = i
  | 0, h => absurd h (Nat.not_lt_zero _)
  | n + 1, h => by
    by_cases e : i < cntB f n
    · obtain ⟨b, h1, h2, h3⟩ := nth_ex n e
      exact ⟨b, by omega, h2, h3⟩
    · have h' : i < cntB f n + (if f n then 1 else 0) := h
      cases q : f n with
      | false => rw [q] at h'; simp at h'; omega
      | true => rw [q] at h'; simp at h'; exact ⟨n, by omega, q, by omega⟩
theorem bsG_none {M : MS} {r t n : Nat} {i0 : Int32} {v : Bool} {f : Nat → Bool} (hf : ∀ x, x < n → M.2.2 0 (idB r t x v) = f x) : ∀ (k x : Nat), x + k = n → (∀ y, x ≤ y → y < n → f y = true → ¬ nI (cntB f y) = i0) → bsG M r t i0 v k x (cntB f x) = -1
  | 0, _, _, _ => rfl
  | k + 1, x, hx, h => by
    show (if M.2.2 0 (idB r t x v) then (if nI (cntB f x) = i0 then nI x else bsG M r t i0 v k (x + 1) (cntB f x + 1)) else bsG M r t i0 v k (x + 1) (cntB f x)) = -1
    have ih := bsG_none hf k (x + 1) (by omega) (fun y h1 h2 => h y (by omega) h2)
    have ec : cntB f (x + 1) = cntB f x + (if f x then 1 else 0) := rfl
    rw [hf x (by omega)]
    cases q : f x with
    | false =>
      rw [q] at ec
      rw [if_neg (by decide)]
      rw [ec] at ih
      exact ih
    | true =>
      rw [q] at ec
      rw [if_pos rfl, if_neg (h x (Nat.le_refl x) (by omega) q)]
      rw [ec] at ih
      exact ih
theorem bsG_at {M : MS} {r t n b : Nat} {i0 : Int32} {v : Bool} {f : Nat → Bool} (hf : ∀ x, x < n → M.2.2 0 (idB r t x v) = f x) (hb : b < n) (q1 : f b = true) (q2 : nI (cntB f b) = i0) (q3 : ∀ y, y < b → f y = true → ¬ nI (cntB f y) = i0) : ∀ (k x : Nat), x + k = n → x ≤ b → bsG M r t i0 v k x (cntB f x) = nI b
  | 0, x, h1, h2 => by omega
  | k + 1, x, hx, h => by
    show (if M.2.2 0 (idB r t x v) then (if nI (cntB f x) = i0 then nI x else bsG M r t i0 v k (x + 1) (cntB f x + 1)) else bsG M r t i0 v k (x + 1) (cntB f x)) = nI b
    have ec : cntB f (x + 1) = cntB f x + (if f x then 1 else 0) := rfl
    rw [hf x (by omega)]
    by_cases e : x = b
    · subst e
      rw [q1, if_pos rfl, if_pos q2]
    · have ih := bsG_at hf hb q1 q2 q3 k (x + 1) (by omega) (by omega)
      cases q : f x with
      | false =>
        rw [q] at ec
        rw [if_neg (by decide)]
        rw [ec] at ih
        exact ih
      | true =>
        rw [q] at ec
        rw [if_pos rfl, if_neg (q3 x (by omega) q)]
        rw [ec] at ih
        exact ih
theorem beside {M : MS} {r t n : Nat} {i0 : Int32} {v : Bool} {w : Int64} (hn : n ≤ 40) (hf : ∀ x, x < n → M.2.2 0 (idB r t x v) = tb w x) (hz : ∀ x, ¬ x < n → tb w x = false) : (pickW w i0 = true → bsG M r t i0 v n 0 0 = ntzL (lowF w (ixN i0)) ∧ ¬ bsG M r t i0 v n 0 0 = -1) ∧ (pickW w i0 = false → bsG M r t i0 v n 0 0 = -1) := by
  have hc : cntB (tb w) 64 = cntB (tb w) n := by
    have e := cntB_add (tb w) n (64 - n)
    rw [show n + (64 - n) = 64 by omega, cntB_f (64 - n) (fun i _ => hz (n + i) (by omega))] at e
    exact e
  have hle := cntB_le (tb w) n
  unfold pickW
  rw [popL_nat, hc]
  constructor
  · intro h
    obtain ⟨i, hi, rfl⟩ := inI_t (by omega) h
    rw [ixN_nI (by omega)]
    obtain ⟨b, h1, h2, h3⟩ := nth_ex n hi
    have e := bsG_at (M := M) (r := r) (t := t) (v := v) (i0 := nI i) hf h1 h2 (by rw [h3]) (fun y hy q e => by
      have l := cntB_lt (tb w) hy q
      have l2 := cntB_le (tb w) y
      have := (nI_eq (by omega) (by omega)).mp e
      omega) n 0 (by omega) (by omega)
    have e0 : cntB (tb w) 0 = 0 := rfl
    rw [e0] at e
    rw [e, pick_p (by omega) h2 h3]
    refine ⟨rfl, fun q => ?_⟩
    have := nI_pos (n := b) (by omega)
    rw [q] at this
    exact this (by decide)
  · intro h
    refine bsG_none (f := tb w) hf n 0 (by omega) (fun y _ hy q e => ?_)
    have l := cntB_lt (tb w) hy q
    have := inI_nI (j := cntB (tb w) y) (n := cntB (tb w) n) l (by omega)
    rw [e, h] at this
    exact absurd this (by decide)
/-! the first difference -/
theorem dfG_none {M : MS} {r q : Nat} : ∀ (m k : Nat), (∀ j, k ≤ j → j < k + m → M.2.2 0 (1600 * r + j) = M.2.2 0 (1600 * q + j)) → dfG M r q m k = -1
  | 0, _, _ => rfl
  | m + 1, k, h => by
    show (if _ then _ else _) = _
    rw [if_pos (h k (Nat.le_refl k) (by omega))]
    exact dfG_none m (k + 1) (fun j h1 h2 => h j (by omega) (by omega))
theorem dfG_at {M : MS} {r q k1 : Nat} (h1 : ¬ M.2.2 0 (1600 * r + k1) = M.2.2 0 (1600 * q + k1)) : ∀ (m k : Nat), k ≤ k1 → k1 < k + m → (∀ j, k ≤ j → j < k1 → M.2.2 0 (1600 * r + j) = M.2.2 0 (1600 * q + j)) → dfG M r q m k = nI k1
  | 0, _, _, _, _ => by omega
  | m + 1, k, h2, h3, h => by
    show (if _ then _ else _) = _
    by_cases e : k = k1
    · subst e
      rw [if_neg h1]
    · rw [if_pos (h k (Nat.le_refl k) (by omega))]
      exact dfG_at h1 m (k + 1) (by omega) (by omega) (fun j q1 q2 => h j (by omega) q2)
theorem difG_none {S : RS} {r q : Nat} : ∀ (k a : Nat), (∀ x, a ≤ x → x < a + k → S.2.2 r x ^^^ S.2.2 q x = 0) → difG S r q k a = -1
  | 0, _, _ => rfl
  | k + 1, a, h => by
    show (if _ then _ else _) = _
    rw [if_pos (h a (Nat.le_refl a) (by omega))]
    exact difG_none k (a + 1) (fun x h1 h2 => h x (by omega) (by omega))
theorem difG_at {S : RS} {r q a1 : Nat} (h1 : ¬ S.2.2 r a1 ^^^ S.2.2 q a1 = 0) : ∀ (k a : Nat), a ≤ a1 → a1 < a + k → (∀ x, a ≤ x → x < a1 → S.2.2 r x ^^^ S.2.2 q x = 0) → difG S r q k a = nI (a1 * 40) + ntzL (S.2.2 r a1 ^^^ S.2.2 q a1)
  | 0, _, _, _, _ => by omega
  | k + 1, a, h2, h3, h => by
    show (if _ then _ else _) = _
    by_cases e : a = a1
    · subst e
      rw [if_neg h1]
    · rw [if_pos (h a (Nat.le_refl a) (by omega))]
      exact difG_at h1 k (a + 1) (by omega) (by omega) (fun x q1 q2 => h x (by omega) q2)
theorem differ_eq {S : RS} {M : MS} {n r q : Nat} {X Y : Nat → Nat → Bool} (hn : n ≤ 40) (kX : rIs S n r X) (kY : rIs S n q Y) (mX : ∀ a b, X a b = true → a < n ∧ b < n) (mY : ∀ a b, Y a b = true → a < n ∧ b < n) (hX' : ∀ a b, a < 40 → b < 40 → pM M r a b = X a b) (hY' : ∀ a b, a < 40 → b < 40 → pM M q a b = Y a b) : difG S r q n 0 = dfG M r q 1600 0 := by
  have flat := flat_p M
  have fx : ∀ a b, ¬ (a < n ∧ b < n) → X a b = false := fun a b h => by
    cases e : X a b with
    | false => rfl
    | true => exact absurd (mX a b e) h
  have fy : ∀ a b, ¬ (a < n ∧ b < n) → Y a b = false := fun a b h => by
    cases e : Y a b with
    | false => rfl
    | true => exact absurd (mY a b e) h
  by_cases hd : ∃ k, k < 1600 ∧ (M.2.2 0 (1600 * r + k) != M.2.2 0 (1600 * q + k)) = true
  · obtain ⟨k1, hk, d1, d2⟩ := least_ex 1600 hd
    have hk1 : k1 = 40 * (k1 / 40) + k1 % 40 := by omega
    have l40 : k1 % 40 < 40 := by omega
    have l41 : k1 / 40 < 40 := by omega
    generalize k1 / 40 = a1 at hk1 l41
    generalize k1 % 40 = b1 at hk1 l40
    subst hk1
    have d1' : ¬ M.2.2 0 (1600 * r + (40 * a1 + b1)) = M.2.2 0 (1600 * q + (40 * a1 + b1)) := by simpa using d1
    rw [dfG_at d1' 1600 0 (by omega) (by omega) (fun j _ h2 => by simpa using d2 j h2)]
    rw [flat, flat, hX' a1 b1 l41 l40, hY' a1 b1 l41 l40] at d1'
    have hin : a1 < n ∧ b1 < n := by
      refine Classical.byContradiction fun hc => d1' ?_
      rw [fx a1 b1 hc, fy a1 b1 hc]
    have low : ∀ a b, a < 40 → b < 40 → 40 * a + b < 40 * a1 + b1 → X a b = Y a b := fun a b ha hb h => by
      have := d2 (40 * a + b) h
      rw [flat, flat, hX' a b ha hb, hY' a b ha hb] at this
      simpa using this
    have hbit : ∀ a, a < n → ∀ b, tb (S.2.2 r a ^^^ S.2.2 q a) b = (X a b ^^ Y a b) := fun a ha b => by rw [tb_xor, kX a b ha, kY a b ha]
    have hrow : ∀ a, a < a1 → S.2.2 r a ^^^ S.2.2 q a = 0 := fun a ha => by
      refine tb_zero.mpr fun b hb => ?_
      rw [hbit a (by omega) b]
      by_cases hbn : b < n
      · rw [low a b (by omega) (by omega) (by omega)]; simp
      · rw [fx a b (fun q => hbn q.2), fy a b (fun q => hbn q.2)]; rfl
    have h1b : tb (S.2.2 r a1 ^^^ S.2.2 q a1) b1 = true := by
      rw [hbit a1 hin.1 b1]
      cases e1 : X a1 b1 <;> cases e2 : Y a1 b1 <;> simp_all
    have hne : ¬ S.2.2 r a1 ^^^ S.2.2 q a1 = 0 := fun e => by
      rw [e, tb_0] at h1b
      exact absurd h1b (by decide)
    rw [difG_at hne n 0 (by omega) (by omega) (fun x _ h2 => hrow x h2)]
    rw [ntzL_p (b := b1) (by omega) h1b (fun j hj => by
      rw [hbit a1 hin.1 j, low a1 j (by omega) (by omega) (by omega)]; simp), nI_add]
    congr 1
    omega
  · have hall : ∀ k, k < 1600 → M.2.2 0 (1600 * r + k) = M.2.2 0 (1600 * q + k) := fun k hk => by
      refine Classical.byContradiction fun hc => hd ⟨k, hk, ?_⟩
      simpa using hc
    rw [dfG_none 1600 0 (fun j _ h => hall j (by omega))]
    refine difG_none n 0 (fun x _ hx => tb_zero.mpr fun b hb => ?_)
    rw [tb_xor, kX x b (by omega), kY x b (by omega)]
    by_cases hbn : b < n
    · have := hall (40 * x + b) (by omega)
      rw [flat, flat, hX' x b (by omega) (by omega), hY' x b (by omega) (by omega)] at this
      rw [this]; simp
    · rw [fx x b (fun q => hbn q.2), fy x b (fun q => hbn q.2)]; rfl
/-! least steps -/
def anyB (f : Nat → Bool) : Nat → Bool
  | 0 => false
  | k + 1 => anyB f k || f k
theorem anyB_iff {f : Nat → Bool} : ∀ (k : Nat), anyB f k = true ↔ ∃ x, x < k ∧ f x = true
  | 0 => ⟨fun h => absurd h Bool.false_ne_true, fun ⟨x, h, _⟩ => by omega⟩
  | k + 1 => by
    show (anyB f k || f k) = true ↔ _
    rw [Bool.or_eq_true, anyB_iff k]
    constructor
    · rintro (⟨x, h1, h2⟩ | h)
      · exact ⟨x, by omega, h2⟩
      · exact ⟨k, by omega, h⟩
    · rintro ⟨x, h1, h2⟩
      by_cases e : x = k
      · subst e; exact Or.inr h2
      · exact Or.inl ⟨x, by omega, h2⟩
def stp (X : Nat → Nat → Bool) (n b : Nat) : Nat → Nat → Int32
  | 0 => fun k => if k = b then nI 0 else -1
  | u + 1 => fun k => if stp X n b u k = -1 ∧ anyB (fun x => X k x && decide (stp X n b u x = nI u)) n = true then nI (u + 1) else stp X n b u k
section STP
variable {X : Nat → Nat → Bool} {n b : Nat}
theorem nI_m1 {k : Nat} (h : k < 2 ^ 31) : ¬ nI k = -1 := fun e => by
  have := nI_pos h
  rw [e] at this
  exact this (by decide)
theorem stp_s (u k : Nat) : stp X n b (u + 1) k = if stp X n b u k = -1 ∧ anyB (fun x => X k x && decide (stp X n b u x = nI u)) n = true then nI (u + 1) else stp X n b u k := rfl
theorem stp_val : ∀ (u k : Nat), stp X n b u k = -1 ∨ ∃ s, s ≤ u ∧ stp X n b u k = nI s
  | 0, k => by
    show (if k = b then nI 0 else -1) = -1 ∨ ∃ s, s ≤ 0 ∧ (if k = b then nI 0 else -1) = nI s
    by_cases h : k = b
    · rw [if_pos h]; exact Or.inr ⟨0, by omega, rfl⟩
    · rw [if_neg h]; exact Or.inl rfl
  | u + 1, k => by
    rw [stp_s]
    split
    · exact Or.inr ⟨u + 1, by omega, rfl⟩
    · rcases stp_val u k with h | ⟨s, h1, h2⟩
      · exact Or.inl h
      · exact Or.inr ⟨s, by omega, h2⟩
theorem stp_keep {u k : Nat} (h : ¬ stp X n b u k = -1) : ∀ m, stp X n b (u + m) k = stp X n b u k
  | 0 => rfl
  | m + 1 => by
    have ih := stp_keep h m
    rw [show u + (m + 1) = (u + m) + 1 by omega, stp_s, if_neg (fun q => h (by rw [← ih]; exact q.1)), ih]
theorem stp_back {s k : Nat} : ∀ (m : Nat), s + m < 2 ^ 31 → stp X n b (s + m) k = nI s → stp X n b s k = nI s
  | 0, _, h => h
  | m + 1, hb, h => by
    rw [show s + (m + 1) = (s + m) + 1 by omega, stp_s] at h
    split at h
    · have := (nI_eq (by omega) (by omega)).mp h
      omega
    · exact stp_back m (by omega) h
theorem stp_front {u k x : Nat} (hu : u < 2 ^ 30) (hx : x < n) (h1 : stp X n b u k = -1) (h2 : X k x = true) (h3 : ¬ stp X n b u x = -1) : stp X n b u x = nI u := by
  rcases stp_val (X := X) (n := n) (b := b) u x with q | ⟨s, hs, q⟩
  · exact absurd q h3
  · by_cases e : s = u
    · rw [q, e]
    · exfalso
      obtain ⟨m, rfl⟩ : ∃ m, u = s + (m + 1) := ⟨u - s - 1, by omega⟩
      have q' := stp_back (X := X) (n := n) (b := b) (m + 1) (by omega) q
      by_cases hk : stp X n b s k = -1
      · have hn : stp X n b (s + 1) k = nI (s + 1) := by
          rw [stp_s, if_pos ⟨hk, (anyB_iff n).mpr ⟨x, hx, by rw [h2, q']; simp⟩⟩]
        have := stp_keep (X := X) (n := n) (b := b) (u := s + 1) (k := k) (by rw [hn]; exact nI_m1 (by omega)) m
        rw [show s + 1 + m = s + (m + 1) by omega, h1, hn] at this
        exact nI_m1 (k := s + 1) (by omega) this.symm
      · have := stp_keep (X := X) (n := n) (b := b) hk (m + 1)
        rw [h1] at this
        exact hk this.symm
theorem stp_stop {u : Nat} (h : ∀ x, x < n → ¬ stp X n b (u + 1) x = nI (u + 1)) : ∀ m, u + m < 2 ^ 30 → ∀ k, k < n → stp X n b (u + m) k = stp X n b u k
  | 0, _, _, _ => rfl
  | m + 1, hm, k, hk => by
    have ih := stp_stop h m (by omega)
    rw [show u + (m + 1) = (u + m) + 1 by omega, stp_s, if_neg, ih k hk]
    rintro ⟨q1, q2⟩
    obtain ⟨x, hx, q3⟩ := (anyB_iff n).mp q2
    simp only [Bool.and_eq_true, decide_eq_true_eq] at q3
    rw [ih k hk] at q1
    rw [ih x hx] at q3
    rcases stp_val (X := X) (n := n) (b := b) u x with q | ⟨s, hs, q⟩
    · rw [q] at q3
      exact nI_m1 (by omega) q3.2.symm
    · rw [q] at q3
      have e := (nI_eq (by omega) (by omega)).mp q3.2
      have em : m = 0 := by omega
      subst em
      have : stp X n b (u + 1) k = nI (u + 1) := by
        rw [stp_s, if_pos ⟨q1, (anyB_iff n).mpr ⟨x, hx, by rw [q3.1, q, e]; simp⟩⟩]
      exact h k hk this
theorem stp_prev {k s : Nat} : ∀ (u : Nat), u < 2 ^ 30 → s < u → stp X n b u k = nI (s + 1) → ∃ x, x < n ∧ X k x = true ∧ stp X n b u x = nI s
  | 0, _, h, _ => by omega
  | u + 1, hu, hs, h => by
    rw [stp_s] at h
    split at h
    · rename_i q
      have e := (nI_eq (by omega) (by omega)).mp h
      have e : s = u := by omega
      subst e
      obtain ⟨x, hx, q3⟩ := (anyB_iff n).mp q.2
      simp only [Bool.and_eq_true, decide_eq_true_eq] at q3
      refine ⟨x, hx, q3.1, ?_⟩
      have := stp_keep (X := X) (n := n) (b := b) (u := s) (k := x) (by rw [q3.2]; exact nI_m1 (by omega)) 1
      rw [this, q3.2]
    · have hsu : s < u := by
        rcases stp_val (X := X) (n := n) (b := b) u k with q | ⟨s', hs', q⟩
        · rw [q] at h
          exact absurd h.symm (nI_m1 (by omega))
        · rw [q] at h
          have := (nI_eq (by omega) (by omega)).mp h
          omega
      obtain ⟨x, hx, q1, q2⟩ := stp_prev u (by omega) hsu h
      refine ⟨x, hx, q1, ?_⟩
      have := stp_keep (X := X) (n := n) (b := b) (u := u) (k := x) (by rw [q2]; exact nI_m1 (by omega)) 1
      rw [this, q2]
theorem stp_congr {Y : Nat → Nat → Bool} (h : ∀ a b, a < n → b < n → X a b = Y a b) : ∀ (u k : Nat), k < n → stp X n b u k = stp Y n b u k
  | 0, _, _ => rfl
  | u + 1, k, hk => by
    rw [stp_s, stp_s, stp_congr h u k hk]
    have e : anyB (fun x => X k x && decide (stp X n b u x = nI u)) n = anyB (fun x => Y k x && decide (stp Y n b u x = nI u)) n := by
      rw [Bool.eq_iff_iff, anyB_iff, anyB_iff]
      constructor
      · rintro ⟨x, hx, q⟩
        exact ⟨x, hx, by rw [← h k x hk hx, ← stp_congr h u x hx]; exact q⟩
      · rintro ⟨x, hx, q⟩
        exact ⟨x, hx, by rw [h k x hk hx, stp_congr h u x hx]; exact q⟩
    rw [e]
end STP
/-! the model measures -/
theorem msX_p {r u t n : Nat} (hu : u < 2 ^ 30) : ∀ (k x : Nat) (P : MS), x + k = n → msX r u t k x P = if P.2.1 7 t = -1 ∧ anyB (fun y => decide (x ≤ y) && (pM P r t y && decide (P.2.1 7 y = nI (u - 1)))) n = true then sA P 7 t (nI u) else P
  | 0, x, P, hx => by
    show P = _
    rw [if_neg]
    rintro ⟨-, q⟩
    obtain ⟨y, hy, q⟩ := (anyB_iff n).mp q
    simp only [Bool.and_eq_true, decide_eq_true_eq] at q
    omega
  | k + 1, x, P, hx => by
    show (if P.2.1 7 t = -1 then msX r u t k (x + 1) (if pM P r t x = true ∧ P.2.1 7 x = nI (u - 1) then sA P 7 t (nI u) else P) else P) = _
    by_cases h : P.2.1 7 t = -1
    · rw [if_pos h, msX_p (n := n) hu k (x + 1) _ (by omega)]
      by_cases c : pM P r t x = true ∧ P.2.1 7 x = nI (u - 1)
      · rw [if_pos c, if_neg, if_pos]
        · refine ⟨h, (anyB_iff n).mpr ⟨x, by omega, ?_⟩⟩
          simp only [Bool.and_eq_true, decide_eq_true_eq]
          exact ⟨Nat.le_refl x, c.1, c.2⟩
        · rintro ⟨q, -⟩
          have : (sA P 7 t (nI u)).2.1 7 t = nI u := by show (if 7 = 7 ∧ t = t then _ else _) = _; rw [if_pos ⟨rfl, rfl⟩]
          rw [this] at q
          exact nI_m1 (by omega) q
      · rw [if_neg c]
        have e : anyB (fun y => decide (x + 1 ≤ y) && (pM P r t y && decide (P.2.1 7 y = nI (u - 1)))) n = anyB (fun y => decide (x ≤ y) && (pM P r t y && decide (P.2.1 7 y = nI (u - 1)))) n := by
          rw [Bool.eq_iff_iff, anyB_iff, anyB_iff]
          constructor
          · rintro ⟨y, hy, q⟩
            simp only [Bool.and_eq_true, decide_eq_true_eq] at q
            exact ⟨y, hy, by simp only [Bool.and_eq_true, decide_eq_true_eq]; exact ⟨by omega, q.2⟩⟩
          · rintro ⟨y, hy, q⟩
            simp only [Bool.and_eq_true, decide_eq_true_eq] at q
            by_cases ey : y = x
            · subst ey; exact absurd q.2 c
            · exact ⟨y, hy, by simp only [Bool.and_eq_true, decide_eq_true_eq]; exact ⟨by omega, q.2⟩⟩
        rw [e]
    · rw [if_neg h, if_neg (fun q => h q.1)]
def frS7 (P P' : MS) : Prop := P'.1 = P.1 ∧ (∀ q j, ¬ q = 7 → P'.2.1 q j = P.2.1 q j) ∧ P'.2.2 = P.2.2
theorem frS7_rf (P : MS) : frS7 P P := ⟨rfl, fun _ _ _ => rfl, rfl⟩
theorem frS7_tr {P P' P'' : MS} (h : frS7 P P') (h' : frS7 P' P'') : frS7 P P'' := ⟨h'.1.trans h.1, fun q j hq => (h'.2.1 q j hq).trans (h.2.1 q j hq), h'.2.2.trans h.2.2⟩
theorem frS7_sA (P : MS) (t : Nat) (v : Int32) : frS7 P (sA P 7 t v) := ⟨rfl, fun q j hq => by show (if q = 7 ∧ j = t then _ else _) = _; rw [if_neg (fun e => hq e.1)], rfl⟩
theorem msT_p {S : MS} {n r u : Nat} (hu : u < 2 ^ 30) (h1 : 1 ≤ u) (hn : n ≤ 40) : ∀ (k : Nat), k ≤ n → frS7 S (msT S n r u k) ∧ ∀ t, (msT S n r u k).2.1 7 t = if t < k ∧ S.2.1 7 t = -1 ∧ anyB (fun y => pM S r t y && decide (S.2.1 7 y = nI (u - 1))) n = true then nI u else S.2.1 7 t
  | 0, _ => ⟨frS7_rf S, fun t => by rw [if_neg (by omega)]; rfl⟩
  | k + 1, hk => by
    obtain ⟨i1, i2⟩ := msT_p (S := S) (r := r) hu h1 hn k (by omega)
    have e : msT S n r u (k + 1) = msX r u k n 0 (msT S n r u k) := rfl
    rw [e, msX_p (n := n) hu n 0 _ (by omega)]
    have ep : ∀ y, pM (msT S n r u k) r k y = pM S r k y := fun y => by unfold pM; rw [i1.2.2]
    have e7 : (msT S n r u k).2.1 7 k = S.2.1 7 k := by rw [i2, if_neg (by omega)]
    have es : ∀ y, ((msT S n r u k).2.1 7 y = nI (u - 1)) ↔ (S.2.1 7 y = nI (u - 1)) := fun y => by
      rw [i2]
      split
      · rename_i q
        rw [q.2.1]
        constructor
        · intro e
          have := (nI_eq (by omega) (by omega)).mp e
          omega
        · intro e
          exact absurd e.symm (nI_m1 (by omega))
      · exact Iff.rfl
    have ea : anyB (fun y => decide (0 ≤ y) && (pM (msT S n r u k) r k y && decide ((msT S n r u k).2.1 7 y = nI (u - 1)))) n = anyB (fun y => pM S r k y && decide (S.2.1 7 y = nI (u - 1))) n := by
      rw [Bool.eq_iff_iff, anyB_iff, anyB_iff]
      simp only [Bool.and_eq_true, decide_eq_true_eq, ep, es, Nat.zero_le, true_and]
    rw [e7, ea]
    by_cases c : S.2.1 7 k = -1 ∧ anyB (fun y => pM S r k y && decide (S.2.1 7 y = nI (u - 1))) n = true
    · rw [if_pos c]
      refine ⟨frS7_tr i1 (frS7_sA _ _ _), fun t => ?_⟩
      show (if 7 = 7 ∧ t = k then nI u else _) = _
      by_cases et : t = k
      · subst et
        rw [if_pos ⟨rfl, rfl⟩, if_pos ⟨by omega, c⟩]
      · rw [if_neg (fun q => et q.2), i2]
        by_cases c2 : t < k ∧ S.2.1 7 t = -1 ∧ anyB (fun y => pM S r t y && decide (S.2.1 7 y = nI (u - 1))) n = true
        · rw [if_pos c2, if_pos ⟨by omega, c2.2⟩]
        · rw [if_neg c2, if_neg (fun q => c2 ⟨by omega, q.2⟩)]
    · rw [if_neg c]
      refine ⟨i1, fun t => ?_⟩
      rw [i2]
      by_cases et : t = k
      · subst et
        rw [if_neg (by omega), if_neg (fun q => c q.2)]
      · by_cases c2 : t < k ∧ S.2.1 7 t = -1 ∧ anyB (fun y => pM S r t y && decide (S.2.1 7 y = nI (u - 1))) n = true
        · rw [if_pos c2, if_pos ⟨by omega, c2.2⟩]
        · rw [if_neg c2, if_neg (fun q => c2 ⟨by omega, q.2⟩)]
theorem msU_p {S : MS} {n r b : Nat} {X : Nat → Nat → Bool} (hn : n ≤ 40) (hX' : ∀ a b, a < n → b < n → pM S r a b = X a b) (h0 : ∀ t, t < n → S.2.1 7 t = stp X n b 0 t) : ∀ (k : Nat), k < 2 ^ 29 → frS7 S (msU S n r k) ∧ ∀ t, t < n → (msU S n r k).2.1 7 t = stp X n b k t
  | 0, _ => ⟨frS7_rf S, fun t ht => h0 t ht⟩
  | k + 1, hk => by
    obtain ⟨i1, i2⟩ := msU_p hn hX' h0 k (by omega)
    have e : msU S n r (k + 1) = msT (msU S n r k) n r (k + 1) n := rfl
    obtain ⟨j1, j2⟩ := msT_p (S := msU S n r k) (r := r) (u := k + 1) (by omega) (by omega) hn n (Nat.le_refl n)
    rw [e]
    refine ⟨frS7_tr i1 j1, fun t ht => ?_⟩
    rw [j2 t, stp_s, i2 t ht]
    have ea : anyB (fun y => pM (msU S n r k) r t y && decide ((msU S n r k).2.1 7 y = nI (k + 1 - 1))) n = anyB (fun x => X t x && decide (stp X n b k x = nI k)) n := by
      rw [Bool.eq_iff_iff, anyB_iff, anyB_iff]
      have ep : ∀ y, y < n → pM (msU S n r k) r t y = X t y := fun y hy => by unfold pM; rw [i1.2.2]; exact hX' t y ht hy
      constructor
      · rintro ⟨y, hy, q⟩
        exact ⟨y, hy, by rw [← ep y hy, ← i2 y hy]; exact q⟩
      · rintro ⟨y, hy, q⟩
        exact ⟨y, hy, by rw [ep y hy, i2 y hy]; exact q⟩
    rw [ea]
    by_cases c : stp X n b k t = -1 ∧ anyB (fun x => X t x && decide (stp X n b k x = nI k)) n = true
    · rw [if_pos c, if_pos ⟨ht, c⟩]
    · rw [if_neg c, if_neg (fun q => c q.2)]
theorem msI_p (S : MS) (b : Nat) : ∀ (k : Nat), frS7 S (msI S b k) ∧ ∀ t, (msI S b k).2.1 7 t = if t < k then (if t = b then nI 0 else -1) else S.2.1 7 t
  | 0 => ⟨frS7_rf S, fun t => by rw [if_neg (show ¬ t < 0 by omega)]; rfl⟩
  | k + 1 => by
    obtain ⟨i1, i2⟩ := msI_p S b k
    refine ⟨frS7_tr i1 (frS7_sA _ _ _), fun t => ?_⟩
    show (if 7 = 7 ∧ t = k then _ else (msI S b k).2.1 7 t) = _
    by_cases e : t = k
    · subst e
      rw [if_pos ⟨rfl, rfl⟩, if_pos (show t < t + 1 by omega)]
    · rw [if_neg (fun q => e q.2), i2]
      by_cases c : t < k
      · rw [if_pos c, if_pos (show t < k + 1 by omega)]
      · rw [if_neg c, if_neg (show ¬ t < k + 1 by omega)]
theorem measM_p {S : MS} {n r b : Nat} {X : Nat → Nat → Bool} (hn : n ≤ 40) (hX' : ∀ a b, a < n → b < n → pM (lrF S n (r + 1)) r a b = X a b) : frS7 (lrF S n (r + 1)) (measM S n r b) ∧ ∀ t, t < n → (measM S n r b).2.1 7 t = stp X n b (n - 1) t := by
  obtain ⟨i1, i2⟩ := msI_p (lrF S n (r + 1)) b n
  obtain ⟨j1, j2⟩ := msU_p (S := msI (lrF S n (r + 1)) b n) (r := r) (b := b) (X := X) hn (fun a b ha hb => by unfold pM; rw [i1.2.2]; exact hX' a b ha hb) (fun t ht => by rw [i2, if_pos ht]; rfl) (n - 1) (by omega)
  exact ⟨frS7_tr i1 j1, j2⟩
/-! the class measures -/
def frX7 (P P' : RS) : Prop := P'.1 = P.1 ∧ (∀ q j, ¬ q = 7 → P'.2.1 q j = P.2.1 q j) ∧ P'.2.2 = P.2.2
theorem frX7_rf (P : RS) : frX7 P P := ⟨rfl, fun _ _ _ => rfl, rfl⟩
theorem frX7_tr {P P' P'' : RS} (h : frX7 P P') (h' : frX7 P' P'') : frX7 P P'' := ⟨h'.1.trans h.1, fun q j hq => (h'.2.1 q j hq).trans (h.2.1 q j hq), h'.2.2.trans h.2.2⟩
theorem frX7_sA (P : RS) (t : Nat) (v : Int32) : frX7 P (sA P 7 t v) := ⟨rfl, fun q j hq => by show (if q = 7 ∧ j = t then _ else _) = _; rw [if_neg (fun e => hq e.1)], rfl⟩
theorem mI_p {P : RS × Int64} {r u : Nat} {bf : Int64} (hu : u < 2 ^ 30) : ∀ (k : Nat), k ≤ 64 → frX7 P.1 (mI P r u bf k).1 ∧ (∀ t, (mI P r u bf k).1.2.1 7 t = if t < k ∧ P.1.2.1 7 t = -1 ∧ ¬ (P.1.2.2 r t &&& bf = 0) then nI u else P.1.2.1 7 t) ∧ ∀ t, tb (mI P r u bf k).2 t = (tb P.2 t || decide (t < k ∧ P.1.2.1 7 t = -1 ∧ ¬ (P.1.2.2 r t &&& bf = 0)))
  | 0, _ => ⟨frX7_rf _, fun t => by rw [if_neg (fun q => absurd q.1 (by omega))]; rfl, fun t => by simp [mI]⟩
  | k + 1, hk => by
    obtain ⟨i1, i2, i3⟩ := mI_p (P := P) (r := r) (bf := bf) hu k (by omega)
    have e7 : (mI P r u bf k).1.2.1 7 k = P.1.2.1 7 k := by rw [i2, if_neg (fun q => absurd q.1 (by omega))]
    have er : (mI P r u bf k).1.2.2 r k = P.1.2.2 r k := by rw [i1.2.2]
    have e : mI P r u bf (k + 1) = if P.1.2.1 7 k = -1 ∧ ¬ (P.1.2.2 r k &&& bf = 0) then (sA (mI P r u bf k).1 7 k (nI u), (mI P r u bf k).2 ||| bitN k) else mI P r u bf k := by
      show (if (mI P r u bf k).1.2.1 7 k = -1 ∧ ¬ ((mI P r u bf k).1.2.2 r k &&& bf = 0) then _ else _) = _
      rw [e7, er]
    rw [e]
    by_cases c : P.1.2.1 7 k = -1 ∧ ¬ (P.1.2.2 r k &&& bf = 0)
    · rw [if_pos c]
      refine ⟨frX7_tr i1 (frX7_sA _ _ _), fun t => ?_, fun t => ?_⟩
      · show (if 7 = 7 ∧ t = k then nI u else (mI P r u bf k).1.2.1 7 t) = _
        by_cases et : t = k
        · subst et
          rw [if_pos ⟨rfl, rfl⟩, if_pos ⟨by omega, c⟩]
        · rw [if_neg (fun q => et q.2), i2]
          by_cases c2 : t < k ∧ P.1.2.1 7 t = -1 ∧ ¬ (P.1.2.2 r t &&& bf = 0)
          · rw [if_pos c2, if_pos ⟨by omega, c2.2⟩]
          · rw [if_neg c2, if_neg (fun q => c2 ⟨by omega, q.2⟩)]
      · show tb ((mI P r u bf k).2 ||| bitN k) t = _
        rw [tb_or, tb_bit (by omega), i3]
        by_cases et : t = k
        · subst et
          have : decide (t < t + 1 ∧ P.1.2.1 7 t = -1 ∧ ¬ (P.1.2.2 r t &&& bf = 0)) = true := decide_eq_true ⟨by omega, c⟩
          rw [this]; simp
        · have : decide (t < k + 1 ∧ P.1.2.1 7 t = -1 ∧ ¬ (P.1.2.2 r t &&& bf = 0)) = decide (t < k ∧ P.1.2.1 7 t = -1 ∧ ¬ (P.1.2.2 r t &&& bf = 0)) := by
            rw [decide_eq_decide]
            exact ⟨fun q => ⟨by omega, q.2⟩, fun q => ⟨by omega, q.2⟩⟩
          rw [this]; simp [et]
    · rw [if_neg c]
      refine ⟨i1, fun t => ?_, fun t => ?_⟩
      · rw [i2]
        by_cases et : t = k
        · subst et
          rw [if_neg (fun q => c q.2), if_neg (fun q => c q.2)]
        · by_cases c2 : t < k ∧ P.1.2.1 7 t = -1 ∧ ¬ (P.1.2.2 r t &&& bf = 0)
          · rw [if_pos c2, if_pos ⟨by omega, c2.2⟩]
          · rw [if_neg c2, if_neg (fun q => c2 ⟨by omega, q.2⟩)]
      · rw [i3]
        congr 1
        rw [decide_eq_decide]
        by_cases et : t = k
        · subst et
          exact ⟨fun q => absurd q.2 c, fun q => absurd q.2 c⟩
        · exact ⟨fun q => ⟨by omega, q.2⟩, fun q => ⟨by omega, q.2⟩⟩
theorem and_ne0 {v w : Int64} {n : Nat} (hw : ∀ x, tb w x = true → x < n) : ¬ (v &&& w = 0) ↔ ∃ x, x < n ∧ tb v x = true ∧ tb w x = true := by
  constructor
  · intro h
    refine Classical.byContradiction fun hc => h (tb_zero.mpr fun i hi => ?_)
    rw [tb_and]
    cases e1 : tb v i with
    | false => rfl
    | true =>
      cases e2 : tb w i with
      | false => rfl
      | true => exact absurd ⟨i, hw i e2, e1, e2⟩ hc
  · rintro ⟨x, hx, h1, h2⟩ e
    have : tb (v &&& w) x = true := by rw [tb_and, h1, h2]; rfl
    rw [e, tb_0] at this
    exact absurd this (by decide)
theorem mG_p {n r b : Nat} {X : Nat → Nat → Bool} (hn : n ≤ 40) (mX : ∀ a b, X a b = true → a < n ∧ b < n) : ∀ (k u : Nat) (P : RS × Int64), u + k < 2 ^ 28 → rIs P.1 n r X → (∀ t, t < n → P.1.2.1 7 t = stp X n b u t) → (∀ t, tb P.2 t = decide (t < n ∧ ¬ stp X n b u t = -1)) → frX7 P.1 (mG n r k (u + 1) P) ∧ ∀ t, t < n → (mG n r k (u + 1) P).2.1 7 t = stp X n b (u + k) t
  | 0, u, P, _, _, h1, _ => ⟨frX7_rf _, fun t ht => h1 t ht⟩
  | k + 1, u, P, hb, hr, h1, h2 => by
    obtain ⟨i1, i2, i3⟩ := mI_p (P := P) (r := r) (u := u + 1) (bf := P.2) (by omega) n (by omega)
    have hc : ∀ t, t < n → ((P.1.2.1 7 t = -1 ∧ ¬ (P.1.2.2 r t &&& P.2 = 0)) ↔ (stp X n b u t = -1 ∧ anyB (fun x => X t x && decide (stp X n b u x = nI u)) n = true)) := fun t ht => by
      rw [h1 t ht, and_ne0 (n := n) (fun x hx => by
        rw [h2 x] at hx
        exact (decide_eq_true_eq.mp hx).1), anyB_iff]
      constructor
      · rintro ⟨q1, x, hx, q2, q3⟩
        refine ⟨q1, x, hx, ?_⟩
        rw [hr t x ht] at q2
        rw [h2 x, decide_eq_true_eq] at q3
        simp only [Bool.and_eq_true, decide_eq_true_eq]
        exact ⟨q2, stp_front (by omega) hx q1 q2 q3.2⟩
      · rintro ⟨q1, x, hx, q2⟩
        simp only [Bool.and_eq_true, decide_eq_true_eq] at q2
        refine ⟨q1, x, hx, by rw [hr t x ht]; exact q2.1, ?_⟩
        rw [h2 x, decide_eq_true_eq]
        exact ⟨hx, by rw [q2.2]; exact nI_m1 (by omega)⟩
    have hs : ∀ t, t < n → (mI P r (u + 1) P.2 n).1.2.1 7 t = stp X n b (u + 1) t := fun t ht => by
      rw [i2, stp_s]
      by_cases c : stp X n b u t = -1 ∧ anyB (fun x => X t x && decide (stp X n b u x = nI u)) n = true
      · rw [if_pos c, if_pos ⟨ht, (hc t ht).mpr c⟩]
      · rw [if_neg c, if_neg (fun q => c ((hc t ht).mp q.2)), h1 t ht]
    have hbits : ∀ t, tb (mI P r (u + 1) P.2 n).2 t = decide (t < n ∧ ¬ stp X n b (u + 1) t = -1) := fun t => by
      rw [i3, h2]
      by_cases ht : t < n
      · by_cases c : stp X n b u t = -1 ∧ anyB (fun x => X t x && decide (stp X n b u x = nI u)) n = true
        · have e1 : decide (t < n ∧ P.1.2.1 7 t = -1 ∧ ¬ (P.1.2.2 r t &&& P.2 = 0)) = true := decide_eq_true ⟨ht, (hc t ht).mpr c⟩
          have e2 : decide (t < n ∧ ¬ stp X n b (u + 1) t = -1) = true := decide_eq_true ⟨ht, by rw [stp_s, if_pos c]; exact nI_m1 (by omega)⟩
          rw [e1, e2]; simp
        · have e1 : decide (t < n ∧ P.1.2.1 7 t = -1 ∧ ¬ (P.1.2.2 r t &&& P.2 = 0)) = false := decide_eq_false (fun q => c ((hc t ht).mp q.2))
          rw [e1, stp_s, if_neg c]; simp
      · simp [ht]
    show frX7 P.1 (if (mI P r (u + 1) P.2 n).2 = P.2 then (mI P r (u + 1) P.2 n).1 else mG n r k (u + 1 + 1) (mI P r (u + 1) P.2 n)) ∧ ∀ t, t < n → (if (mI P r (u + 1) P.2 n).2 = P.2 then (mI P r (u + 1) P.2 n).1 else mG n r k (u + 1 + 1) (mI P r (u + 1) P.2 n)).2.1 7 t = stp X n b (u + (k + 1)) t
    by_cases ce : (mI P r (u + 1) P.2 n).2 = P.2
    · rw [if_pos ce]
      refine ⟨i1, fun t ht => ?_⟩
      have hno : ∀ x, x < n → ¬ stp X n b (u + 1) x = nI (u + 1) := fun x hx q => by
        have e1 := hbits x
        rw [ce, h2 x] at e1
        have e2 : decide (x < n ∧ ¬ stp X n b (u + 1) x = -1) = true := decide_eq_true ⟨hx, by rw [q]; exact nI_m1 (by omega)⟩
        rw [e2, decide_eq_true_eq] at e1
        have := stp_keep (X := X) (n := n) (b := b) e1.2 1
        rw [q] at this
        rcases stp_val (X := X) (n := n) (b := b) u x with q2 | ⟨s, hs', q2⟩
        · exact e1.2 q2
        · rw [q2] at this
          have := (nI_eq (by omega) (by omega)).mp this
          omega
      rw [hs t ht, stp_stop hno 1 (by omega) t ht, stp_stop hno (k + 1) (by omega) t ht]
    · rw [if_neg ce]
      obtain ⟨j1, j2⟩ := mG_p hn mX k (u + 1) (mI P r (u + 1) P.2 n) (by omega) (fun a b ha => by rw [i1.2.2]; exact hr a b ha) hs hbits
      refine ⟨frX7_tr i1 j1, fun t ht => ?_⟩
      rw [j2 t ht, show u + 1 + k = u + (k + 1) by omega]
theorem measF_p {S : RS} {n r b : Nat} {X : Nat → Nat → Bool} (hn : n ≤ 40) (hb : b < n) (hr : rIs S n r X) (mX : ∀ a b, X a b = true → a < n ∧ b < n) : frX7 S (measF S n r b) ∧ ∀ t, t < n → (measF S n r b).2.1 7 t = stp X n b (n - 1) t := by
  have f0 : frX7 S (sA (fillF S 7 (-1)) 7 b (nI 0)) := frX7_tr (P' := fillF S 7 (-1)) ⟨rfl, fun q j hq => by show (if q = 7 then _ else _) = _; rw [if_neg hq], rfl⟩ (frX7_sA _ _ _)
  have s0 : ∀ t, (sA (fillF S 7 (-1)) 7 b (nI 0)).2.1 7 t = if t = b then nI 0 else -1 := fun t => by
    show (if 7 = 7 ∧ t = b then nI 0 else (if 7 = 7 then -1 else S.2.1 7 t)) = _
    by_cases e : t = b
    · rw [if_pos ⟨rfl, e⟩, if_pos e]
    · rw [if_neg (fun q => e q.2), if_neg e, if_pos rfl]
  obtain ⟨j1, j2⟩ := mG_p (b := b) hn mX (n - 1) 0 (sA (fillF S 7 (-1)) 7 b (nI 0), bitN b) (by omega) hr (fun t _ => s0 t) (fun t => by
    rw [tb_bit (by omega), decide_eq_decide]
    show t = b ↔ t < n ∧ ¬ (if t = b then nI 0 else -1) = -1
    by_cases e : t = b
    · rw [if_pos e]
      exact ⟨fun _ => ⟨by omega, by decide⟩, fun _ => e⟩
    · rw [if_neg e]
      exact ⟨fun q => absurd q e, fun q => absurd rfl q.2⟩)
  refine ⟨frX7_tr f0 j1, fun t ht => ?_⟩
  have := j2 t ht
  rw [show 0 + (n - 1) = n - 1 by omega] at this
  exact this
/-! routes -/
theorem near_at {S : RS} {r a w : Nat} (h1 : hX S r a w = true ∧ S.2.1 7 w = S.2.1 7 a - nI 1) : ∀ (k c : Nat), c ≤ w → w < c + k → (∀ x, c ≤ x → x < w → ¬ (hX S r a x = true ∧ S.2.1 7 x = S.2.1 7 a - nI 1)) → nearG S r a k c = w
  | 0, _, _, _, _ => by omega
  | k + 1, c, q1, q2, h => by
    show (if hX S r a c ∧ S.2.1 7 c = S.2.1 7 a - nI 1 then c else nearG S r a k (c + 1)) = w
    by_cases e : c = w
    · subst e
      rw [if_pos h1]
    · rw [if_neg (h c (Nat.le_refl c) (by omega))]
      exact near_at h1 k (c + 1) (by omega) (by omega) (fun x q3 q4 => h x (by omega) q4)
theorem nr_at {S : MS} {r a w : Nat} (h1 : nC S r a w = true) : ∀ (k c : Nat), c ≤ w → w < c + k → (∀ x, c ≤ x → x < w → nC S r a x = false) → nrM S r a k c = w
  | 0, _, _, _, _ => by omega
  | k + 1, c, q1, q2, h => by
    show (if nC S r a c then c else nrM S r a k (c + 1)) = w
    by_cases e : c = w
    · subst e
      rw [if_pos h1]
    · rw [if_neg (by rw [h c (Nat.le_refl c) (by omega)]; decide)]
      exact nr_at h1 k (c + 1) (by omega) (by omega) (fun x q3 q4 => h x (by omega) q4)
theorem route_eq {S : RS} {M : MS} {n r b a d : Nat} {X : Nat → Nat → Bool} (hn : n ≤ 40) (ha : a < n) (kX : rIs S n r X) (hX' : ∀ a b, a < n → b < n → pM M r a b = X a b) (sX : ∀ t, t < n → S.2.1 7 t = stp X n b (n - 1) t) (sM : ∀ t, t < n → M.2.1 7 t = stp X n b (n - 1) t) (hd : stp X n b (n - 1) a = nI d) (hd1 : d ≤ n - 1) : ∀ (k : Nat), k ≤ d → routF S r n a k = rtM M r n a k ∧ rtM M r n a k < n ∧ stp X n b (n - 1) (rtM M r n a k) = nI (d - k) ∧ (k < d → ∃ w, w < n ∧ nC M r (rtM M r n a k) w = true) := by
  have step : ∀ p s, p < n → s < n - 1 → stp X n b (n - 1) p = nI (s + 1) → ∃ w, w < n ∧ nearG S r p n 0 = w ∧ nrM M r p n 0 = w ∧ nC M r p w = true ∧ stp X n b (n - 1) w = nI s := fun p s hp hs h => by
    obtain ⟨x, hx, q1, q2⟩ := stp_prev (X := X) (n := n) (b := b) (n - 1) (by omega) hs h
    have hc : ∀ y, y < n → nC M r p y = (X p y && decide (stp X n b (n - 1) y = nI s)) := fun y hy => by
      unfold nC
      rw [hX' p y hp hy, sM y hy, sM p hp, h, show nI (s + 1) - nI 1 = nI s from nI_pred s]
    have hc2 : ∀ y, y < n → ((hX S r p y = true ∧ S.2.1 7 y = S.2.1 7 p - nI 1) ↔ (X p y && decide (stp X n b (n - 1) y = nI s)) = true) := fun y hy => by
      unfold hX
      rw [kX p y hp, sX y hy, sX p hp, h, show nI (s + 1) - nI 1 = nI s from nI_pred s]
      simp
    obtain ⟨w, hw, w1, w2⟩ := least_ex (f := fun y => X p y && decide (stp X n b (n - 1) y = nI s)) n ⟨x, hx, by rw [q1, q2]; simp⟩
    refine ⟨w, hw, near_at ((hc2 w hw).mpr w1) n 0 (by omega) (by omega) (fun y _ hy q => ?_), nr_at (by rw [hc w hw]; exact w1) n 0 (by omega) (by omega) (fun y _ hy => by rw [hc y (by omega)]; exact w2 y hy), by rw [hc w hw]; exact w1, ?_⟩
    · have := w2 y hy
      rw [(hc2 y (by omega)).mp q] at this
      exact absurd this (by decide)
    · simp only [Bool.and_eq_true, decide_eq_true_eq] at w1
      exact w1.2
  have more : ∀ p s, p < n → s ≤ n - 1 → stp X n b (n - 1) p = nI s → 0 < s → ∃ w, w < n ∧ nC M r p w = true := fun p s hp hs h h0 => by
    obtain ⟨s', rfl⟩ : ∃ s', s = s' + 1 := ⟨s - 1, by omega⟩
    obtain ⟨w, hw, -, -, q, -⟩ := step p s' hp (by omega) h
    exact ⟨w, hw, q⟩
  intro k
  induction k with
  | zero => exact fun _ => ⟨rfl, ha, hd, fun h => more a d ha hd1 hd h⟩
  | succ k ih =>
    intro hk
    obtain ⟨i1, i2, i3, -⟩ := ih (by omega)
    rw [show d - k = (d - (k + 1)) + 1 by omega] at i3
    obtain ⟨w, hw, q1, q2, -, q4⟩ := step _ _ i2 (by omega) i3
    have e1 : routF S r n a (k + 1) = w := by show nearG S r (routF S r n a k) n 0 = w; rw [i1]; exact q1
    have e2 : rtM M r n a (k + 1) = w := q2
    rw [e1, e2]
    exact ⟨rfl, hw, q4, fun h => more w _ hw (by omega) q4 (by omega)⟩
