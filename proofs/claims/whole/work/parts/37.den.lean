/-! what a relation holds -/
def thB (X Y : Nat → Nat → Bool) (a b : Nat) : Nat → Bool
  | 0 => false
  | k + 1 => thB X Y a b k || (X a k && Y k b)
def stB (X : Nat → Nat → Bool) (u a b : Nat) : Bool := X a b || (X a u && X u b)
def clB (X : Nat → Nat → Bool) : Nat → Nat → Nat → Bool
  | 0 => X
  | k + 1 => stB (clB X k) k
def cndI (n : Nat) (f : Int32) (X Y : Nat → Nat → Bool) (a b : Nat) : Bool :=
  if f = nI 10 then X b a else if f = nI 11 then !X a b else if f = nI 12 then X a b && Y a b else if f = nI 13 then X a b || Y a b else if f = nI 14 then thB X Y a b n else clB X n a b
def cnd (n : Nat) (f : Int32) (X Y : Nat → Nat → Bool) (a b : Nat) : Bool := decide (a < n) && (decide (b < n) && cndI n f X Y a b)
def dnK (F O T : Nat → Int32) (n : Nat) (P : Nat → Nat → Nat → Bool) : Nat → Nat → Nat → Nat → Bool
  | 0 => P
  | k + 1 => fun r => if r = k ∧ ¬ F k < nI 10 then cnd n (F k) (dnK F O T n P k (ixN (O k))) (dnK F O T n P k (ixN (T k))) else dnK F O T n P k r
def wfD (F O T : Nat → Int32) (R : Nat) : Prop := ∀ r, r < R → (∃ f, f ≤ 6 ∧ F r = nI f) ∨ (∃ cn j, cn < 6 ∧ F r = nI (10 + cn) ∧ j < r ∧ O r = nI j ∧ ixN (T r) < r ∧ (2 ≤ cn → cn ≤ 4 → ∃ t, t < r ∧ T r = nI t))
theorem thB_congr {X X' Y Y' : Nat → Nat → Bool} {a b : Nat} : ∀ (k : Nat), (∀ u, u < k → X a u = X' a u) → (∀ u, u < k → Y u b = Y' u b) → thB X Y a b k = thB X' Y' a b k
  | 0, _, _ => rfl
  | k + 1, h1, h2 => by
    show (thB X Y a b k || (X a k && Y k b)) = (thB X' Y' a b k || (X' a k && Y' k b))
    rw [thB_congr k (fun u hu => h1 u (by omega)) (fun u hu => h2 u (by omega)), h1 k (by omega), h2 k (by omega)]
theorem clB_congr {X X' : Nat → Nat → Bool} {n : Nat} (h : ∀ a b, a < n → b < n → X a b = X' a b) : ∀ (k : Nat), k ≤ n → ∀ a b, a < n → b < n → clB X k a b = clB X' k a b
  | 0, _, a, b, ha, hb => h a b ha hb
  | k + 1, hk, a, b, ha, hb => by
    show stB (clB X k) k a b = stB (clB X' k) k a b
    unfold stB
    rw [clB_congr h k (by omega) a b ha hb, clB_congr h k (by omega) a k ha (by omega), clB_congr h k (by omega) k b (by omega) hb]
theorem cndI_congr {n : Nat} {f : Int32} {X X' Y Y' : Nat → Nat → Bool} (h1 : ∀ a b, a < n → b < n → X a b = X' a b) (h2 : ∀ a b, a < n → b < n → Y a b = Y' a b) {a b : Nat} (ha : a < n) (hb : b < n) : cndI n f X Y a b = cndI n f X' Y' a b := by
  unfold cndI
  rw [h1 a b ha hb, h1 b a hb ha, h2 a b ha hb, thB_congr n (fun u hu => h1 a u ha hu) (fun u hu => h2 u b hu hb), clB_congr h1 n (Nat.le_refl n) a b ha hb]
theorem cnd_congr {n : Nat} {f : Int32} {X X' Y Y' : Nat → Nat → Bool} (h1 : ∀ a b, a < n → b < n → X a b = X' a b) (h2 : ∀ a b, a < n → b < n → Y a b = Y' a b) (a b : Nat) : cnd n f X Y a b = cnd n f X' Y' a b := by
  unfold cnd
  by_cases ha : a < n
  · by_cases hb : b < n
    · rw [cndI_congr h1 h2 ha hb]
    · simp [hb]
  · simp [ha]
theorem cnd_in {n : Nat} {f : Int32} {X Y : Nat → Nat → Bool} {a b : Nat} (ha : a < n) (hb : b < n) : cnd n f X Y a b = cndI n f X Y a b := by
  unfold cnd
  simp [ha, hb]
theorem cnd_mask {n : Nat} {f : Int32} {X Y : Nat → Nat → Bool} {a b : Nat} (h : cnd n f X Y a b = true) : a < n ∧ b < n := by
  unfold cnd at h
  simp only [Bool.and_eq_true, decide_eq_true_eq] at h
  exact ⟨h.1, h.2.1⟩
section DN
variable {F O T : Nat → Int32} {n : Nat} {P : Nat → Nat → Nat → Bool}
theorem dnK_ne {k r : Nat} (h : ¬ r = k) : dnK F O T n P (k + 1) r = dnK F O T n P k r := by
  show (if r = k ∧ ¬ F k < nI 10 then _ else _) = _
  rw [if_neg (fun q => h q.1)]
theorem dnK_up {r k : Nat} (h : r < k) : ∀ (m : Nat), dnK F O T n P (k + m) r = dnK F O T n P k r
  | 0 => rfl
  | m + 1 => by
    rw [show k + (m + 1) = (k + m) + 1 by omega, dnK_ne (by omega), dnK_up h m]
theorem dnK_eq {r k k' : Nat} (h : r < k) (h' : r < k') : dnK F O T n P k r = dnK F O T n P k' r := by
  have e1 := dnK_up (F := F) (O := O) (T := T) (n := n) (P := P) (r := r) (k := r + 1) (by omega) (k - (r + 1))
  have e2 := dnK_up (F := F) (O := O) (T := T) (n := n) (P := P) (r := r) (k := r + 1) (by omega) (k' - (r + 1))
  rw [show r + 1 + (k - (r + 1)) = k by omega] at e1
  rw [show r + 1 + (k' - (r + 1)) = k' by omega] at e2
  rw [e1, e2]
theorem dnK_ge {r : Nat} : ∀ {k : Nat}, k ≤ r → dnK F O T n P k r = P r
  | 0, _ => rfl
  | k + 1, h => by rw [dnK_ne (by omega), dnK_ge (by omega)]
theorem dnK_form {r : Nat} (hf : F r < nI 10) : ∀ (k : Nat), dnK F O T n P k r = P r
  | 0 => rfl
  | k + 1 => by
    show (if r = k ∧ ¬ F k < nI 10 then _ else _) = _
    rw [if_neg (fun q => q.2 (q.1 ▸ hf)), dnK_form hf k]
theorem dnK_cond {r k : Nat} (h : r < k) (hf : ¬ F r < nI 10) (h1 : ixN (O r) < r) (h2 : ixN (T r) < r) : dnK F O T n P k r = cnd n (F r) (dnK F O T n P k (ixN (O r))) (dnK F O T n P k (ixN (T r))) := by
  rw [dnK_eq (k' := r + 1) h (by omega)]
  show (if r = r ∧ ¬ F r < nI 10 then _ else _) = _
  rw [if_pos ⟨rfl, hf⟩, dnK_eq (r := ixN (O r)) (k := r) (k' := k) h1 (by omega), dnK_eq (r := ixN (T r)) (k := r) (k' := k) h2 (by omega)]
theorem dnK_mask (hP : ∀ r a b, P r a b = true → a < n ∧ b < n) : ∀ (k r a b : Nat), dnK F O T n P k r a b = true → a < n ∧ b < n
  | 0, r, a, b, h => hP r a b h
  | k + 1, r, a, b, h => by
    by_cases c : r = k ∧ ¬ F k < nI 10
    · have e : dnK F O T n P (k + 1) r = cnd n (F k) (dnK F O T n P k (ixN (O k))) (dnK F O T n P k (ixN (T k))) := if_pos c
      rw [e] at h
      exact cnd_mask h
    · have e : dnK F O T n P (k + 1) r = dnK F O T n P k r := if_neg c
      rw [e] at h
      exact dnK_mask hP k r a b h
theorem dnK_congr {F' O' T' : Nat → Int32} {P' : Nat → Nat → Nat → Bool} {R : Nat} (hR12 : R ≤ 12) (hw : wfD F O T R) (hF : ∀ r, r < R → F r = F' r ∧ O r = O' r ∧ T r = T' r) (hP : ∀ r, r < R → F r < nI 10 → ∀ a b, P r a b = P' r a b) : ∀ (m r : Nat), r < m → r < R → ∀ k k', r < k → r < k' → ∀ a b, dnK F O T n P k r a b = dnK F' O' T' n P' k' r a b
  | 0, r, h, _, _, _, _, _, _, _ => by omega
  | m + 1, r, h, hR, k, k', hk, hk', a, b => by
    obtain ⟨e1, e2, e3⟩ := hF r hR
    by_cases hf : F r < nI 10
    · rw [dnK_form hf, dnK_form (e1 ▸ hf), hP r hR hf a b]
    · rcases hw r hR with ⟨f, h6, q⟩ | ⟨cn, j, h6, q, hj, q1, q2, -⟩
      · exact absurd (by rw [q]; exact nI_lt (by omega) (by decide)) hf
      · have h1 : ixN (O r) < r := by rw [q1, ixN_nI (by omega)] <;> omega
        rw [dnK_cond hk hf h1 q2, dnK_cond (F := F') (O := O') (T := T') hk' (e1 ▸ hf) (e2 ▸ h1) (e3 ▸ q2), ← e1, ← e2, ← e3]
        exact cnd_congr (fun a b _ _ => dnK_congr hR12 hw hF hP m _ (by omega) (by omega) k k' (by omega) (by omega) a b) (fun a b _ _ => dnK_congr hR12 hw hF hP m _ (by omega) (by omega) k k' (by omega) (by omega) a b) a b
end DN
def qP (M : MS) (n r a b : Nat) : Bool := decide (a < n) && (decide (b < n) && pM M r a b)
theorem qP_in {M : MS} {n r a b : Nat} (ha : a < n) (hb : b < n) : qP M n r a b = pM M r a b := by unfold qP; simp [ha, hb]
theorem qP_mask {M : MS} {n : Nat} (r a b : Nat) (h : qP M n r a b = true) : a < n ∧ b < n := by
  unfold qP at h
  simp only [Bool.and_eq_true, decide_eq_true_eq] at h
  exact ⟨h.1, h.2.1⟩
def dn (M : MS) (n : Nat) : Nat → Nat → Nat → Bool := dnK (M.2.1 1) (M.2.1 2) (M.2.1 3) n (qP M n) 12
theorem dn_mask {M : MS} {n : Nat} (r a b : Nat) (h : dn M n r a b = true) : a < n ∧ b < n := dnK_mask (fun r a b => qP_mask r a b) 12 r a b h
theorem dn_form {M : MS} {n r a b : Nat} (hf : M.2.1 1 r < nI 10) : dn M n r a b = qP M n r a b := by unfold dn; rw [dnK_form hf]
/-! the class's rows -/
def rIs (S : RS) (n r : Nat) (X : Nat → Nat → Bool) : Prop := ∀ a b, a < n → tb (S.2.2 r a) b = X a b
theorem allL_tb : ∀ n, n ≤ 40 → ∀ i, i < 64 → tb (allL n) i = decide (i < n) := by decide +kernel
theorem colF_tb (S : RS) (r b : Nat) : ∀ (k : Nat), k ≤ 64 → ∀ i, tb (colF S r b k) i = (decide (i < k) && hX S r i b)
  | 0, _, i => by
    show tb 0 i = _
    rw [tb_0]; simp
  | k + 1, hk, i => by
    have ih := colF_tb S r b k (by omega) i
    show tb (if hX S r k b then colF S r b k ||| bitN k else colF S r b k) i = _
    by_cases e : i = k
    · subst e
      cases h : hX S r i b with
      | true => rw [if_pos rfl, tb_or, tb_bit (by omega)]; simp
      | false => rw [if_neg (by decide), ih]; simp [h]
    · have e2 : decide (i < k + 1) = decide (i < k) := by
        rw [Bool.eq_iff_iff]; simp; omega
      rw [e2, ← ih]
      split
      · rw [tb_or, tb_bit (by omega)]; simp [e]
      · rfl
theorem thrF_tb (S : RS) (r s a b : Nat) : ∀ (k : Nat), tb (thrF S r s a k) b = thB (fun x y => tb (S.2.2 r x) y) (fun x y => tb (S.2.2 s x) y) a b k
  | 0 => tb_0 b
  | k + 1 => by
    have ih := thrF_tb S r s a b k
    show tb (if hX S r a k then thrF S r s a k ||| S.2.2 s k else thrF S r s a k) b = (thB _ _ a b k || (tb (S.2.2 r a) k && tb (S.2.2 s k) b))
    rw [← ih]
    cases h : hX S r a k with
    | true =>
      have h' : tb (S.2.2 r a) k = true := h
      rw [if_pos rfl, tb_or, h', Bool.true_and]
    | false =>
      have h' : tb (S.2.2 r a) k = false := h
      rw [if_neg (by decide), h', Bool.false_and, Bool.or_false]
theorem sub10 : ∀ cn, cn < 6 → nI (10 + cn) - nI 10 = nI cn := by decide +kernel
theorem rowF_tb {S : RS} {n r t : Nat} {X Y : Nat → Nat → Bool} (hn : n ≤ 40) (kX : rIs S n r X) (kY : rIs S n t Y) (mX : ∀ a b, X a b = true → a < n ∧ b < n) (mY : ∀ a b, Y a b = true → a < n ∧ b < n) {cn : Nat} (hc : cn < 5) {a : Nat} (ha : a < n) (b : Nat) : tb (rowF S n (nI cn) r t a) b = cnd n (nI (10 + cn)) X Y a b := by
  have fX : ∀ b, ¬ b < n → X a b = false := fun b h => by
    cases e : X a b with
    | false => rfl
    | true => exact absurd (mX a b e).2 h
  have fY : ∀ u b, ¬ b < n → Y u b = false := fun u b h => by
    cases e : Y u b with
    | false => rfl
    | true => exact absurd (mY u b e).2 h
  unfold cnd cndI
  simp only [ha, decide_true, Bool.true_and]
  match cn, hc with
  | 0, _ =>
    show tb (colF S r a n) b = _
    rw [colF_tb S r a n (by omega), if_pos (rfl : nI (10 + 0) = nI 10)]
    by_cases hb : b < n
    · simp only [hb, decide_true, Bool.true_and]
      exact kX b a hb
    · simp [hb]
  | 1, _ =>
    show tb ((S.2.2 r a ^^^ (-1)) &&& allL n) b = _
    rw [tb_and, tb_xor, kX a b ha]
    by_cases h64 : b < 64
    · rw [tb_m1 b h64, allL_tb n hn b h64, if_neg (by decide), if_pos rfl]
      by_cases hb : b < n <;> simp [hb]
    · rw [tb_big (x := allL n) (by omega)]
      simp
      omega
  | 2, _ =>
    show tb (S.2.2 r a &&& S.2.2 t a) b = _
    rw [tb_and, kX a b ha, kY a b ha, if_neg (by decide), if_neg (by decide), if_pos rfl]
    by_cases hb : b < n
    · simp [hb]
    · rw [fX b hb]; simp
  | 3, _ =>
    show tb (S.2.2 r a ||| S.2.2 t a) b = _
    rw [tb_or, kX a b ha, kY a b ha, if_neg (by decide), if_neg (by decide), if_neg (by decide), if_pos rfl]
    by_cases hb : b < n
    · simp [hb]
    · rw [fX b hb, fY a b hb]; simp [hb]
  | 4, _ =>
    show tb (thrF S r t a n) b = _
    rw [thrF_tb, if_neg (by decide), if_neg (by decide), if_neg (by decide), if_neg (by decide), if_pos rfl, thB_congr n (X' := X) (Y' := Y) (fun u hu => kX a u ha) (fun u hu => kY u b hu)]
    by_cases hb : b < n
    · simp [hb]
    · have : ∀ k, thB X Y a b k = false := fun k => by
        induction k with
        | zero => rfl
        | succ k ih => show (thB X Y a b k || (X a k && Y k b)) = false; rw [ih, fY k b hb]; simp
      rw [this]; simp
theorem rowF_congr {S S' : RS} {n r t a : Nat} {c0 : Int32} (h1 : ∀ a, S'.2.2 r a = S.2.2 r a) (h2 : ∀ a, S'.2.2 t a = S.2.2 t a) : rowF S' n c0 r t a = rowF S n c0 r t a := by
  have e1 : ∀ k, colF S' r a k = colF S r a k := fun k => by
    induction k with
    | zero => rfl
    | succ k ih => unfold colF hX; rw [ih, h1]
  have e2 : ∀ k, thrF S' r t a k = thrF S r t a k := fun k => by
    induction k with
    | zero => rfl
    | succ k ih => unfold thrF hX; rw [ih, h1, h2]
  unfold rowF
  rw [e1, e2, h1, h2]
theorem wOF_row {S : RS} {n r j t : Nat} (hj : ¬ j = r) (ht : ¬ t = r) (h1 : ixN (S.2.1 3 r) = j) (h2 : ixN (S.2.1 4 r) = t) : ∀ (k : Nat) (q a : Nat), (wOF S n r k).2.2 q a = if q = r ∧ a < k then rowF S n (S.2.1 2 r - nI 10) j t a else S.2.2 q a
  | 0, q, a => by
    rw [if_neg (by omega)]; rfl
  | k + 1, q, a => by
    have ih := wOF_row (n := n) hj ht h1 h2 k
    show up2 (wOF S n r k).2.2 r k _ q a = _
    unfold up2
    rw [h1, h2]
    rw [rowF_congr (S := S) (fun a => by rw [ih, if_neg (by omega)]) (fun a => by rw [ih, if_neg (by omega)])]
    by_cases e : q = r ∧ a = k
    · rw [if_pos e, if_pos ⟨e.1, by omega⟩, e.2]
    · rw [if_neg e, ih]
      by_cases e2 : q = r ∧ a < k
      · rw [if_pos e2, if_pos ⟨e2.1, by omega⟩]
      · rw [if_neg e2, if_neg (by omega)]
theorem fI_tb {S : RS} {r u : Nat} : ∀ (k : Nat), (∀ q a, ¬ q = r → (fI S r u k).2.2 q a = S.2.2 q a) ∧ ∀ a b, tb ((fI S r u k).2.2 r a) b = if a < k then stB (fun x y => tb (S.2.2 r x) y) u a b else tb (S.2.2 r a) b
  | 0 => ⟨fun _ _ _ => rfl, fun a b => by rw [if_neg (by omega)]; rfl⟩
  | k + 1 => by
    obtain ⟨i1, i2⟩ := fI_tb (S := S) (r := r) (u := u) k
    have hu : ∀ b, tb ((fI S r u k).2.2 r u) b = tb (S.2.2 r u) b := fun b => by
      rw [i2]
      split
      · simp only [stB]
        cases tb (S.2.2 r u) b <;> cases tb (S.2.2 r u) u <;> rfl
      · rfl
    have hk : hX (fI S r u k) r k u = tb (S.2.2 r k) u := by
      unfold hX
      rw [i2, if_neg (by omega)]
    have hkk : ∀ b, tb ((fI S r u k).2.2 r k) b = tb (S.2.2 r k) b := fun b => by rw [i2, if_neg (by omega)]
    show (∀ q a, ¬ q = r → (if hX (fI S r u k) r k u then sW (fI S r u k) r k ((fI S r u k).2.2 r k ||| (fI S r u k).2.2 r u) else fI S r u k).2.2 q a = S.2.2 q a) ∧ ∀ a b, tb ((if hX (fI S r u k) r k u then sW (fI S r u k) r k ((fI S r u k).2.2 r k ||| (fI S r u k).2.2 r u) else fI S r u k).2.2 r a) b = if a < k + 1 then stB (fun x y => tb (S.2.2 r x) y) u a b else tb (S.2.2 r a) b
    rw [hk]
    cases h : tb (S.2.2 r k) u with
    | true =>
      rw [if_pos rfl]
      refine ⟨fun q a hq => ?_, fun a b => ?_⟩
      · show up2 _ r k _ q a = _
        unfold up2
        rw [if_neg (fun e => hq e.1), i1 q a hq]
      · show tb (up2 _ r k _ r a) b = _
        unfold up2
        by_cases e : a = k
        · subst e
          rw [if_pos ⟨rfl, rfl⟩, tb_or, hkk, hu, if_pos (by omega)]
          simp only [stB]
          rw [h]; simp
        · rw [if_neg (fun q => e q.2), i2]
          by_cases e2 : a < k
          · rw [if_pos e2, if_pos (by omega)]
          · rw [if_neg e2, if_neg (by omega)]
    | false =>
      rw [if_neg (by decide)]
      refine ⟨i1, fun a b => ?_⟩
      rw [i2]
      by_cases e : a = k
      · subst e
        rw [if_neg (by omega), if_pos (by omega)]
        simp only [stB]
        rw [h]; simp
      · by_cases e2 : a < k
        · rw [if_pos e2, if_pos (by omega)]
        · rw [if_neg e2, if_neg (by omega)]
theorem fO_tb {S : RS} {r n : Nat} {X : Nat → Nat → Bool} (kX : ∀ a b, a < n → tb (S.2.2 r a) b = X a b) : ∀ (k : Nat), k ≤ n → (∀ q a, ¬ q = r → (fO S r n k).2.2 q a = S.2.2 q a) ∧ ∀ a b, a < n → tb ((fO S r n k).2.2 r a) b = clB X k a b
  | 0, _ => ⟨fun _ _ _ => rfl, fun a b ha => kX a b ha⟩
  | k + 1, hk => by
    obtain ⟨i1, i2⟩ := fO_tb kX k (by omega)
    obtain ⟨j1, j2⟩ := fI_tb (S := fO S r n k) (r := r) (u := k) n
    refine ⟨fun q a hq => ?_, fun a b ha => ?_⟩
    · exact (j1 q a hq).trans (i1 q a hq)
    · refine (j2 a b).trans ?_
      rw [if_pos ha]
      show stB _ k a b = stB (clB X k) k a b
      simp only [stB]
      rw [i2 a b ha, i2 a k ha, i2 k b (by omega)]
theorem clB_mask {X : Nat → Nat → Bool} {n : Nat} (mX : ∀ a b, X a b = true → a < n ∧ b < n) : ∀ (k a b : Nat), clB X k a b = true → a < n ∧ b < n
  | 0, a, b, h => mX a b h
  | k + 1, a, b, h => by
    have h : stB (clB X k) k a b = true := h
    unfold stB at h
    simp only [Bool.or_eq_true, Bool.and_eq_true] at h
    rcases h with h | ⟨h1, h2⟩
    · exact clB_mask mX k a b h
    · exact ⟨(clB_mask mX k a k h1).1, (clB_mask mX k k b h2).2⟩
theorem workF_tb {S : RS} {n r j t cn : Nat} {X Y : Nat → Nat → Bool} (hn : n ≤ 40) (hcn : cn < 6) (hf : S.2.1 2 r = nI (10 + cn)) (hj : j < r) (ht : t < r) (h1 : ixN (S.2.1 3 r) = j) (h2 : ixN (S.2.1 4 r) = t) (kX : rIs S n j X) (kY : rIs S n t Y) (mX : ∀ a b, X a b = true → a < n ∧ b < n) (mY : ∀ a b, Y a b = true → a < n ∧ b < n) :
    (∀ q a, ¬ q = r → (workF S n r).2.2 q a = S.2.2 q a) ∧ rIs (workF S n r) n r (cnd n (nI (10 + cn)) X Y) := by
  unfold workF
  by_cases h15 : cn = 5
  · subst h15
    rw [if_pos hf]
    unfold farF
    have hx0 : ∀ a b, a < n → tb ((cpF S r (ixN (S.2.1 3 r))).2.2 r a) b = X a b := fun a b ha => by
      show tb (if r = r then S.2.2 (ixN (S.2.1 3 r)) a else _) b = _
      rw [if_pos rfl, h1]
      exact kX a b ha
    obtain ⟨i1, i2⟩ := fO_tb hx0 n (Nat.le_refl n)
    refine ⟨fun q a hq => ?_, fun a b ha => ?_⟩
    · rw [i1 q a hq]
      show (if q = r then _ else S.2.2 q a) = _
      rw [if_neg hq]
    · rw [i2 a b ha]
      by_cases hb : b < n
      · rw [cnd_in ha hb]
        rfl
      · have e1 : clB X n a b = false := by
          cases e : clB X n a b with
          | false => rfl
          | true => exact absurd (clB_mask mX n a b e).2 hb
        rw [e1]
        unfold cnd
        simp [hb]
  · have hne : ¬ S.2.1 2 r = nI 15 := by
      rw [hf]
      intro e
      have := (nI_eq (by omega) (by decide)).mp e
      omega
    rw [if_neg hne]
    have w := wOF_row (S := S) (n := n) (r := r) (by omega) (by omega) h1 h2
    refine ⟨fun q a hq => ?_, fun a b ha => ?_⟩
    · rw [w n q a, if_neg (fun e => hq e.1)]
    · rw [w n r a, if_pos ⟨rfl, ha⟩, hf, sub10 cn hcn]
      exact rowF_tb hn kX kY mX mY (by omega) ha b
def stF (S : RS) (M : MS) (n R t : Nat) : Prop := ∀ r, r < R → (M.2.1 1 r < nI 10 ∨ r < t) → rIs S n r (dn M n r)
def eqF (S : RS) (M : MS) (R : Nat) : Prop := ∀ r, r < R → S.2.1 2 r = M.2.1 1 r ∧ S.2.1 3 r = M.2.1 2 r ∧ S.2.1 4 r = M.2.1 3 r
abbrev wfN (M : MS) (R : Nat) : Prop := wfD (M.2.1 1) (M.2.1 2) (M.2.1 3) R
theorem wf_ge {M : MS} {R r : Nat} (hw : wfN M R) (hr : r < R) (hf : ¬ M.2.1 1 r < nI 10) : ∃ cn j, cn < 6 ∧ M.2.1 1 r = nI (10 + cn) ∧ j < r ∧ M.2.1 2 r = nI j ∧ ixN (M.2.1 3 r) < r ∧ (2 ≤ cn → cn ≤ 4 → ∃ t, t < r ∧ M.2.1 3 r = nI t) := by
  rcases hw r hr with ⟨f, h6, q⟩ | h
  · exact absurd (by rw [q]; exact nI_lt (by omega) (by decide)) hf
  · exact h
theorem dn_cond {M : MS} {n r : Nat} (hr : r < 12) (hf : ¬ M.2.1 1 r < nI 10) (h1 : ixN (M.2.1 2 r) < r) (h2 : ixN (M.2.1 3 r) < r) : dn M n r = cnd n (M.2.1 1 r) (dn M n (ixN (M.2.1 2 r))) (dn M n (ixN (M.2.1 3 r))) := dnK_cond hr hf h1 h2
theorem setF_st {S : RS} {M : MS} {n R t : Nat} (hn : n ≤ 40) (hR : R ≤ 12) (hw : wfN M R) (he : eqF S M R) (hs : stF S M n R t) : ∀ (k : Nat), t + k ≤ R → stF (setF S n t k) M n R (t + k)
  | 0, _ => hs
  | k + 1, hk => by
    have ih := setF_st hn hR hw he hs k (by omega)
    have e1 := setF_1 S n t k
    show stF (if byC (setF S n t k) (t + k) then workF (setF S n t k) n (t + k) else setF S n t k) M n R (t + k + 1)
    obtain ⟨f1, f2, f3⟩ := he (t + k) (by omega)
    have hb : byC (setF S n t k) (t + k) = decide (¬ M.2.1 1 (t + k) < nI 10) := by
      unfold byC
      rw [e1.2, f1]
    rw [hb]
    by_cases hf : M.2.1 1 (t + k) < nI 10
    · rw [if_neg (by simp [hf])]
      intro r hr hq
      refine ih r hr ?_
      by_cases e : r = t + k
      · subst e; exact Or.inl hf
      · rcases hq with q | q
        · exact Or.inl q
        · exact Or.inr (by omega)
    · rw [if_pos (by simp [hf])]
      obtain ⟨cn, j, h6, q, hj, q1, q2, -⟩ := wf_ge hw (by omega) hf
      have hj' : ixN (M.2.1 2 (t + k)) = j := by rw [q1, ixN_nI (by omega)]
      have W := workF_tb (S := setF S n t k) (n := n) (r := t + k) (j := j) (t := ixN (M.2.1 3 (t + k))) hn h6 (by rw [e1.2, f1, q]) hj q2 (by rw [e1.2, f2]; exact hj') (by rw [e1.2, f3]) (ih j (by omega) (Or.inr (by omega))) (ih _ (by omega) (Or.inr (by omega))) (fun a b => dn_mask _ a b) (fun a b => dn_mask _ a b)
      intro r hr hq
      by_cases e : r = t + k
      · subst e
        rw [dn_cond (by omega) hf (by omega) q2, hj', q]
        exact W.2
      · intro a b ha
        rw [W.1 r a e]
        refine ih r hr ?_ a b ha
        rcases hq with q | q
        · exact Or.inl q
        · exact Or.inr (by omega)
theorem stlF_st {S : RS} {M : MS} {n R t r : Nat} (hn : n ≤ 40) (hR : R ≤ 12) (hw : wfN M R) (he : eqF S M R) (hs : stF S M n R t) (ht : t ≤ R) (hr : r < R) : stF (stlF S n t r) M n R (max t (r + 1)) := by
  have h := setF_st hn hR hw he hs (max t (r + 1) - t) (by omega)
  rw [show t + (max t (r + 1) - t) = max t (r + 1) by omega] at h
  exact h
/-! the model's pairs -/
theorem ixP_inj {r a b r' a' b' : Nat} (h1 : a < 40) (h2 : b < 40) (h3 : a' < 40) (h4 : b' < 40) : ixP r a b = ixP r' a' b' ↔ (r = r' ∧ a = a' ∧ b = b') := by
  unfold ixP
  constructor
  · intro h
    omega
  · rintro ⟨rfl, rfl, rfl⟩; rfl
theorem pM_sW {M : MS} {r a b r' a' b' : Nat} {v : Bool} (h1 : a < 40) (h2 : b < 40) (h3 : a' < 40) (h4 : b' < 40) : pM (sW M 0 (ixP r a b) v) r' a' b' = if r' = r ∧ a' = a ∧ b' = b then v else pM M r' a' b' := by
  show (if 0 = 0 ∧ ixP r' a' b' = ixP r a b then v else _) = _
  by_cases e : r' = r ∧ a' = a ∧ b' = b
  · rw [if_pos e, if_pos ⟨rfl, (ixP_inj h3 h4 h1 h2).mpr e⟩]
  · rw [if_neg e, if_neg (fun q => e ((ixP_inj h3 h4 h1 h2).mp q.2))]
    rfl
theorem thM_B (M : MS) (x y a b : Nat) : ∀ k, thM M x y a b k = thB (pM M x) (pM M y) a b k
  | 0 => rfl
  | k + 1 => by show (thM M x y a b k || _) = _; rw [thM_B M x y a b k]; rfl
theorem wV_congr {S S' : MS} {n x y a b : Nat} {f : Int32} (hn : n ≤ 40) (ha : a < 40) (hb : b < 40) (h1 : ∀ a b, a < 40 → b < 40 → pM S' x a b = pM S x a b) (h2 : ∀ a b, a < 40 → b < 40 → pM S' y a b = pM S y a b) : wV S' n f x y a b = wV S n f x y a b := by
  unfold wV
  rw [h1 a b ha hb, h1 b a hb ha, h2 a b ha hb, thM_B, thM_B, thB_congr n (fun u hu => h1 a u ha (by omega)) (fun u hu => h2 u b (by omega) hb)]
theorem wB_p {S : MS} {n r x y a : Nat} {f : Int32} (hn : n ≤ 40) (ha : a < n) (hx : ¬ x = r) (hy : ¬ y = r) : ∀ (k : Nat), k ≤ n → ∀ r' a' b', a' < 40 → b' < 40 → pM (wB S n r f x y a k) r' a' b' = if r' = r ∧ a' = a ∧ b' < k then wV S n f x y a b' else pM S r' a' b'
  | 0, _, r', a', b', _, _ => by rw [if_neg (by omega)]; rfl
  | k + 1, hk, r', a', b', h1, h2 => by
    have ih := wB_p (S := S) (f := f) hn ha hx hy k (by omega)
    show pM (sW (wB S n r f x y a k) 0 (ixP r a k) (wV (wB S n r f x y a k) n f x y a k)) r' a' b' = _
    rw [pM_sW (by omega) (by omega) h1 h2, wV_congr (S := S) hn (by omega) (by omega) (fun a b h3 h4 => by rw [ih _ _ _ h3 h4, if_neg (by omega)]) (fun a b h3 h4 => by rw [ih _ _ _ h3 h4, if_neg (by omega)]), ih _ _ _ h1 h2]
    by_cases e : r' = r ∧ a' = a ∧ b' = k
    · rw [if_pos e, if_pos ⟨e.1, e.2.1, by omega⟩, e.2.2]
    · rw [if_neg e]
      by_cases e2 : r' = r ∧ a' = a ∧ b' < k
      · rw [if_pos e2, if_pos ⟨e2.1, e2.2.1, by omega⟩]
      · rw [if_neg e2, if_neg (by omega)]
theorem wA_p {S : MS} {n r x y : Nat} {f : Int32} (hn : n ≤ 40) (hx : ¬ x = r) (hy : ¬ y = r) : ∀ (k : Nat), k ≤ n → ∀ r' a' b', a' < 40 → b' < 40 → pM (wA S n r f x y k) r' a' b' = if r' = r ∧ a' < k ∧ b' < n then wV S n f x y a' b' else pM S r' a' b'
  | 0, _, r', a', b', _, _ => by rw [if_neg (by omega)]; rfl
  | k + 1, hk, r', a', b', h1, h2 => by
    have ih := wA_p (S := S) (f := f) hn hx hy k (by omega)
    show pM (wB (wA S n r f x y k) n r f x y k n) r' a' b' = _
    rw [wB_p hn (by omega) hx hy n (Nat.le_refl n) r' a' b' h1 h2, ih _ _ _ h1 h2]
    by_cases e : r' = r ∧ a' = k ∧ b' < n
    · rw [if_pos e, if_pos ⟨e.1, by omega, e.2.2⟩, e.2.1]
      exact wV_congr hn (by omega) h2 (fun a b h3 h4 => by rw [ih _ _ _ h3 h4, if_neg (by omega)]) (fun a b h3 h4 => by rw [ih _ _ _ h3 h4, if_neg (by omega)])
    · rw [if_neg e]
      by_cases e2 : r' = r ∧ a' < k ∧ b' < n
      · rw [if_pos e2, if_pos ⟨e2.1, by omega, e2.2.2⟩]
      · rw [if_neg e2, if_neg (by omega)]
theorem faG_p {r u a n : Nat} (hn : n ≤ 40) (ha : a < n) (hu : u < n) : ∀ (k b : Nat) (P : MS), b + k = n → ∀ r' a' b', a' < 40 → b' < 40 → pM (faG r u a k b P) r' a' b' = if r' = r ∧ a' = a ∧ b ≤ b' ∧ b' < n then stB (pM P r) u a b' else pM P r' a' b'
  | 0, b, P, hb, r', a', b', _, _ => by rw [if_neg (by omega)]; rfl
  | k + 1, b, P, hb, r', a', b', h1, h2 => by
    show pM (if pM P r a u then faG r u a k (b + 1) (sW P 0 (ixP r a b) (pM P r a b || pM P r u b)) else P) r' a' b' = _
    cases h : pM P r a u with
    | false =>
      rw [if_neg (by decide)]
      by_cases e : r' = r ∧ a' = a ∧ b ≤ b' ∧ b' < n
      · rw [if_pos e]
        simp only [stB]
        rw [h, e.1, e.2.1]; simp
      · rw [if_neg e]
    | true =>
      rw [if_pos rfl, faG_p hn ha hu k (b + 1) _ (by omega) r' a' b' h1 h2, pM_sW (by omega) (by omega) h1 h2]
      have hs : ∀ b', b + 1 ≤ b' → b' < n → stB (pM (sW P 0 (ixP r a b) (pM P r a b || pM P r u b)) r) u a b' = stB (pM P r) u a b' := fun b' q1 q2 => by
        have e1 : pM (sW P 0 (ixP r a b) (pM P r a b || pM P r u b)) r a b' = pM P r a b' := by rw [pM_sW (by omega) (by omega) (by omega) (by omega), if_neg (fun q => absurd q.2.2 (by omega))]
        have e2 : pM (sW P 0 (ixP r a b) (pM P r a b || pM P r u b)) r u b' = pM P r u b' := by rw [pM_sW (by omega) (by omega) (by omega) (by omega), if_neg (fun q => absurd q.2.2 (by omega))]
        have e3 : pM (sW P 0 (ixP r a b) (pM P r a b || pM P r u b)) r a u = true := by
          rw [pM_sW (by omega) (by omega) (by omega) (by omega)]
          split
          · rename_i q
            rw [← q.2.2, h]; rfl
          · exact h
        simp only [stB]
        rw [e1, e2, e3, h]
      by_cases e : r' = r ∧ a' = a ∧ b + 1 ≤ b' ∧ b' < n
      · rw [if_pos e, if_pos ⟨e.1, e.2.1, by omega, e.2.2.2⟩, hs b' e.2.2.1 e.2.2.2]
      · rw [if_neg e]
        by_cases e2 : r' = r ∧ a' = a ∧ b' = b
        · rw [if_pos e2, if_pos ⟨e2.1, e2.2.1, by omega, by omega⟩]
          simp only [stB]
          rw [h, e2.2.2]; simp
        · rw [if_neg e2, if_neg (by omega)]
theorem fa2_p {S : MS} {r u n : Nat} (hn : n ≤ 40) (hu : u < n) : ∀ (k : Nat), k ≤ n → ∀ r' a' b', a' < 40 → b' < 40 → pM (fa2 S n r u k) r' a' b' = if r' = r ∧ a' < k ∧ b' < n then stB (pM S r) u a' b' else pM S r' a' b'
  | 0, _, r', a', b', _, _ => by rw [if_neg (by omega)]; rfl
  | k + 1, hk, r', a', b', h1, h2 => by
    have ih := fa2_p (S := S) (r := r) hn hu k (by omega)
    show pM (faG r u k n 0 (fa2 S n r u k)) r' a' b' = _
    rw [faG_p hn (by omega) hu n 0 _ (by omega) r' a' b' h1 h2]
    have hur : ∀ b, b < 40 → pM (fa2 S n r u k) r u b = pM S r u b := fun b hb => by
      rw [ih _ _ _ (by omega) hb]
      split
      · simp only [stB]
        cases pM S r u b <;> cases pM S r u u <;> rfl
      · rfl
    by_cases e : r' = r ∧ a' = k ∧ 0 ≤ b' ∧ b' < n
    · rw [if_pos e, if_pos ⟨e.1, by omega, e.2.2.2⟩]
      simp only [stB]
      rw [hur b' h2, ih r k b' (by omega) h2, ih r k u (by omega) (by omega), if_neg (by omega), if_neg (by omega), e.2.1]
    · rw [if_neg e, ih _ _ _ h1 h2]
      by_cases e2 : r' = r ∧ a' < k ∧ b' < n
      · rw [if_pos e2, if_pos ⟨e2.1, by omega, e2.2.2⟩]
      · rw [if_neg e2, if_neg (by omega)]
theorem fa3_p {S : MS} {r n : Nat} (hn : n ≤ 40) : ∀ (k : Nat), k ≤ n → ∀ r' a' b', a' < 40 → b' < 40 → pM (fa3 S n r k) r' a' b' = if r' = r ∧ a' < n ∧ b' < n then clB (pM S r) k a' b' else pM S r' a' b'
  | 0, _, r', a', b', _, _ => by
    by_cases e : r' = r ∧ a' < n ∧ b' < n
    · rw [if_pos e, e.1]; rfl
    · rw [if_neg e]; rfl
  | k + 1, hk, r', a', b', h1, h2 => by
    have ih := fa3_p (S := S) (r := r) hn k (by omega)
    show pM (fa2 (fa3 S n r k) n r k n) r' a' b' = _
    rw [fa2_p hn (by omega) n (Nat.le_refl n) r' a' b' h1 h2]
    by_cases e : r' = r ∧ a' < n ∧ b' < n
    · rw [if_pos e, if_pos e]
      show stB _ k a' b' = stB (clB (pM S r) k) k a' b'
      simp only [stB]
      rw [ih _ _ _ h1 h2, ih _ _ _ h1 (by omega), ih _ _ _ (by omega) h2, if_pos ⟨rfl, e.2.1, e.2.2⟩, if_pos ⟨rfl, e.2.1, by omega⟩, if_pos ⟨rfl, by omega, e.2.2⟩]
    · rw [if_neg e, if_neg e, ih _ _ _ h1 h2, if_neg e]
theorem le14 : ∀ cn, cn < 6 → (nI (10 + cn) ≤ nI 14 ↔ cn < 5) := by decide +kernel
theorem workM_p {S : MS} {n r j t cn : Nat} (hn : n ≤ 40) (hcn : cn < 6) (hf : S.2.1 1 r = nI (10 + cn)) (h1 : ixN (S.2.1 2 r) = j) (h2 : ixN (S.2.1 3 r) = t) (hj : ¬ j = r) (ht : ¬ t = r) {a b : Nat} (ha : a < 40) (hb : b < 40) (r' : Nat) : pM (workM S n r) r' a b = if r' = r ∧ a < n ∧ b < n then cndI n (nI (10 + cn)) (pM S j) (pM S t) a b else pM S r' a b := by
  unfold workM
  rw [hf, h1, h2]
  have w := wA_p (S := S) (n := n) (r := r) (x := j) (y := t) (f := nI (10 + cn)) hn hj ht n (Nat.le_refl n)
  by_cases h5 : cn < 5
  · rw [if_pos ((le14 cn hcn).mpr h5), w r' a b ha hb]
    by_cases e : r' = r ∧ a < n ∧ b < n
    · rw [if_pos e, if_pos e]
      unfold wV cndI
      rw [thM_B]
      have h15 : ∀ cn, cn < 5 → nI (10 + cn) = nI 10 ∨ nI (10 + cn) = nI 11 ∨ nI (10 + cn) = nI 12 ∨ nI (10 + cn) = nI 13 ∨ nI (10 + cn) = nI 14 := by decide +kernel
      rcases h15 cn h5 with q | q | q | q | q <;> rw [q] <;> rfl
    · rw [if_neg e, if_neg e]
  · have e5 : cn = 5 := by omega
    subst e5
    rw [if_neg (by decide), fa3_p hn n (Nat.le_refl n) r' a b ha hb]
    by_cases e : r' = r ∧ a < n ∧ b < n
    · rw [if_pos e, if_pos e]
      show _ = clB (pM S j) n a b
      refine clB_congr (fun a b h3 h4 => ?_) n (Nat.le_refl n) a b e.2.1 e.2.2
      rw [w r a b (by omega) (by omega), if_pos ⟨rfl, h3, h4⟩]
      rfl
    · rw [if_neg e, if_neg e, w r' a b ha hb, if_neg e]
theorem lrF_p {M : MS} {n R : Nat} (hn : n ≤ 40) (hR : R ≤ 12) (hw : wfN M R) : ∀ (k : Nat), k ≤ R → ∀ r a b, a < 40 → b < 40 → pM (lrF M n k) r a b = if a < n ∧ b < n then dnK (M.2.1 1) (M.2.1 2) (M.2.1 3) n (qP M n) k r a b else pM M r a b
  | 0, _, r, a, b, _, _ => by
    by_cases e : a < n ∧ b < n
    · rw [if_pos e]; exact (qP_in e.1 e.2).symm
    · rw [if_neg e]; rfl
  | k + 1, hk, r, a, b, ha, hb => by
    have ih := lrF_p hn hR hw k (by omega)
    have e1 := lrF_1 M n k
    show pM (if (lrF M n k).2.1 1 k < nI 10 then lrF M n k else workM (lrF M n k) n k) r a b = _
    rw [e1.2]
    by_cases hf : M.2.1 1 k < nI 10
    · rw [if_pos hf, ih r a b ha hb]
      have : dnK (M.2.1 1) (M.2.1 2) (M.2.1 3) n (qP M n) (k + 1) r = dnK (M.2.1 1) (M.2.1 2) (M.2.1 3) n (qP M n) k r := if_neg (fun q => q.2 hf)
      rw [this]
    · rw [if_neg hf]
      obtain ⟨cn, j, h6, q, hj, q1, q2, -⟩ := wf_ge hw (by omega) hf
      have hj' : ixN (M.2.1 2 k) = j := by rw [q1, ixN_nI (by omega)]
      rw [workM_p (j := j) (t := ixN (M.2.1 3 k)) hn h6 (by rw [e1.2, q]) (by rw [e1.2]; exact hj') (by rw [e1.2]) (by omega) (by omega) ha hb r]
      by_cases e : r = k ∧ a < n ∧ b < n
      · rw [if_pos e, if_pos e.2]
        have : dnK (M.2.1 1) (M.2.1 2) (M.2.1 3) n (qP M n) (k + 1) r = cnd n (M.2.1 1 k) (dnK (M.2.1 1) (M.2.1 2) (M.2.1 3) n (qP M n) k (ixN (M.2.1 2 k))) (dnK (M.2.1 1) (M.2.1 2) (M.2.1 3) n (qP M n) k (ixN (M.2.1 3 k))) := if_pos ⟨e.1, hf⟩
        rw [this, cnd_in e.2.1 e.2.2, q, hj']
        exact cndI_congr (fun a b h3 h4 => by rw [ih j a b (by omega) (by omega), if_pos ⟨h3, h4⟩]) (fun a b h3 h4 => by rw [ih _ a b (by omega) (by omega), if_pos ⟨h3, h4⟩]) e.2.1 e.2.2
      · rw [if_neg e, ih r a b ha hb]
        by_cases e2 : a < n ∧ b < n
        · rw [if_pos e2, if_pos e2, dnK_ne (fun q => e ⟨q, e2⟩)]
        · rw [if_neg e2, if_neg e2]
theorem lrF_dn {M : MS} {n R r : Nat} (hn : n ≤ 40) (hR : R ≤ 12) (hw : wfN M R) {k : Nat} (hk : k ≤ R) (hr : r < k) {a b : Nat} (ha : a < n) (hb : b < n) : pM (lrF M n k) r a b = dn M n r a b := by
  rw [lrF_p hn hR hw k hk r a b (by omega) (by omega), if_pos ⟨ha, hb⟩]
  unfold dn
  rw [dnK_eq hr (show r < 12 by omega)]
