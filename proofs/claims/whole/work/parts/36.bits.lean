/-! counting bits and the least bit -/
def cntB (f : Nat → Bool) : Nat → Nat
  | 0 => 0
  | k + 1 => cntB f k + (if f k then 1 else 0)
theorem cntB_congr {f g : Nat → Bool} : ∀ (k : Nat), (∀ i, i < k → f i = g i) → cntB f k = cntB g k
  | 0, _ => rfl
  | k + 1, h => by
    show cntB f k + _ = cntB g k + _
    rw [cntB_congr k (fun i hi => h i (by omega)), h k (by omega)]
theorem cntB_le (f : Nat → Bool) : ∀ k, cntB f k ≤ k
  | 0 => Nat.le_refl _
  | k + 1 => by
    have := cntB_le f k
    show cntB f k + _ ≤ _
    split <;> omega
theorem cntB_mono (f : Nat → Bool) {a b : Nat} (h : a ≤ b) : cntB f a ≤ cntB f b := by
  induction b with
  | zero => rw [Nat.le_zero.mp h]; exact Nat.le_refl _
  | succ b ih =>
    by_cases e : a = b + 1
    · rw [e]; exact Nat.le_refl _
    · have := ih (by omega)
      show cntB f a ≤ cntB f b + _
      omega
theorem cntB_lt (f : Nat → Bool) {a b : Nat} (h : a < b) (hf : f a = true) : cntB f a < cntB f b := by
  have h1 : cntB f (a + 1) ≤ cntB f b := cntB_mono f h
  have h2 : cntB f (a + 1) = cntB f a + 1 := by show cntB f a + _ = _; rw [hf]; rfl
  omega
theorem cntB_add (f : Nat → Bool) (a : Nat) : ∀ b, cntB f (a + b) = cntB f a + cntB (fun i => f (a + i)) b
  | 0 => rfl
  | b + 1 => by
    show cntB f (a + b) + _ = cntB f a + (cntB _ b + _)
    rw [cntB_add f a b]
    exact Nat.add_assoc _ _ _
theorem cntB_f {f : Nat → Bool} : ∀ (k : Nat), (∀ i, i < k → f i = false) → cntB f k = 0
  | 0, _ => rfl
  | k + 1, h => by
    show cntB f k + _ = 0
    rw [cntB_f k (fun i hi => h i (by omega)), h k (by omega)]
    rfl
def mkB (d : Nat) : Nat → Nat
  | 0 => 0
  | k + 1 => d + 256 * mkB d k
theorem and_split (z d m : Nat) (hd : d < 256) : z &&& (d + 256 * m) = ((z % 256) &&& d) + 256 * ((z / 256) &&& m) := by
  have h := Nat.div_add_mod (z &&& (d + 256 * m)) 256
  have e1 : (z &&& (d + 256 * m)) / 2 ^ 8 = z / 2 ^ 8 &&& (d + 256 * m) / 2 ^ 8 := Nat.and_div_two_pow
  have e2 : (z &&& (d + 256 * m)) % 2 ^ 8 = z % 2 ^ 8 &&& (d + 256 * m) % 2 ^ 8 := Nat.and_mod_two_pow
  have e3 : (d + 256 * m) / 2 ^ 8 = m := by omega
  have e4 : (d + 256 * m) % 2 ^ 8 = d := by omega
  rw [e3] at e1
  rw [e4] at e2
  have p8 : (2 : Nat) ^ 8 = 256 := by decide
  rw [p8] at e1 e2
  rw [e1, e2] at h
  omega
def g1 (k x : Nat) : Nat := x - ((x / 2) &&& mkB 85 k)
def g2 (k x : Nat) : Nat := (x &&& mkB 51 k) + ((x / 4) &&& mkB 51 k)
def g3 (k x : Nat) : Nat := (x + x / 16) &&& mkB 15 k
def b1 (c : Nat) : Nat := c - ((c / 2) &&& 85)
def b2 (c : Nat) : Nat := (c &&& 51) + ((c / 4) &&& 51)
theorem k1 : ∀ c, c < 256 → ∀ e, e < 2 → ((c / 2 + 128 * e) &&& 85) = ((c / 2) &&& 85) := by decide +kernel
theorem k2 : ∀ c, c < 256 → ∀ e, e < 4 → ((c / 4 + 64 * e) &&& 51) = ((c / 4) &&& 51) := by decide +kernel
theorem k3 : ∀ c, c < 256 → b1 c < 256 ∧ b2 (b1 c) ≤ 68 ∧ b2 (b1 c) % 16 ≤ 4 ∧ (b2 (b1 c) + b2 (b1 c) / 16) % 16 = cntB c.testBit 8 := by decide +kernel
theorem g1_s {c y k : Nat} (hc : c < 256) : g1 (k + 1) (c + 256 * y) = b1 c + 256 * g1 k y := by
  unfold g1 b1
  show _ - (_ &&& (85 + 256 * mkB 85 k)) = _
  rw [and_split _ _ _ (by omega)]
  have e1 : (c + 256 * y) / 2 % 256 = c / 2 + 128 * (y % 2) := by omega
  have e2 : (c + 256 * y) / 2 / 256 = y / 2 := by omega
  rw [e1, e2, k1 c hc _ (by omega)]
  have l1 : (c / 2) &&& 85 ≤ c / 2 := Nat.and_le_left
  have l2 : (y / 2) &&& mkB 85 k ≤ y / 2 := Nat.and_le_left
  omega
theorem g2_s {c y k : Nat} (hc : c < 256) : g2 (k + 1) (c + 256 * y) = b2 c + 256 * g2 k y := by
  unfold g2 b2
  show (_ &&& (51 + 256 * mkB 51 k)) + (_ &&& (51 + 256 * mkB 51 k)) = _
  rw [and_split _ _ _ (by omega), and_split _ _ _ (by omega)]
  have e1 : (c + 256 * y) / 4 % 256 = c / 4 + 64 * (y % 4) := by omega
  have e2 : (c + 256 * y) / 4 / 256 = y / 4 := by omega
  have e3 : (c + 256 * y) % 256 = c := by omega
  have e4 : (c + 256 * y) / 256 = y := by omega
  rw [e1, e2, e3, e4, k2 c hc _ (by omega)]
  omega
theorem g3_s {c y k : Nat} (hc : c ≤ 68) (hy : y % 16 ≤ 4) : g3 (k + 1) (c + 256 * y) = (c + c / 16) % 16 + 256 * g3 k y := by
  unfold g3
  show (_ &&& (15 + 256 * mkB 15 k)) = _
  rw [and_split _ _ _ (by omega)]
  have e1 : (c + 256 * y + (c + 256 * y) / 16) % 256 = c + c / 16 + 16 * (y % 16) := by omega
  have e2 : (c + 256 * y + (c + 256 * y) / 16) / 256 = y + y / 16 := by omega
  rw [e1, e2]
  have e3 : (c + c / 16 + 16 * (y % 16)) &&& 15 = (c + c / 16 + 16 * (y % 16)) % 16 := Nat.and_two_pow_sub_one_eq_mod _ 4
  rw [e3]
  omega
theorem g21_low : ∀ (k y : Nat), g2 k (g1 k y) % 16 ≤ 4
  | 0, y => by
    show ((_ &&& 0) + (_ &&& 0)) % 16 ≤ 4
    rw [Nat.and_zero, Nat.and_zero]
    omega
  | k + 1, y => by
    have h : y = y % 256 + 256 * (y / 256) := by omega
    have hc : y % 256 < 256 := by omega
    rw [h, g1_s hc, g2_s (k3 _ hc).1]
    have := (k3 _ hc).2.2.1
    omega
def gB (k x : Nat) : Nat := g3 k (g2 k (g1 k x))
theorem gB_0 (x : Nat) : gB 0 x = 0 := Nat.and_zero _
theorem gB_s (k x : Nat) : gB (k + 1) x = cntB (x % 256).testBit 8 + 256 * gB k (x / 256) := by
  have h : x = x % 256 + 256 * (x / 256) := by omega
  have hc : x % 256 < 256 := by omega
  show g3 _ (g2 _ (g1 _ x)) = _
  rw [h, g1_s hc, g2_s (k3 _ hc).1, g3_s (k3 _ hc).2.1 (g21_low _ _), (k3 _ hc).2.2.2, ← h]
  rfl
theorem cnt_s (k x : Nat) : cntB x.testBit (8 * (k + 1)) = cntB (x % 256).testBit 8 + cntB (x / 256).testBit (8 * k) := by
  rw [show 8 * (k + 1) = 8 + 8 * k by omega, cntB_add]
  have e : ∀ i, x.testBit i = if i < 8 then (x % 256).testBit i else (x / 256).testBit (i - 8) := fun i => by
    have := Nat.testBit_two_pow_mul_add (x / 256) (b := x % 256) (i := 8) (by omega) i
    rw [show 2 ^ 8 * (x / 256) + x % 256 = x by omega] at this
    exact this
  rw [cntB_congr 8 (g := (x % 256).testBit) (fun i hi => by rw [e i, if_pos hi]), cntB_congr (8 * k) (g := (x / 256).testBit) (fun i hi => by show x.testBit (8 + i) = _; rw [e (8 + i), if_neg (by omega), show 8 + i - 8 = i by omega])]
def nN (v : Int64) : Nat := v.toBitVec.toNat
theorem nN_lt (v : Int64) : nN v < 2 ^ 64 := v.toBitVec.isLt
theorem nN_and (x y : Int64) : nN (x &&& y) = nN x &&& nN y := by unfold nN; rw [Int64.toBitVec_and, BitVec.toNat_and]
theorem nN_add (x y : Int64) : nN (x + y) = (nN x + nN y) % 2 ^ 64 := by unfold nN; rw [Int64.toBitVec_add, BitVec.toNat_add]
theorem nN_sub (x y : Int64) (h : nN y ≤ nN x) : nN (x - y) = nN x - nN y := by
  unfold nN at *
  rw [Int64.toBitVec_sub, BitVec.toNat_sub]
  have := x.toBitVec.isLt
  have := y.toBitVec.isLt
  omega
theorem nN_ush (v : Int64) {k : Int32} {j : Nat} (h : (k.toInt64.toUInt64 &&& Int64.toUInt64 63).toNat % 64 = j) : nN (ushL v k) = nN v / 2 ^ j := by
  show (v.toUInt64 >>> (k.toInt64.toUInt64 &&& Int64.toUInt64 63)).toNat = _
  rw [UInt64.toNat_shiftRight, h, Nat.shiftRight_eq_div_pow]
  rfl
theorem toI32_nat (x : Int64) : x.toInt32.toBitVec.toNat = nN x % 2 ^ 32 := by
  rw [Int64.toBitVec_toInt32, BitVec.signExtend_eq_setWidth_of_le _ (by decide), BitVec.toNat_setWidth]
  rfl
theorem g1_v (v : Int64) : nN (pop1 v) = g1 8 (nN v) := by
  unfold pop1 g1
  have hm : nN (6148914691236517205 : Int64) = mkB 85 8 := by decide +kernel
  have h1 : nN (ushL v 1 &&& 6148914691236517205) = (nN v / 2) &&& mkB 85 8 := by rw [nN_and, nN_ush v (j := 1) (by decide +kernel), hm]
  have l1 : (nN v / 2) &&& mkB 85 8 ≤ nN v / 2 := Nat.and_le_left
  rw [nN_sub _ _ (by rw [h1]; omega), h1]
theorem mkB_lt : mkB 51 8 < 2 ^ 62 ∧ mkB 15 8 < 2 ^ 60 := by decide +kernel
theorem g2_v (v : Int64) : nN (pop2 v) = g2 8 (nN v) := by
  unfold pop2 g2
  have hm : nN (3689348814741910323 : Int64) = mkB 51 8 := by decide +kernel
  rw [nN_add, nN_and, nN_and, nN_ush v (j := 2) (by decide +kernel), hm]
  have l1 : nN v &&& mkB 51 8 ≤ mkB 51 8 := Nat.and_le_right
  have l2 : (nN v / 2 ^ 2) &&& mkB 51 8 ≤ mkB 51 8 := Nat.and_le_right
  have := mkB_lt.1
  rw [Nat.mod_eq_of_lt (by omega)]
theorem g2_lt (x : Nat) : g2 8 x < 2 ^ 63 := by
  unfold g2
  have l1 : x &&& mkB 51 8 ≤ mkB 51 8 := Nat.and_le_right
  have l2 : (x / 4) &&& mkB 51 8 ≤ mkB 51 8 := Nat.and_le_right
  have := mkB_lt.1
  omega
theorem g3_v (v : Int64) (h : nN v < 2 ^ 63) : nN (pop3 v) = g3 8 (nN v) := by
  unfold pop3 g3
  have hm : nN (1085102592571150095 : Int64) = mkB 15 8 := by decide +kernel
  rw [nN_and, nN_add, nN_ush v (j := 4) (by decide +kernel), hm, Nat.mod_eq_of_lt (by omega)]
theorem popA_v (v : Int64) {k : Int32} {j : Nat} (h : (k.toInt64.toUInt64 &&& Int64.toUInt64 63).toNat % 64 = j) (hv : nN v + nN v / 2 ^ j < 2 ^ 64) : nN (popA v k) = nN v + nN v / 2 ^ j := by
  unfold popA
  rw [nN_add, nN_ush v h, Nat.mod_eq_of_lt hv]
theorem dv {z lo hi k : Nat} (h : z = lo + k * hi) (hl : lo < k) : z / k = hi := by
  rw [h, Nat.add_mul_div_left _ _ (by omega), Nat.div_eq_of_lt hl, Nat.zero_add]
theorem pop_sum {z p0 p1 p2 p3 p4 p5 p6 p7 : Nat} (h0 : p0 ≤ 8) (h1 : p1 ≤ 8) (h2 : p2 ≤ 8) (h3 : p3 ≤ 8) (h4 : p4 ≤ 8) (h5 : p5 ≤ 8) (h6 : p6 ≤ 8) (h7 : p7 ≤ 8) (hz : z = p0 + 256 * (p1 + 256 * (p2 + 256 * (p3 + 256 * (p4 + 256 * (p5 + 256 * (p6 + 256 * p7))))))) :
    z + z / 2 ^ 8 < 2 ^ 63 ∧ ((z + z / 2 ^ 8) + (z + z / 2 ^ 8) / 2 ^ 16) < 2 ^ 63 ∧ (((z + z / 2 ^ 8) + (z + z / 2 ^ 8) / 2 ^ 16) + ((z + z / 2 ^ 8) + (z + z / 2 ^ 8) / 2 ^ 16) / 2 ^ 32) % 128 = p0 + p1 + p2 + p3 + p4 + p5 + p6 + p7 := by
  have e1 : z / 2 ^ 8 = p1 + 256 * (p2 + 256 * (p3 + 256 * (p4 + 256 * (p5 + 256 * (p6 + 256 * p7))))) := dv hz (by omega)
  obtain ⟨y, hy⟩ : ∃ y, y = z + z / 2 ^ 8 := ⟨_, rfl⟩
  rw [← hy]
  rw [e1] at hy
  have hy1 : y = (p0 + p1 + 256 * (p1 + p2)) + 65536 * (p2 + p3 + 256 * (p3 + p4 + 256 * (p4 + p5 + 256 * (p5 + p6 + 256 * (p6 + p7 + 256 * p7))))) := by omega
  clear hy e1 hz
  have e2 : y / 2 ^ 16 = p2 + p3 + 256 * (p3 + p4 + 256 * (p4 + p5 + 256 * (p5 + p6 + 256 * (p6 + p7 + 256 * p7)))) := dv hy1 (by omega)
  obtain ⟨x, hx⟩ : ∃ x, x = y + y / 2 ^ 16 := ⟨_, rfl⟩
  rw [← hx]
  rw [e2] at hx
  have hx1 : x = (p0 + p1 + p2 + p3 + 256 * (p1 + p2 + p3 + p4 + 256 * (p2 + p3 + p4 + p5 + 256 * (p3 + p4 + p5 + p6)))) + 4294967296 * (p4 + p5 + p6 + p7 + 256 * (p5 + p6 + p7 + 256 * (p6 + p7 + 256 * p7))) := by omega
  have e3 : x / 2 ^ 32 = p4 + p5 + p6 + p7 + 256 * (p5 + p6 + p7 + 256 * (p6 + p7 + 256 * p7)) := dv hx1 (by omega)
  refine ⟨by rw [hy1]; omega, by rw [hx1]; omega, ?_⟩
  rw [e3, hx1]
  clear hx1 e3 hx e2 hy1
  obtain ⟨a, ha⟩ : ∃ a, a = p0 + p1 + p2 + p3 + p4 + p5 + p6 + p7 := ⟨_, rfl⟩
  have : (p0 + p1 + p2 + p3 + 256 * (p1 + p2 + p3 + p4 + 256 * (p2 + p3 + p4 + p5 + 256 * (p3 + p4 + p5 + p6)))) + 4294967296 * (p4 + p5 + p6 + p7 + 256 * (p5 + p6 + p7 + 256 * (p6 + p7 + 256 * p7))) + (p4 + p5 + p6 + p7 + 256 * (p5 + p6 + p7 + 256 * (p6 + p7 + 256 * p7))) = a + 128 * (2 * (p1 + p2 + p3 + p4 + 256 * (p2 + p3 + p4 + p5 + 256 * (p3 + p4 + p5 + p6))) + 33554432 * (p4 + p5 + p6 + p7 + 256 * (p5 + p6 + p7 + 256 * (p6 + p7 + 256 * p7))) + 2 * (p5 + p6 + p7 + 256 * (p6 + p7 + 256 * p7))) := by omega
  rw [this, Nat.add_mul_mod_self_left, Nat.mod_eq_of_lt (by omega)]
  exact ha
theorem popL_nat (v : Int64) : popL v = nI (cntB (tb v) 64) := by
  have hw : nN (pop3 (pop2 (pop1 v))) = gB 8 (nN v) := by
    have e := g2_v (pop1 v)
    have l := g2_lt (nN (pop1 v))
    rw [g3_v _ (by rw [e]; exact l), e, g1_v]
    rfl
  have hc : cntB (tb v) 64 = cntB (nN v).testBit (8 * 8) := rfl
  have hx := nN_lt v
  generalize nN v = x at hw hc hx
  rw [gB_s, gB_s, gB_s, gB_s, gB_s, gB_s, gB_s, gB_s, gB_0] at hw
  rw [cnt_s, cnt_s, cnt_s, cnt_s, cnt_s, cnt_s, cnt_s, cnt_s] at hc
  have hc0 : ∀ y : Nat, cntB (y).testBit (8 * 0) = 0 := fun _ => rfl
  rw [hc0] at hc
  have l : ∀ y : Nat, cntB y.testBit 8 ≤ 8 := fun y => cntB_le _ 8
  have s := pop_sum (l _) (l _) (l _) (l _) (l _) (l _) (l _) (l _) hw
  generalize hz : nN (pop3 (pop2 (pop1 v))) = z at s hw
  obtain ⟨s1, s2, s3⟩ := s
  have a1 : nN (popA (pop3 (pop2 (pop1 v))) 8) = z + z / 2 ^ 8 := by rw [popA_v _ (j := 8) (by decide +kernel) (by rw [hz]; omega), hz]
  have a2 : nN (popA (popA (pop3 (pop2 (pop1 v))) 8) 16) = (z + z / 2 ^ 8) + (z + z / 2 ^ 8) / 2 ^ 16 := by rw [popA_v _ (j := 16) (by decide +kernel) (by rw [a1]; omega), a1]
  have a3 : nN (popA (popA (popA (pop3 (pop2 (pop1 v))) 8) 16) 32) = ((z + z / 2 ^ 8) + (z + z / 2 ^ 8) / 2 ^ 16) + ((z + z / 2 ^ 8) + (z + z / 2 ^ 8) / 2 ^ 16) / 2 ^ 32 := by rw [popA_v _ (j := 32) (by decide +kernel) (by rw [a2]; omega), a2]
  unfold popL
  refine Int32.toBitVec_inj.mp (BitVec.eq_of_toNat_eq ?_)
  rw [Int32.toBitVec_and, BitVec.toNat_and, toI32_nat, a3]
  have hm : (127 : Int32).toBitVec.toNat = 2 ^ 7 - 1 := by decide +kernel
  rw [hm, Nat.and_two_pow_sub_one_eq_mod, hc]
  show _ = (Int32.ofNat _).toBitVec.toNat
  rw [show ∀ q : Nat, (Int32.ofNat q).toBitVec.toNat = q % 2 ^ 32 from fun q => rfl]
  rw [Nat.mod_mod_of_dvd _ (show 2 ^ 7 ∣ 2 ^ 32 by decide), show (2 : Nat) ^ 7 = 128 from rfl, s3]
  have b0 := l (x % 256)
  have b1 := l (x / 256 % 256)
  have b2 := l (x / 256 / 256 % 256)
  have b3 := l (x / 256 / 256 / 256 % 256)
  have b4 := l (x / 256 / 256 / 256 / 256 % 256)
  have b5 := l (x / 256 / 256 / 256 / 256 / 256 % 256)
  have b6 := l (x / 256 / 256 / 256 / 256 / 256 / 256 % 256)
  have b7 := l (x / 256 / 256 / 256 / 256 / 256 / 256 / 256 % 256)
  clear s1 s2 s3 a1 a2 a3 hw hz
  generalize cntB (Nat.testBit (x % 256)) 8 = p0 at *
  generalize cntB (Nat.testBit (x / 256 % 256)) 8 = p1 at *
  generalize cntB (Nat.testBit (x / 256 / 256 % 256)) 8 = p2 at *
  generalize cntB (Nat.testBit (x / 256 / 256 / 256 % 256)) 8 = p3 at *
  generalize cntB (Nat.testBit (x / 256 / 256 / 256 / 256 % 256)) 8 = p4 at *
  generalize cntB (Nat.testBit (x / 256 / 256 / 256 / 256 / 256 % 256)) 8 = p5 at *
  generalize cntB (Nat.testBit (x / 256 / 256 / 256 / 256 / 256 / 256 % 256)) 8 = p6 at *
  generalize cntB (Nat.testBit (x / 256 / 256 / 256 / 256 / 256 / 256 / 256 % 256)) 8 = p7 at *
  omega
/-! the least bit -/
theorem low_nat {x b w : Nat} (h : x = 2 ^ b * (2 * w + 1)) (j : Nat) : x.testBit j = (if j < b then false else (2 * w + 1).testBit (j - b)) ∧ (x - 1).testBit j = (if j < b then true else (2 * w).testBit (j - b)) := by
  have h0 : 0 < 2 ^ b := Nat.two_pow_pos b
  constructor
  · have e : x = 2 ^ b * (2 * w + 1) + 0 := h
    rw [e, Nat.testBit_two_pow_mul_add _ h0]
    split
    · exact Nat.zero_testBit _
    · rfl
  · have e : x - 1 = 2 ^ b * (2 * w) + (2 ^ b - 1) := by
      rw [h, Nat.mul_add]
      omega
    rw [e, Nat.testBit_two_pow_mul_add _ (by omega)]
    split
    · rename_i hj
      rw [Nat.testBit_two_pow_sub_one]
      simp [hj]
    · rfl
theorem tb_succ (w i : Nat) : (2 * w + 1).testBit (i + 1) = (2 * w).testBit (i + 1) := by
  rw [Nat.testBit_succ, Nat.testBit_succ]
  congr 1
  omega
theorem odd_at {x b : Nat} (hb : x.testBit b = true) (hl : ∀ j, j < b → x.testBit j = false) : ∃ w, x = 2 ^ b * (2 * w + 1) := by
  have h1 : x % 2 ^ b = 0 := by
    refine Nat.eq_of_testBit_eq fun i => ?_
    rw [Nat.testBit_mod_two_pow, Nat.zero_testBit]
    by_cases hi : i < b
    · rw [hl i hi]; simp
    · simp [hi]
  have h2 : (x / 2 ^ b) % 2 = 1 := by
    have := hb
    rw [Nat.testBit_eq_decide_div_mod_eq] at this
    simpa using this
  refine ⟨x / 2 ^ b / 2, ?_⟩
  have h3 := Nat.div_add_mod x (2 ^ b)
  rw [h1] at h3
  rw [show 2 * (x / 2 ^ b / 2) + 1 = x / 2 ^ b by omega]
  omega
theorem least_ex {f : Nat → Bool} : ∀ (k : Nat), (∃ i, i < k ∧ f i = true) → ∃ b, b < k ∧ f b = true ∧ ∀ j, j < b → f j = false
  | 0, h => by obtain ⟨i, h, -⟩ := h; omega
  | k + 1, h => by
    by_cases e : ∃ i, i < k ∧ f i = true
    · obtain ⟨b, h1, h2, h3⟩ := least_ex k e
      exact ⟨b, by omega, h2, h3⟩
    · obtain ⟨i, h1, h2⟩ := h
      have hi : i = k := by
        by_cases q : i < k
        · exact absurd ⟨i, q, h2⟩ e
        · omega
      subst hi
      refine ⟨i, by omega, h2, fun j hj => ?_⟩
      cases hq : f j with
      | false => rfl
      | true => exact absurd ⟨j, hj, hq⟩ e
def nJ (x : Int32) : Nat := x.toBitVec.toNat
theorem nJ_xor (x : Int32) : ∀ j, j < 32 → (nJ (x ^^^ (-1))).testBit j = !(nJ x).testBit j := fun j hj => by
  have h1 : nJ (x ^^^ (-1)) = nJ x ^^^ (2 ^ 32 - 1) := by
    unfold nJ
    rw [Int32.toBitVec_xor, BitVec.toNat_xor]
    rfl
  rw [h1, Nat.testBit_xor, Nat.testBit_two_pow_sub_one]
  simp [hj]
theorem nJ_sub1 (x : Int32) (h : 0 < nJ x) : nJ (x - 1) = nJ x - 1 := by
  unfold nJ at *
  rw [Int32.toBitVec_sub, BitVec.toNat_sub]
  have e : (1 : Int32).toBitVec.toNat = 1 := rfl
  have := x.toBitVec.isLt
  rw [e]
  omega
theorem ntzM_p : ∀ b, b < 32 → ∀ (v : Int32), nJ v = 2 ^ b - 1 → ntzM v = nI b := by
  intro b hb v hv
  have e : v = Int32.ofNat (2 ^ b - 1) := by
    refine Int32.toBitVec_inj.mp (BitVec.eq_of_toNat_eq ?_)
    show nJ v = (2 ^ b - 1) % 2 ^ 32
    have : 2 ^ b ≤ 2 ^ 32 := Nat.pow_le_pow_right (by decide) (by omega)
    rw [hv, Nat.mod_eq_of_lt (by omega)]
  rw [e]
  have key : ∀ b, b < 32 → ntzM (Int32.ofNat (2 ^ b - 1)) = nI b := by decide +kernel
  exact key b hb
theorem ntzI_p {x : Int32} {b : Nat} (hb : b < 32) (h1 : (nJ x).testBit b = true) (h2 : ∀ j, j < b → (nJ x).testBit j = false) : ntzI x = nI b := by
  obtain ⟨w, hw⟩ := odd_at h1 h2
  have hp : 0 < 2 ^ b := Nat.two_pow_pos b
  have hx0 : 0 < nJ x := by rw [hw]; exact Nat.mul_pos hp (by omega)
  refine ntzM_p b hb _ ?_
  refine Nat.eq_of_testBit_eq fun j => ?_
  have e1 : nJ ((x ^^^ (-1)) &&& (x - 1)) = nJ (x ^^^ (-1)) &&& nJ (x - 1) := by unfold nJ; rw [Int32.toBitVec_and, BitVec.toNat_and]
  rw [e1, Nat.testBit_and, nJ_sub1 x hx0, Nat.testBit_two_pow_sub_one, (low_nat hw j).2]
  by_cases h32 : j < 32
  · rw [nJ_xor x j h32, (low_nat hw j).1]
    by_cases hj : j < b
    · simp [hj]
    · simp only [hj, if_false]
      by_cases ej : j = b
      · subst ej
        simp
      · obtain ⟨i, hi⟩ : ∃ i, j - b = i + 1 := ⟨j - b - 1, by omega⟩
        rw [hi, tb_succ]
        cases (2 * w).testBit (i + 1) <;> rfl
  · have : ∀ y : Int32, (nJ y).testBit j = false := fun y => Nat.testBit_lt_two_pow (Nat.lt_of_lt_of_le y.toBitVec.isLt (Nat.pow_le_pow_right (by decide) (by omega)))
    rw [this]
    simp
    omega
theorem ntzL_p {v : Int64} {b : Nat} (hb : b < 64) (h1 : tb v b = true) (h2 : ∀ j, j < b → tb v j = false) : ntzL v = nI b := by
  have hv : ∀ j, tb v j = (nN v).testBit j := fun _ => rfl
  have hlo : ∀ j, (nJ v.toInt32).testBit j = (decide (j < 32) && tb v j) := fun j => by
    show (v.toInt32.toBitVec.toNat).testBit j = _
    rw [toI32_nat, Nat.testBit_mod_two_pow]
    rfl
  unfold ntzL
  by_cases hb2 : b < 32
  · have hne : ¬ v.toInt32 = 0 := fun e => by
      have := hlo b
      rw [e, h1] at this
      simp [hb2] at this
      have z : nJ 0 = 0 := rfl
      rw [z, Nat.zero_testBit] at this
      exact absurd this (by decide)
    rw [if_neg hne]
    exact ntzI_p hb2 (by rw [hlo, h1]; simp [hb2]) (fun j hj => by rw [hlo, h2 j hj]; simp)
  · have hz : v.toInt32 = 0 := by
      refine Int32.toBitVec_inj.mp (BitVec.eq_of_toNat_eq (Nat.eq_of_testBit_eq fun j => ?_))
      show (nJ v.toInt32).testBit j = (nJ 0).testBit j
      have z : nJ 0 = 0 := rfl
      rw [hlo, z, Nat.zero_testBit]
      by_cases hj : j < 32
      · rw [h2 j (by omega)]; simp
      · simp [hj]
    rw [if_pos hz]
    have hhi : ∀ j, j < 32 → (nJ (ushL v 32).toInt32).testBit j = tb v (j + 32) := fun j hj => by
      show ((ushL v 32).toInt32.toBitVec.toNat).testBit j = _
      rw [toI32_nat, Nat.testBit_mod_two_pow, nN_ush v (j := 32) (by decide +kernel), Nat.testBit_div_two_pow]
      simp only [hj, decide_true, Bool.true_and]
      rfl
    have e := ntzI_p (x := (ushL v 32).toInt32) (b := b - 32) (by omega) (by rw [hhi _ (by omega), show b - 32 + 32 = b by omega]; exact h1) (fun j hj => by rw [hhi _ (by omega)]; exact h2 _ (by omega))
    rw [e]
    show nI 32 + nI (b - 32) = _
    rw [nI_add, show 32 + (b - 32) = b by omega]
theorem low1 {v : Int64} {b : Nat} (hb : b < 64) (h1 : tb v b = true) (h2 : ∀ j, j < b → tb v j = false) (j : Nat) : tb (v &&& (v - 1)) j = (tb v j && decide (¬ j = b)) := by
  obtain ⟨w, hw⟩ := odd_at (x := nN v) h1 h2
  have hp : 0 < 2 ^ b := Nat.two_pow_pos b
  have hx0 : 0 < nN v := by rw [hw]; exact Nat.mul_pos hp (by omega)
  have e1 : nN (v - 1) = nN v - 1 := nN_sub v 1 hx0
  show (nN (v &&& (v - 1))).testBit j = ((nN v).testBit j && _)
  rw [nN_and, Nat.testBit_and, e1, (low_nat hw j).1, (low_nat hw j).2]
  by_cases hj : j < b
  · simp [hj]
  · simp only [hj, if_false]
    by_cases ej : j = b
    · subst ej
      simp
    · obtain ⟨i, hi⟩ : ∃ i, j - b = i + 1 := ⟨j - b - 1, by omega⟩
      rw [hi, tb_succ]
      simp [ej]
theorem lowF_tb (v : Int64) : ∀ (i : Nat), i ≤ cntB (tb v) 64 → ∀ j, tb (lowF v i) j = (tb v j && decide (i ≤ cntB (tb v) j))
  | 0, _, j => by
    show tb v j = _
    simp
  | i + 1, h, j => by
    have ih := lowF_tb v i (by omega)
    have hex : ∃ q, q < 64 ∧ tb (lowF v i) q = true := by
      refine Classical.byContradiction fun hn => ?_
      have hz : ∀ q, q < 64 → tb v q = true → cntB (tb v) q < i := fun q hq e => by
        refine Classical.byContradiction fun hc => hn ⟨q, hq, ?_⟩
        rw [ih q, e]
        simp
        omega
      have : ∀ k, k ≤ 64 → cntB (tb v) k ≤ i := fun k => by
        induction k with
        | zero => intro _; exact Nat.zero_le _
        | succ k ihk =>
          intro hk
          have := ihk (by omega)
          show cntB (tb v) k + _ ≤ i
          by_cases e : tb v k = true
          · have := hz k (by omega) e
            rw [e]; simp; omega
          · rw [if_neg e]; omega
      have := this 64 (by omega)
      omega
    obtain ⟨b, hb, q1, q2⟩ := least_ex 64 hex
    show tb (lowF v i &&& (lowF v i - 1)) j = _
    rw [low1 hb q1 q2 j, ih j]
    rw [ih b] at q1
    simp only [Bool.and_eq_true, decide_eq_true_eq] at q1
    have hci : cntB (tb v) b = i := by
      refine Classical.byContradiction fun hne => ?_
      have hgt : i < cntB (tb v) b := by omega
      have : ∀ k, k ≤ b → cntB (tb v) k ≤ i := fun k => by
        induction k with
        | zero => intro _; exact Nat.zero_le _
        | succ k ihk =>
          intro hk
          have h9 := ihk (by omega)
          show cntB (tb v) k + _ ≤ i
          by_cases e : tb v k = true
          · have h8 := q2 k (by omega)
            rw [ih k, e] at h8
            simp at h8
            rw [e]; simp; omega
          · rw [if_neg e]; omega
      have := this b (by omega)
      omega
    cases hv : tb v j with
    | false => simp
    | true =>
      simp only [Bool.true_and]
      rw [Bool.eq_iff_iff]
      simp only [Bool.and_eq_true, decide_eq_true_eq]
      constructor
      · rintro ⟨h1, h2⟩
        rcases Nat.lt_trichotomy j b with q | q | q
        · have := cntB_lt (tb v) q hv
          omega
        · exact absurd q h2
        · have := cntB_lt (tb v) q q1.1
          omega
      · intro h1
        refine ⟨by omega, fun e => ?_⟩
        subst e
        omega
/-- the i-th bit that is set -/
theorem pick_p {v : Int64} {i b : Nat} (hb : b < 64) (h1 : tb v b = true) (h2 : cntB (tb v) b = i) : ntzL (lowF v i) = nI b := by
  have hle : i ≤ cntB (tb v) 64 := by rw [← h2]; exact cntB_mono _ (by omega)
  refine ntzL_p hb ?_ (fun j hj => ?_)
  · rw [lowF_tb v i hle, h1, h2]; simp
  · rw [lowF_tb v i hle]
    cases hv : tb v j with
    | false => rfl
    | true =>
      have := cntB_lt (tb v) hj hv
      simp; omega
