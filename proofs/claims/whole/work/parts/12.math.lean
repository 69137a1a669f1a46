/-! numbers and bits -/
theorem n_inc (a : Nat) : nI a + Int32.ofInt 1 = nI (a + 1) := nI_1 a
def inI (x y : Int32) : Bool := decide (¬ x < 0) && decide (x < y)
theorem inI_t {x : Int32} {n : Nat} (hn : n < 2 ^ 31) (h : inI x (nI n) = true) : ∃ j, j < n ∧ x = nI j := by
  simp only [inI, Bool.and_eq_true, decide_eq_true_eq] at h
  obtain ⟨j, h1, h2, -⟩ := pk_mu h.1 (Int32.not_le.mpr h.2) hn
  exact ⟨j, h1, h2⟩
theorem inI_nI {j n : Nat} (hj : j < n) (hn : n < 2 ^ 31) : inI (nI j) (nI n) = true := by
  simp only [inI, Bool.and_eq_true, decide_eq_true_eq]
  exact ⟨nI_pos (by omega), (nI_ltI (by omega) hn).mpr hj⟩
def bitL (x : Int32) : Int64 := (1 : Int64) <<< (x.toInt64 &&& 63)
def bitN (b : Nat) : Int64 := bitL (nI b)
def tb (v : Int64) (b : Nat) : Bool := v.toBitVec.getLsbD b
theorem bitN_bv : ∀ b, b < 64 → (bitN b).toBitVec = BitVec.twoPow 64 b := by decide +kernel
theorem tb_ext {x y : Int64} (h : ∀ i, i < 64 → tb x i = tb y i) : x = y := by
  refine Int64.toBitVec_inj.mp (BitVec.eq_of_getLsbD_eq fun i hi => ?_)
  exact h i hi
theorem tb_and (x y : Int64) (i : Nat) : tb (x &&& y) i = (tb x i && tb y i) := by simp [tb]
theorem tb_or (x y : Int64) (i : Nat) : tb (x ||| y) i = (tb x i || tb y i) := by simp [tb]
theorem tb_xor (x y : Int64) (i : Nat) : tb (x ^^^ y) i = (tb x i ^^ tb y i) := by simp [tb]
theorem tb_big {x : Int64} {i : Nat} (h : 64 ≤ i) : tb x i = false := BitVec.getLsbD_of_ge _ _ h
theorem tb_0 (i : Nat) : tb 0 i = false := by simp [tb]
theorem tb_m1 : ∀ i, i < 64 → tb (-1) i = true := by decide +kernel
theorem tb_bit {b : Nat} (hb : b < 64) (i : Nat) : tb (bitN b) i = decide (i = b) := by
  unfold tb
  rw [bitN_bv b hb]
  simp only [BitVec.getLsbD_twoPow]
  by_cases h : i = b
  · subst h
    simp [hb]
  · simp [h, Ne.symm h]
theorem tb_zero {v : Int64} : v = 0 ↔ ∀ i, i < 64 → tb v i = false := by
  constructor
  · intro h i _
    rw [h, tb_0]
  · intro h
    exact tb_ext fun i hi => by rw [h i hi, tb_0]
theorem tb_test {v : Int64} {b : Nat} (hb : b < 64) : v &&& bitN b = 0 ↔ tb v b = false := by
  rw [tb_zero]
  constructor
  · intro h
    have := h b hb
    rw [tb_and, tb_bit hb] at this
    simpa using this
  · intro h i hi
    rw [tb_and, tb_bit hb]
    by_cases e : i = b
    · subst e
      simp [h]
    · simp [e]
abbrev iaeS : String := "java/lang/IllegalArgumentException"
abbrev iseS : String := "java/lang/IllegalStateException"
abbrev nseS : String := "java/util/NoSuchElementException"
abbrev aioS : String := "java/lang/ArrayIndexOutOfBoundsException"
def rmL (d mc ms : Nat) : Room := { frames := d, cells := mc, slots := ms, locals := 40 * d }
/-! contracts of RelationRows' methods -/
abbrev MXi (l : Launch) (y : MethodName) (cc : ByteArray) (maxL : Nat) (ret : Option FieldType) (rm : Room) (loc : Nat → Nat) (n : Nat) (g : Gc) (S0 : RS) (As : List Value) (post : Int32 → RS → Prop) : Prop :=
  Met l y (wsM y cc maxL ret) rm (PcO (HX loc n g) (EvX loc g) S0 (.ref (loc 0) :: As)) (va_Qi post (fun S' t => HX loc n g S' t.heap) (ZA loc 21)) rm.cells rm.slots (ZA loc 21)
abbrev MXl (l : Launch) (y : MethodName) (cc : ByteArray) (maxL : Nat) (ret : Option FieldType) (rm : Room) (loc : Nat → Nat) (n : Nat) (g : Gc) (S0 : RS) (As : List Value) (post : Int64 → RS → Prop) : Prop :=
  Met l y (wsM y cc maxL ret) rm (PcO (HX loc n g) (EvX loc g) S0 (.ref (loc 0) :: As)) (va_Ql post (fun S' t => HX loc n g S' t.heap) (ZA loc 21)) rm.cells rm.slots (ZA loc 21)
abbrev MXv (l : Launch) (y : MethodName) (cc : ByteArray) (maxL : Nat) (ret : Option FieldType) (rm : Room) (loc : Nat → Nat) (n : Nat) (g : Gc) (S0 : RS) (As : List Value) (post : RS → Prop) : Prop :=
  Met l y (wsM y cc maxL ret) rm (PcO (HX loc n g) (EvX loc g) S0 (.ref (loc 0) :: As)) (va_Qv post (fun S' t => HX loc n g S' t.heap) (ZA loc 21)) rm.cells rm.slots (ZA loc 21)
abbrev TXi (l : Launch) (y : MethodName) (cc : ByteArray) (maxL : Nat) (ret : Option FieldType) (rm : Room) (loc : Nat → Nat) (n : Nat) (g : Gc) (S0 : RS) (As : List Value) (post : Int32 → RS → Prop) (X : String → Prop) : Prop :=
  vx_Met l y (wsM y cc maxL ret) rm (PcO (HX loc n g) (EvX loc g) S0 (.ref (loc 0) :: As)) (va_Qi post (fun S' t => HX loc n g S' t.heap) (ZA loc 21)) (Xc (HX loc n g) S0 (ZA loc 21) X) rm.cells rm.slots (ZA loc 21)
abbrev TXv (l : Launch) (y : MethodName) (cc : ByteArray) (maxL : Nat) (ret : Option FieldType) (rm : Room) (loc : Nat → Nat) (n : Nat) (g : Gc) (S0 : RS) (As : List Value) (post : RS → Prop) (X : String → Prop) : Prop :=
  vx_Met l y (wsM y cc maxL ret) rm (PcO (HX loc n g) (EvX loc g) S0 (.ref (loc 0) :: As)) (va_Qv post (fun S' t => HX loc n g S' t.heap) (ZA loc 21)) (Xc (HX loc n g) S0 (ZA loc 21) X) rm.cells rm.slots (ZA loc 21)
abbrev MMi (l : Launch) (y : MethodName) (cc : ByteArray) (maxL : Nat) (ret : Option FieldType) (rm : Room) (loc : Nat → Nat) (n : Nat) (g : Gc) (S0 : MS) (As : List Value) (post : Int32 → MS → Prop) : Prop :=
  Met l y (wsM y cc maxL ret) rm (PcO (HM loc n g) (EvM loc g) S0 (.ref (loc 0) :: As)) (va_Qi post (fun S' t => HM loc n g S' t.heap) (ZA loc 10)) rm.cells rm.slots (ZA loc 10)
abbrev MMv (l : Launch) (y : MethodName) (cc : ByteArray) (maxL : Nat) (ret : Option FieldType) (rm : Room) (loc : Nat → Nat) (n : Nat) (g : Gc) (S0 : MS) (As : List Value) (post : MS → Prop) : Prop :=
  Met l y (wsM y cc maxL ret) rm (PcO (HM loc n g) (EvM loc g) S0 (.ref (loc 0) :: As)) (va_Qv post (fun S' t => HM loc n g S' t.heap) (ZA loc 10)) rm.cells rm.slots (ZA loc 10)
abbrev MSi (l : Launch) (y : MethodName) (cc : ByteArray) (maxL : Nat) (ret : Option FieldType) (rm : Room) (As : List Value) (post : Int32 → Prop) : Prop := Met l y (wsM y cc maxL ret) rm (va_Pc As (fun _ => True)) (qSi post) 0 0 (fun _ => False)
abbrev MSl (l : Launch) (y : MethodName) (cc : ByteArray) (maxL : Nat) (ret : Option FieldType) (rm : Room) (As : List Value) (post : Int64 → Prop) : Prop := Met l y (wsM y cc maxL ret) rm (va_Pc As (fun _ => True)) (qSl post) 0 0 (fun _ => False)
