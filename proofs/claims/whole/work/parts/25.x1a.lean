def inB (v lo hi : Int32) : Bool := decide (¬ v < lo) && decide (¬ hi < v)
theorem inB_inI {x : Int32} {R : Nat} (hR : R < 2 ^ 30) : inB x (nI 0) (nI R - nI 1) = inI x (nI R) := by
  unfold inB inI
  by_cases hx : x < 0
  · simp [hx, nI_0]
  · obtain ⟨j, hj, rfl⟩ := nI_of hx
    have e0 : ¬ nI j < nI 0 := by rw [nI_0]; exact hx
    have e1 : (¬ (nI R - nI 1 < nI j)) ↔ nI j < nI R := by
      rw [nI_ltI hj (by omega)]
      rcases Nat.eq_zero_or_pos R with h | h
      · subst h
        exact ⟨fun q => absurd (Int32.lt_of_lt_of_le (pk_sneg (by omega) (by omega)) (nI_pos' hj)) q, fun q => absurd q (by omega)⟩
      · rw [pk_sub (by omega), nI_ltI (by omega) hj]
        omega
    simp [hx, e0, e1]
set_option maxRecDepth 100000 in
set_option maxHeartbeats 4000000 in
theorem c_X1_isIn (l : Launch) (v lo hi : Int32) : MSi l yX1_isIn cX1_isIn 3 (some .boolean) (rmL 1 0 0) [.int v, .int lo, .int hi] (fun r => r = bI (inB v lo hi)) := by
  refine s_enter (by decide) (Nat.le_of_ble_eq_true rfl) ?_
  intro p e s m below meth c ls S hr hlocks hl
  refine lv_iload_n S.1 S.2.1 dX1_isIn_0 rfl (lv_at hl 0 rfl) ?_
  refine lv_iload_n S.1 S.2.1 dX1_isIn_1 rfl (lv_at hl 1 rfl) ?_
  refine lv_icmp_lt (tgt := 14) S.1 S.2.1 dX1_isIn_2 (by decide) (fun c2 => ?_) (fun c2 => ?_)
  · skip
    refine lv_iconst (v := 0) S.1 S.2.1 dX1_isIn_14 rfl ?_
    exact s_iret S hr hlocks (by simp [inB, c2, bI]) rfl dX1_isIn_15
  · skip
    refine lv_iload_n S.1 S.2.1 dX1_isIn_5 rfl (lv_at hl 0 rfl) ?_
    refine lv_iload_n S.1 S.2.1 dX1_isIn_6 rfl (lv_at hl 2 rfl) ?_
    refine lv_icmp_gt (tgt := 14) S.1 S.2.1 dX1_isIn_7 (by decide) (fun c7 => ?_) (fun c7 => ?_)
    · skip
      refine lv_iconst (v := 0) S.1 S.2.1 dX1_isIn_14 rfl ?_
      exact s_iret S hr hlocks (by simp [inB, c7, bI]) rfl dX1_isIn_15
    · skip
      refine lv_iconst (v := 1) S.1 S.2.1 dX1_isIn_10 rfl ?_
      refine lv_goto (tgt := 15) S.1 S.2.1 dX1_isIn_11 (by decide) ?_
      exact s_iret S hr hlocks (by simp [inB, c2, c7, bI]) rfl dX1_isIn_15
set_option maxRecDepth 100000 in
set_option maxHeartbeats 4000000 in
theorem c_X1_isOf (l : Launch) (k w : Int32) : MSi l yX1_isOf cX1_isOf 2 (some .boolean) (rmL 1 0 0) [.int k, .int w] (fun r => r = bI (decide (w = -1) || decide (k = w))) := by
  refine s_enter (by decide) (Nat.le_of_ble_eq_true rfl) ?_
  intro p e s m below meth c ls S hr hlocks hl
  refine lv_iload_n S.1 S.2.1 dX1_isOf_0 rfl (lv_at hl 1 rfl) ?_
  refine lv_iconst (v := -1) S.1 S.2.1 dX1_isOf_1 rfl ?_
  refine lv_icmp_eq (tgt := 10) S.1 S.2.1 dX1_isOf_2 (by decide) (fun c2 => ?_) (fun c2 => ?_)
  · skip
    refine lv_iconst (v := 1) S.1 S.2.1 dX1_isOf_10 rfl ?_
    refine lv_goto (tgt := 15) S.1 S.2.1 dX1_isOf_11 (by decide) ?_
    exact s_iret S hr hlocks (by simp [c2, bI]) rfl dX1_isOf_15
  · skip
    refine lv_iload_n S.1 S.2.1 dX1_isOf_5 rfl (lv_at hl 0 rfl) ?_
    refine lv_iload_n S.1 S.2.1 dX1_isOf_6 rfl (lv_at hl 1 rfl) ?_
    refine lv_icmp_ne (tgt := 14) S.1 S.2.1 dX1_isOf_7 (by decide) (fun c7 => ?_) (fun c7 => ?_)
    · skip
      refine lv_iconst (v := 0) S.1 S.2.1 dX1_isOf_14 rfl ?_
      exact s_iret S hr hlocks (by simp [c2, c7, bI]) rfl dX1_isOf_15
    · skip
      refine lv_iconst (v := 1) S.1 S.2.1 dX1_isOf_10 rfl ?_
      refine lv_goto (tgt := 15) S.1 S.2.1 dX1_isOf_11 (by decide) ?_
      exact s_iret S hr hlocks (by simp [c7, bI]) rfl dX1_isOf_15
def ixP (r a b : Nat) : Nat := 1600 * r + 40 * a + b
set_option maxRecDepth 100000 in
set_option maxHeartbeats 4000000 in
theorem c_X1_at (l : Launch) (r a b : Nat) : MSi l yX1_at cX1_at 3 (some .int) (rmL 1 0 0) [.int (nI r), .int (nI a), .int (nI b)] (fun v => v = nI (ixP r a b)) := by
  refine s_enter (by decide) (Nat.le_of_ble_eq_true rfl) ?_
  intro p e s m below meth c ls S hr hlocks hl
  refine lv_sipush (v := nI 1600) S.1 S.2.1 dX1_at_0 rfl ?_
  refine lv_iload_n S.1 S.2.1 dX1_at_3 rfl (lv_at hl 0 rfl) ?_
  refine t_imul S.1 S.2.1 dX1_at_4 (pk_mul _ _) ?_
  refine lv_bipush (v := nI 40) S.1 S.2.1 dX1_at_5 rfl ?_
  refine lv_iload_n S.1 S.2.1 dX1_at_7 rfl (lv_at hl 1 rfl) ?_
  refine t_imul S.1 S.2.1 dX1_at_8 (pk_mul _ _) ?_
  refine t_iadd S.1 S.2.1 dX1_at_9 (nI_add _ _) ?_
  refine lv_iload_n S.1 S.2.1 dX1_at_10 rfl (lv_at hl 2 rfl) ?_
  refine t_iadd S.1 S.2.1 dX1_at_11 (nI_add _ _) ?_
  exact s_iret S hr hlocks rfl rfl dX1_at_12
set_option maxRecDepth 100000 in
set_option maxHeartbeats 4000000 in
theorem c_X1_thrown (l : Launch) {loc : Nat → Nat} {n : Nat} {g : Gc} (hn : n ≤ 40) {S0 : MS} : MMi l yX1_thrown cX1_thrown 1 (some .int) (rmL 1 0 0) loc n g S0 [] (fun v S' => S' = S0 ∧ v = S0.1 0) := by
  refine o_enter (by decide) (Nat.le_of_ble_eq_true rfl) ?_
  intro p e s m below meth c ls S hr hlocks hC hl
  refine lv_aload_n S.1 S.2.1 dX1_thrown_0 rfl (lv_at hl 0 rfl) ?_
  refine m_get_code S hC dX1_thrown_1 ?_
  exact o_iret S hr hlocks hC ⟨rfl, rfl⟩ rfl dX1_thrown_4 (Nat.le_of_ble_eq_true rfl) (Nat.le_of_ble_eq_true rfl)
set_option maxRecDepth 100000 in
set_option maxHeartbeats 4000000 in
theorem c_X1_isThing (l : Launch) {loc : Nat → Nat} {n : Nat} {g : Gc} (hn : n ≤ 40) {S0 : MS} (x : Int32) : MMi l yX1_isThing cX1_isThing 2 (some .boolean) (rmL 2 0 0) loc n g S0 [.int x] (fun v S' => S' = S0 ∧ v = bI (inI x (nI n))) := by
  refine o_enter (by decide) (Nat.le_of_ble_eq_true rfl) ?_
  intro p e s m below meth c ls S hr hlocks hC hl
  refine lv_iload_n S.1 S.2.1 dX1_isThing_0 rfl (lv_at hl 1 rfl) ?_
  refine lv_iconst (v := nI 0) S.1 S.2.1 dX1_isThing_1 rfl ?_
  refine lv_aload_n S.1 S.2.1 dX1_isThing_2 rfl (lv_at hl 0 rfl) ?_
  refine m_get_things S hC dX1_isThing_3 ?_
  refine lv_iconst (v := nI 1) S.1 S.2.1 dX1_isThing_6 rfl ?_
  refine lv_isub S.1 S.2.1 dX1_isThing_7 ?_
  refine s_calli S (c_X1_isIn l x _ _) cw_RX1_X1_isIn ⟨rfl, rfl, by decide, by decide⟩ rfl hl.1 rfl (Nat.le_of_ble_eq_true rfl) dX1_isThing_8 ⟨(Nat.le_of_ble_eq_true rfl), (Nat.le_of_ble_eq_true rfl)⟩ (fun r8 hp => ?_)
  subst hp
  exact o_iret S hr hlocks hC ⟨rfl, by rw [inB_inI (by omega)]⟩ (bI_nar _) dX1_isThing_11 (Nat.le_of_ble_eq_true rfl) (Nat.le_of_ble_eq_true rfl)
set_option maxRecDepth 100000 in
set_option maxHeartbeats 4000000 in
theorem c_X1_isRelation (l : Launch) {loc : Nat → Nat} {n : Nat} {g : Gc} (hn : n ≤ 40) {S0 : MS} {R : Nat} (hR : R ≤ 12) (hrel : S0.1 1 = nI R) (x : Int32) : MMi l yX1_isRelation cX1_isRelation 2 (some .boolean) (rmL 2 0 0) loc n g S0 [.int x] (fun v S' => S' = S0 ∧ v = bI (inI x (nI R))) := by
  refine o_enter (by decide) (Nat.le_of_ble_eq_true rfl) ?_
  intro p e s m below meth c ls S hr hlocks hC hl
  refine lv_iload_n S.1 S.2.1 dX1_isRelation_0 rfl (lv_at hl 1 rfl) ?_
  refine lv_iconst (v := nI 0) S.1 S.2.1 dX1_isRelation_1 rfl ?_
  refine lv_aload_n S.1 S.2.1 dX1_isRelation_2 rfl (lv_at hl 0 rfl) ?_
  refine m_get_relations S hC dX1_isRelation_3 ?_
  rw [hrel]
  refine lv_iconst (v := nI 1) S.1 S.2.1 dX1_isRelation_6 rfl ?_
  refine lv_isub S.1 S.2.1 dX1_isRelation_7 ?_
  refine s_calli S (c_X1_isIn l x _ _) cw_RX1_X1_isIn ⟨rfl, rfl, by decide, by decide⟩ rfl hl.1 rfl (Nat.le_of_ble_eq_true rfl) dX1_isRelation_8 ⟨(Nat.le_of_ble_eq_true rfl), (Nat.le_of_ble_eq_true rfl)⟩ (fun r8 hp => ?_)
  subst hp
  exact o_iret S hr hlocks hC ⟨rfl, by rw [inB_inI (by omega)]⟩ (bI_nar _) dX1_isRelation_11 (Nat.le_of_ble_eq_true rfl) (Nat.le_of_ble_eq_true rfl)
set_option maxRecDepth 100000 in
set_option maxHeartbeats 4000000 in
theorem c_X1_isGood (l : Launch) {loc : Nat → Nat} {n : Nat} {g : Gc} (hn : n ≤ 40) {S0 : MS} (w : Int32) : MMi l yX1_isGood cX1_isGood 2 (some .boolean) (rmL 1 0 0) loc n g S0 [.int w] (fun v S' => S' = sI S0 0 w ∧ v = bI (decide (w = 0))) := by
  refine o_enter (by decide) (Nat.le_of_ble_eq_true rfl) ?_
  intro p e s m below meth c ls S hr hlocks hC hl
  refine lv_aload_n S.1 S.2.1 dX1_isGood_0 rfl (lv_at hl 0 rfl) ?_
  refine lv_iload_n S.1 S.2.1 dX1_isGood_1 rfl (lv_at hl 1 rfl) ?_
  refine m_put_code S hC dX1_isGood_2 (fun H locs hC => ?_)
  refine lv_iload_n S.1 S.2.1 dX1_isGood_5 rfl (lv_at hl 1 rfl) ?_
  refine lv_if_ne (tgt := 13) S.1 S.2.1 dX1_isGood_6 (by decide) (fun c6 => ?_) (fun c6 => ?_)
  · skip
    refine lv_iconst (v := 0) S.1 S.2.1 dX1_isGood_13 rfl ?_
    exact o_iret S hr hlocks hC ⟨rfl, by simp [c6, bI]⟩ rfl dX1_isGood_14 (Nat.le_of_ble_eq_true rfl) (Nat.le_of_ble_eq_true rfl)
  · skip
    refine lv_iconst (v := 1) S.1 S.2.1 dX1_isGood_9 rfl ?_
    refine lv_goto (tgt := 14) S.1 S.2.1 dX1_isGood_10 (by decide) ?_
    exact o_iret S hr hlocks hC ⟨rfl, by simp [c6, bI]⟩ rfl dX1_isGood_14 (Nat.le_of_ble_eq_true rfl) (Nat.le_of_ble_eq_true rfl)
def bgA (S : MS) (q : Nat) : Nat → MS
  | 0 => S
  | k + 1 => sA (bgA S q k) q k (nI 0)
def begF (S : MS) : MS := bgA (bgA (sI (sI S 1 (nI 0)) 2 (nI 0)) 0 40) 6 1600
set_option maxRecDepth 100000 in
set_option maxHeartbeats 4000000 in
theorem c_X1_begin (l : Launch) {loc : Nat → Nat} {n : Nat} {g : Gc} (hn : n ≤ 40) {S0 : MS} : MMv l yX1_begin cX1_begin 2 none (rmL 1 0 0) loc n g S0 [] (fun S' => S' = begF S0) := by
  refine o_enter (by decide) (Nat.le_of_ble_eq_true rfl) ?_
  intro p e s m below meth c ls S hr hlocks hC hl
  refine lv_aload_n S.1 S.2.1 dX1_begin_0 rfl (lv_at hl 0 rfl) ?_
  refine lv_iconst (v := nI 0) S.1 S.2.1 dX1_begin_1 rfl ?_
  refine m_put_relations S hC dX1_begin_2 (fun H locs hC => ?_)
  refine lv_aload_n S.1 S.2.1 dX1_begin_5 rfl (lv_at hl 0 rfl) ?_
  refine lv_iconst (v := nI 0) S.1 S.2.1 dX1_begin_6 rfl ?_
  refine m_put_pushes S hC dX1_begin_7 (fun H locs hC => ?_)
  refine lv_iconst (v := nI 0) S.1 S.2.1 dX1_begin_10 rfl ?_
  refine lv_istore_n S.1 S.2.1 dX1_begin_11 rfl hl (by decide) rfl (fun ls hl => ?_)
  have loopA : ∀ (k i : Nat), 40 - i < k → i ≤ 40 → ∀ (H : Heap) (locs : List Loc) (ls : Array Slot), CM loc n g (bgA (sI (sI S0 1 (nI 0)) 2 (nI 0)) 0 i) s H locs → lv_has ls 2 [(0, .ref (loc 0)), (1, .int (nI i))] → W p l e (rmL 1 0 0) s m ([.ref (loc 0)] : List Value).toArray below meth c H locs 0 0 (MQ below (va_Qv (fun S' => S' = begF S0) (fun S' t => HM loc n g S' t.heap) (ZA loc 10)) ([.ref (loc 0)] : List Value).toArray s (rmL 1 0 0).cells (rmL 1 0 0).slots (ZA loc 10)) (F0 m 12 ls []) := by
    intro k
    induction k with
    | zero => intro i hk; omega
    | succ k ihA =>
      intro i hkA hiA  H locs ls hC hl
      refine lv_iload_n S.1 S.2.1 dX1_begin_12 rfl (lv_at hl 1 rfl) ?_
      refine lv_bipush (v := nI 40) S.1 S.2.1 dX1_begin_13 rfl ?_
      refine n_icmp_ge (tgt := 31) S.1 S.2.1 dX1_begin_15 (by decide) (by omega) (by omega) (fun c15 => ?_) (fun c15 => ?_)
      · skip
        refine lv_iconst (v := nI 0) S.1 S.2.1 dX1_begin_31 rfl ?_
        refine lv_istore_n S.1 S.2.1 dX1_begin_32 rfl hl (by decide) rfl (fun ls hl => ?_)
        have loopB : ∀ (k j : Nat), 1600 - j < k → j ≤ 1600 → ∀ (H : Heap) (locs : List Loc) (ls : Array Slot), CM loc n g (bgA (bgA (sI (sI S0 1 (nI 0)) 2 (nI 0)) 0 40) 6 j) s H locs → lv_has ls 2 [(0, .ref (loc 0)), (1, .int (nI j))] → W p l e (rmL 1 0 0) s m ([.ref (loc 0)] : List Value).toArray below meth c H locs 0 0 (MQ below (va_Qv (fun S' => S' = begF S0) (fun S' t => HM loc n g S' t.heap) (ZA loc 10)) ([.ref (loc 0)] : List Value).toArray s (rmL 1 0 0).cells (rmL 1 0 0).slots (ZA loc 10)) (F0 m 33 ls []) := by
          intro k
          induction k with
          | zero => intro j hk; omega
          | succ k ihB =>
            intro j hkB hiB  H locs ls hC hl
            refine lv_iload_n S.1 S.2.1 dX1_begin_33 rfl (lv_at hl 1 rfl) ?_
            refine lv_sipush (v := nI 1600) S.1 S.2.1 dX1_begin_34 rfl ?_
            refine n_icmp_ge (tgt := 53) S.1 S.2.1 dX1_begin_37 (by decide) (by omega) (by omega) (fun c37 => ?_) (fun c37 => ?_)
            · skip
              exact o_vret S hr hlocks hC (by rw [begF, show 1600 = j by omega]) dX1_begin_53 (Nat.le_of_ble_eq_true rfl) (Nat.le_of_ble_eq_true rfl)
            · skip
              refine lv_aload_n S.1 S.2.1 dX1_begin_40 rfl (lv_at hl 0 rfl) ?_
              refine m_get_tallies S hC dX1_begin_41 ?_
              refine lv_iload_n S.1 S.2.1 dX1_begin_44 rfl (lv_at hl 1 rfl) ?_
              refine lv_iconst (v := nI 0) S.1 S.2.1 dX1_begin_45 rfl ?_
              refine m_ist S hC 6 (by decide) (show j < 1600 by omega) dX1_begin_46 (fun H locs hC => ?_)
              refine lv_iinc (k := 1) S.1 S.2.1 dX1_begin_47 hl rfl (n_inc _) (by decide) rfl (fun ls hl => ?_)
              refine lv_goto (tgt := 33) S.1 S.2.1 dX1_begin_50 (by decide) ?_
              exact ihB (j + 1) (by omega) (by omega) _ _ _ hC (lv_sub hl [1, 0] rfl)
        exact loopB (1600 + 1) 0 (by omega) (by omega) _ _ _ (by rw [show 40 = i by omega]; exact hC) (lv_sub hl [1, 0] rfl)
      · skip
        refine lv_aload_n S.1 S.2.1 dX1_begin_18 rfl (lv_at hl 0 rfl) ?_
        refine m_get_kinds S hC dX1_begin_19 ?_
        refine lv_iload_n S.1 S.2.1 dX1_begin_22 rfl (lv_at hl 1 rfl) ?_
        refine lv_iconst (v := nI 0) S.1 S.2.1 dX1_begin_23 rfl ?_
        refine m_ist S hC 0 (by decide) (show i < 40 by omega) dX1_begin_24 (fun H locs hC => ?_)
        refine lv_iinc (k := 1) S.1 S.2.1 dX1_begin_25 hl rfl (n_inc _) (by decide) rfl (fun ls hl => ?_)
        refine lv_goto (tgt := 12) S.1 S.2.1 dX1_begin_28 (by decide) ?_
        exact ihA (i + 1) (by omega) (by omega) _ _ _ hC (lv_sub hl [1, 0] rfl)
  exact loopA (40 + 1) 0 (by omega) (by omega) _ _ _ hC (lv_sub hl [1, 0] rfl)
set_option maxRecDepth 100000 in
set_option maxHeartbeats 4000000 in
theorem c_X1_clear (l : Launch) {loc : Nat → Nat} {n : Nat} {g : Gc} (hn : n ≤ 40) {S0 : MS} : MMi l yX1_clear cX1_clear 2 (some .int) (rmL 2 0 0) loc n g S0 [] (fun v S' => S' = begF (sI S0 0 (nI 0)) ∧ v = S0.1 1) := by
  refine o_enter (by decide) (Nat.le_of_ble_eq_true rfl) ?_
  intro p e s m below meth c ls S hr hlocks hC hl
  refine lv_aload_n S.1 S.2.1 dX1_clear_0 rfl (lv_at hl 0 rfl) ?_
  refine lv_iconst (v := nI 0) S.1 S.2.1 dX1_clear_1 rfl ?_
  refine m_put_code S hC dX1_clear_2 (fun H locs hC => ?_)
  refine lv_aload_n S.1 S.2.1 dX1_clear_5 rfl (lv_at hl 0 rfl) ?_
  refine m_get_relations S hC dX1_clear_6 ?_
  refine lv_istore_n S.1 S.2.1 dX1_clear_9 rfl hl (by decide) rfl (fun ls hl => ?_)
  refine lv_aload_n S.1 S.2.1 dX1_clear_10 rfl (lv_at hl 1 rfl) ?_
  refine o_callv oiM S hC (c_X1_begin l hn) cw_RX1_X1_begin ⟨rfl, rfl, by decide, by decide⟩ rfl hl.1 rfl (Nat.le_of_ble_eq_true rfl) dX1_clear_11 ⟨(Nat.le_of_ble_eq_true rfl), (Nat.le_of_ble_eq_true rfl)⟩ (fun S1 H locs hp hC1 => ?_)
  have e1 := hp
  rw [e1] at hC1; replace hC := hC1
  refine lv_iload_n S.1 S.2.1 dX1_clear_14 rfl (lv_at hl 0 rfl) ?_
  exact o_iret S hr hlocks hC ⟨rfl, rfl⟩ rfl dX1_clear_15 (Nat.le_of_ble_eq_true rfl) (Nat.le_of_ble_eq_true rfl)
def kC (S : MS) (n : Nat) (x k : Int32) : Int32 := if inI x (nI n) = false ∨ inB k (nI 0) (nI 3) = false then nI 1 else if ¬ S.1 1 ≤ 0 then nI 2 else nI 0
set_option maxRecDepth 100000 in
set_option maxHeartbeats 4000000 in
theorem c_X1_kind (l : Launch) {loc : Nat → Nat} {n : Nat} {g : Gc} (hn : n ≤ 40) {S0 : MS} (x k : Int32) : MMi l yX1_kind cX1_kind 4 (some .int) (rmL 3 0 0) loc n g S0 [.int x, .int k] (fun v S' => S' = (if kC S0 n x k = 0 then sA (sI S0 0 (kC S0 n x k)) 0 (ixN x) k else sI S0 0 (kC S0 n x k)) ∧ v = (if kC S0 n x k = 0 then S0.2.1 0 (ixN x) else nI 0)) := by
  refine o_enter (by decide) (Nat.le_of_ble_eq_true rfl) ?_
  intro p e s m below meth c ls S hr hlocks hC hl
  have tail34 : ∀ (H : Heap) (locs : List Loc) (ls : Array Slot), CM loc n g (S0) s H locs → lv_has ls 4 [(0, .ref (loc 0)), (1, .int x), (2, .int k)] → W p l e (rmL 3 0 0) s m ([.ref (loc 0), .int x, .int k] : List Value).toArray below meth c H locs 0 0 (MQ below (va_Qi (fun v S' => S' = (if kC S0 n x k = 0 then sA (sI S0 0 (kC S0 n x k)) 0 (ixN x) k else sI S0 0 (kC S0 n x k)) ∧ v = (if kC S0 n x k = 0 then S0.2.1 0 (ixN x) else nI 0)) (fun S' t => HM loc n g S' t.heap) (ZA loc 10)) ([.ref (loc 0), .int x, .int k] : List Value).toArray s (rmL 3 0 0).cells (rmL 3 0 0).slots (ZA loc 10)) (F0 m 34 ls [.int (kC S0 n x k), .ref (loc 0)]) := by
    intro  H locs ls hC hl
    refine o_calli oiM S hC (c_X1_isGood l hn _) cw_RX1_X1_isGood ⟨rfl, rfl, by decide, by decide⟩ rfl hl.1 rfl (Nat.le_of_ble_eq_true rfl) dX1_kind_34 ⟨(Nat.le_of_ble_eq_true rfl), (Nat.le_of_ble_eq_true rfl)⟩ (fun r34 S1 H locs hp hC1 => ?_)
    obtain ⟨e1, hp⟩ := hp
    rw [e1] at hC1; replace hC := hC1
    subst hp
    refine b_if_ne (tgt := 42) S.1 S.2.1 dX1_kind_37 (by decide) (fun c37 => ?_) (fun c37 => ?_)
    · have c38 : kC S0 n x k = 0 := by simpa using c37
      have h9 : inI x (nI n) = true := by
        unfold kC at c38
        by_cases q : inI x (nI n) = false ∨ inB k (nI 0) (nI 3) = false
        · rw [if_pos q] at c38; exact absurd c38 (by decide)
        · exact Bool.of_not_eq_false (fun z => q (Or.inl z))
      obtain ⟨a, ha, e0⟩ := inI_t (by omega) h9
      have ea : ixN x = a := by rw [e0]; exact ixN_nI (by omega)
      rw [e0] at hl
      refine lv_aload_n S.1 S.2.1 dX1_kind_42 rfl (lv_at hl 0 rfl) ?_
      refine m_get_kinds S hC dX1_kind_43 ?_
      refine lv_iload_n S.1 S.2.1 dX1_kind_46 rfl (lv_at hl 1 rfl) ?_
      refine m_ild S hC 0 (by decide) (show a < 40 by omega) dX1_kind_47 ?_
      refine lv_istore_n S.1 S.2.1 dX1_kind_48 rfl hl (by decide) rfl (fun ls hl => ?_)
      refine lv_aload_n S.1 S.2.1 dX1_kind_49 rfl (lv_at hl 1 rfl) ?_
      refine m_get_kinds S hC dX1_kind_50 ?_
      refine lv_iload_n S.1 S.2.1 dX1_kind_53 rfl (lv_at hl 2 rfl) ?_
      refine lv_iload_n S.1 S.2.1 dX1_kind_54 rfl (lv_at hl 3 rfl) ?_
      refine m_ist S hC 0 (by decide) (show a < 40 by omega) dX1_kind_55 (fun H locs hC => ?_)
      refine lv_iload_n S.1 S.2.1 dX1_kind_56 rfl (lv_at hl 0 rfl) ?_
      exact o_iret S hr hlocks hC ⟨by rw [if_pos c38, ea], by rw [if_pos c38, ea]; rfl⟩ rfl dX1_kind_57 (Nat.le_of_ble_eq_true rfl) (Nat.le_of_ble_eq_true rfl)
    · have c38 : ¬ kC S0 n x k = 0 := by simpa using c37
      refine lv_iconst (v := nI 0) S.1 S.2.1 dX1_kind_40 rfl ?_
      exact o_iret S hr hlocks hC ⟨by rw [if_neg c38], by rw [if_neg c38]⟩ rfl dX1_kind_41 (Nat.le_of_ble_eq_true rfl) (Nat.le_of_ble_eq_true rfl)
  refine lv_aload_n S.1 S.2.1 dX1_kind_0 rfl (lv_at hl 0 rfl) ?_
  refine lv_aload_n S.1 S.2.1 dX1_kind_1 rfl (lv_at hl 0 rfl) ?_
  refine lv_iload_n S.1 S.2.1 dX1_kind_2 rfl (lv_at hl 1 rfl) ?_
  refine o_calli oiM S hC (c_X1_isThing l hn x) cw_RX1_X1_isThing ⟨rfl, rfl, by decide, by decide⟩ rfl hl.1 rfl (Nat.le_of_ble_eq_true rfl) dX1_kind_3 ⟨(Nat.le_of_ble_eq_true rfl), (Nat.le_of_ble_eq_true rfl)⟩ (fun r3 S1 H locs hp hC1 => ?_)
  obtain ⟨e1, hp⟩ := hp
  rw [e1] at hC1; replace hC := hC1
  subst hp
  refine b_if_eq (tgt := 18) S.1 S.2.1 dX1_kind_6 (by decide) (fun c6 => ?_) (fun c6 => ?_)
  · skip
    refine lv_iconst (v := kC S0 n x k) S.1 S.2.1 dX1_kind_18 (by rw [show kC S0 n x k = nI 1 by simp [kC, c6]]; rfl) ?_
    refine lv_goto (tgt := 34) S.1 S.2.1 dX1_kind_19 (by decide) ?_
    exact tail34 _ _ _ hC (lv_sub hl [0, 1, 2] rfl)
  · skip
    refine lv_iload_n S.1 S.2.1 dX1_kind_9 rfl (lv_at hl 2 rfl) ?_
    refine lv_iconst (v := nI 0) S.1 S.2.1 dX1_kind_10 rfl ?_
    refine lv_iconst (v := nI 3) S.1 S.2.1 dX1_kind_11 rfl ?_
    refine s_calli S (c_X1_isIn l k _ _) cw_RX1_X1_isIn ⟨rfl, rfl, by decide, by decide⟩ rfl hl.1 rfl (Nat.le_of_ble_eq_true rfl) dX1_kind_12 ⟨(Nat.le_of_ble_eq_true rfl), (Nat.le_of_ble_eq_true rfl)⟩ (fun r12 hp => ?_)
    subst hp
    refine b_if_ne (tgt := 22) S.1 S.2.1 dX1_kind_15 (by decide) (fun c15 => ?_) (fun c15 => ?_)
    · skip
      refine lv_aload_n S.1 S.2.1 dX1_kind_22 rfl (lv_at hl 0 rfl) ?_
      refine m_get_relations S hC dX1_kind_23 ?_
      refine lv_if_le (tgt := 33) S.1 S.2.1 dX1_kind_26 (by decide) (fun c26 => ?_) (fun c26 => ?_)
      · skip
        refine lv_iconst (v := kC S0 n x k) S.1 S.2.1 dX1_kind_33 (by rw [show kC S0 n x k = nI 0 by simp [kC, c6, c15, c26]]; rfl) ?_
        exact tail34 _ _ _ hC (lv_sub hl [0, 1, 2] rfl)
      · skip
        refine lv_iconst (v := kC S0 n x k) S.1 S.2.1 dX1_kind_29 (by rw [show kC S0 n x k = nI 2 by simp [kC, c6, c15, c26]]; rfl) ?_
        refine lv_goto (tgt := 34) S.1 S.2.1 dX1_kind_30 (by decide) ?_
        exact tail34 _ _ _ hC (lv_sub hl [0, 1, 2] rfl)
    · skip
      refine lv_iconst (v := kC S0 n x k) S.1 S.2.1 dX1_kind_18 (by rw [show kC S0 n x k = nI 1 by simp [kC, c15]]; rfl) ?_
      refine lv_goto (tgt := 34) S.1 S.2.1 dX1_kind_19 (by decide) ?_
      exact tail34 _ _ _ hC (lv_sub hl [0, 1, 2] rfl)
def mk1 (S : MS) (r : Nat) : Nat → MS
  | 0 => S
  | k + 1 => sW (mk1 S r k) 0 (1600 * r + k) false
def mk2 (S : MS) (r : Nat) (f x : Int32) : Nat → MS
  | 0 => S
  | k + 1 => sW (mk2 S r f x k) 0 (ixP r k k) (decide (f = nI 6) && (decide (x = -1) || decide ((mk2 S r f x k).2.1 0 k = x)))
def makeM (S : MS) (n r : Nat) (f x y : Int32) : MS := mk2 (mk1 (sA (sA (sA (sI S 1 (nI (r + 1))) 1 r f) 2 r x) 3 r y) r 1600) r f x n
set_option maxRecDepth 100000 in
set_option maxHeartbeats 4000000 in
theorem c_X1_make (l : Launch) {loc : Nat → Nat} {n : Nat} {g : Gc} (hn : n ≤ 40) {S0 : MS} {r : Nat} (hr12 : r < 12) (hrel : S0.1 1 = nI r) (f x y : Int32) : MMi l yX1_make cX1_make 6 (some .int) (rmL 2 0 0) loc n g S0 [.int f, .int x, .int y] (fun v S' => S' = makeM S0 n r f x y ∧ v = nI r) := by
  refine o_enter (by decide) (Nat.le_of_ble_eq_true rfl) ?_
  intro p e s m below meth c ls S hr hlocks hC hl
  refine lv_aload_n S.1 S.2.1 dX1_make_0 rfl (lv_at hl 0 rfl) ?_
  refine m_get_relations S hC dX1_make_1 ?_
  rw [hrel]
  refine lv_istore S.1 S.2.1 dX1_make_4 hl (by decide) rfl (fun ls hl => ?_)
  refine lv_aload_n S.1 S.2.1 dX1_make_6 rfl (lv_at hl 1 rfl) ?_
  refine lv_dup S.1 S.2.1 dX1_make_7 rfl ?_
  refine m_get_relations S hC dX1_make_8 ?_
  rw [hrel]
  refine lv_iconst (v := nI 1) S.1 S.2.1 dX1_make_11 rfl ?_
  refine t_iadd S.1 S.2.1 dX1_make_12 (nI_add _ _) ?_
  refine m_put_relations S hC dX1_make_13 (fun H locs hC => ?_)
  refine lv_aload_n S.1 S.2.1 dX1_make_16 rfl (lv_at hl 1 rfl) ?_
  refine m_get_form S hC dX1_make_17 ?_
  refine lv_iload S.1 S.2.1 dX1_make_20 (lv_at hl 0 rfl) ?_
  refine lv_iload_n S.1 S.2.1 dX1_make_22 rfl (lv_at hl 2 rfl) ?_
  refine m_ist S hC 1 (by decide) hr12 dX1_make_23 (fun H locs hC => ?_)
  refine lv_aload_n S.1 S.2.1 dX1_make_24 rfl (lv_at hl 1 rfl) ?_
  refine m_get_one S hC dX1_make_25 ?_
  refine lv_iload S.1 S.2.1 dX1_make_28 (lv_at hl 0 rfl) ?_
  refine lv_iload_n S.1 S.2.1 dX1_make_30 rfl (lv_at hl 3 rfl) ?_
  refine m_ist S hC 2 (by decide) hr12 dX1_make_31 (fun H locs hC => ?_)
  refine lv_aload_n S.1 S.2.1 dX1_make_32 rfl (lv_at hl 1 rfl) ?_
  refine m_get_two S hC dX1_make_33 ?_
  refine lv_iload S.1 S.2.1 dX1_make_36 (lv_at hl 0 rfl) ?_
  refine lv_iload_n S.1 S.2.1 dX1_make_38 rfl (lv_at hl 4 rfl) ?_
  refine m_ist S hC 3 (by decide) hr12 dX1_make_39 (fun H locs hC => ?_)
  refine lv_iconst (v := nI 0) S.1 S.2.1 dX1_make_40 rfl ?_
  refine lv_istore S.1 S.2.1 dX1_make_41 hl (by decide) rfl (fun ls hl => ?_)
  have loopA : ∀ (k i : Nat), 1600 - i < k → i ≤ 1600 → ∀ (H : Heap) (locs : List Loc) (ls : Array Slot), CM loc n g (mk1 (sA (sA (sA (sI S0 1 (nI (r + 1))) 1 r f) 2 r x) 3 r y) r i) s H locs → lv_has ls 6 [(0, .ref (loc 0)), (1, .int f), (2, .int x), (3, .int y), (4, .int (nI r)), (5, .int (nI i))] → W p l e (rmL 2 0 0) s m ([.ref (loc 0), .int f, .int x, .int y] : List Value).toArray below meth c H locs 0 0 (MQ below (va_Qi (fun v S' => S' = makeM S0 n r f x y ∧ v = nI r) (fun S' t => HM loc n g S' t.heap) (ZA loc 10)) ([.ref (loc 0), .int f, .int x, .int y] : List Value).toArray s (rmL 2 0 0).cells (rmL 2 0 0).slots (ZA loc 10)) (F0 m 43 ls []) := by
    intro k
    induction k with
    | zero => intro i hk; omega
    | succ k ihA =>
      intro i hkA hiA  H locs ls hC hl
      refine lv_iload S.1 S.2.1 dX1_make_43 (lv_at hl 5 rfl) ?_
      refine lv_sipush (v := nI 1600) S.1 S.2.1 dX1_make_45 rfl ?_
      refine n_icmp_ge (tgt := 72) S.1 S.2.1 dX1_make_48 (by decide) (by omega) (by omega) (fun c48 => ?_) (fun c48 => ?_)
      · skip
        refine lv_iconst (v := nI 0) S.1 S.2.1 dX1_make_72 rfl ?_
        refine lv_istore S.1 S.2.1 dX1_make_73 hl (by decide) rfl (fun ls hl => ?_)
        have loopB : ∀ (k j : Nat), n - j < k → j ≤ n → ∀ (H : Heap) (locs : List Loc) (ls : Array Slot), CM loc n g (mk2 (mk1 (sA (sA (sA (sI S0 1 (nI (r + 1))) 1 r f) 2 r x) 3 r y) r 1600) r f x j) s H locs → lv_has ls 6 [(0, .ref (loc 0)), (1, .int f), (2, .int x), (3, .int y), (4, .int (nI r)), (5, .int (nI j))] → W p l e (rmL 2 0 0) s m ([.ref (loc 0), .int f, .int x, .int y] : List Value).toArray below meth c H locs 0 0 (MQ below (va_Qi (fun v S' => S' = makeM S0 n r f x y ∧ v = nI r) (fun S' t => HM loc n g S' t.heap) (ZA loc 10)) ([.ref (loc 0), .int f, .int x, .int y] : List Value).toArray s (rmL 2 0 0).cells (rmL 2 0 0).slots (ZA loc 10)) (F0 m 75 ls []) := by
          intro k
          induction k with
          | zero => intro j hk; omega
          | succ k ihB =>
            intro j hkB hiB  H locs ls hC hl
            refine lv_iload S.1 S.2.1 dX1_make_75 (lv_at hl 5 rfl) ?_
            refine lv_aload_n S.1 S.2.1 dX1_make_77 rfl (lv_at hl 0 rfl) ?_
            refine m_get_things S hC dX1_make_78 ?_
            refine n_icmp_ge (tgt := 131) S.1 S.2.1 dX1_make_81 (by decide) (by omega) (by omega) (fun c81 => ?_) (fun c81 => ?_)
            · skip
              refine lv_iload S.1 S.2.1 dX1_make_131 (lv_at hl 4 rfl) ?_
              exact o_iret S hr hlocks hC ⟨by rw [makeM, show n = j by omega], rfl⟩ rfl dX1_make_133 (Nat.le_of_ble_eq_true rfl) (Nat.le_of_ble_eq_true rfl)
            · skip
              refine lv_aload_n S.1 S.2.1 dX1_make_84 rfl (lv_at hl 0 rfl) ?_
              refine m_get_pairs S hC dX1_make_85 ?_
              refine lv_iload S.1 S.2.1 dX1_make_88 (lv_at hl 4 rfl) ?_
              refine lv_iload S.1 S.2.1 dX1_make_90 (lv_at hl 5 rfl) ?_
              refine lv_iload S.1 S.2.1 dX1_make_92 (lv_at hl 5 rfl) ?_
              refine s_calli S (c_X1_at l r j j) cw_RX1_X1_at ⟨rfl, rfl, by decide, by decide⟩ rfl hl.1 rfl (Nat.le_of_ble_eq_true rfl) dX1_make_94 ⟨(Nat.le_of_ble_eq_true rfl), (Nat.le_of_ble_eq_true rfl)⟩ (fun r94 hp => ?_)
              subst hp
              refine lv_iload_n S.1 S.2.1 dX1_make_97 rfl (lv_at hl 1 rfl) ?_
              refine lv_bipush (v := nI 6) S.1 S.2.1 dX1_make_98 rfl ?_
              refine lv_icmp_ne (tgt := 123) S.1 S.2.1 dX1_make_100 (by decide) (fun c100 => ?_) (fun c100 => ?_)
              · skip
                refine lv_iconst (v := bI (decide (f = nI 6) && (decide (x = -1) || decide ((mk2 (mk1 (sA (sA (sA (sI S0 1 (nI (r + 1))) 1 r f) 2 r x) 3 r y) r 1600) r f x j).2.1 0 j = x)))) S.1 S.2.1 dX1_make_123 (by rw [decide_eq_false c100]; rfl) ?_
                refine m_zst S hC 0 (by decide) (show ixP r j j < 19200 by unfold ixP; omega) rfl dX1_make_124 (fun H locs hC => ?_)
                refine lv_iinc (k := 5) S.1 S.2.1 dX1_make_125 hl rfl (n_inc _) (by decide) rfl (fun ls hl => ?_)
                refine lv_goto (tgt := 75) S.1 S.2.1 dX1_make_128 (by decide) ?_
                exact ihB (j + 1) (by omega) (by omega) _ _ _ hC (lv_sub hl [1, 2, 3, 4, 5, 0] rfl)
              · skip
                refine lv_iload_n S.1 S.2.1 dX1_make_103 rfl (lv_at hl 2 rfl) ?_
                refine lv_iconst (v := -1) S.1 S.2.1 dX1_make_104 rfl ?_
                refine lv_icmp_eq (tgt := 119) S.1 S.2.1 dX1_make_105 (by decide) (fun c105 => ?_) (fun c105 => ?_)
                · skip
                  refine lv_iconst (v := bI (decide (f = nI 6) && (decide (x = -1) || decide ((mk2 (mk1 (sA (sA (sA (sI S0 1 (nI (r + 1))) 1 r f) 2 r x) 3 r y) r 1600) r f x j).2.1 0 j = x)))) S.1 S.2.1 dX1_make_119 (by rw [decide_eq_true c100, decide_eq_true c105]; rfl) ?_
                  refine lv_goto (tgt := 124) S.1 S.2.1 dX1_make_120 (by decide) ?_
                  refine m_zst S hC 0 (by decide) (show ixP r j j < 19200 by unfold ixP; omega) rfl dX1_make_124 (fun H locs hC => ?_)
                  refine lv_iinc (k := 5) S.1 S.2.1 dX1_make_125 hl rfl (n_inc _) (by decide) rfl (fun ls hl => ?_)
                  refine lv_goto (tgt := 75) S.1 S.2.1 dX1_make_128 (by decide) ?_
                  exact ihB (j + 1) (by omega) (by omega) _ _ _ hC (lv_sub hl [1, 2, 3, 4, 5, 0] rfl)
                · skip
                  refine lv_aload_n S.1 S.2.1 dX1_make_108 rfl (lv_at hl 0 rfl) ?_
                  refine m_get_kinds S hC dX1_make_109 ?_
                  refine lv_iload S.1 S.2.1 dX1_make_112 (lv_at hl 5 rfl) ?_
                  refine m_ild S hC 0 (by decide) (show j < 40 by omega) dX1_make_114 ?_
                  refine lv_iload_n S.1 S.2.1 dX1_make_115 rfl (lv_at hl 2 rfl) ?_
                  refine lv_icmp_ne (tgt := 123) S.1 S.2.1 dX1_make_116 (by decide) (fun c116 => ?_) (fun c116 => ?_)
                  · skip
                    refine lv_iconst (v := bI (decide (f = nI 6) && (decide (x = -1) || decide ((mk2 (mk1 (sA (sA (sA (sI S0 1 (nI (r + 1))) 1 r f) 2 r x) 3 r y) r 1600) r f x j).2.1 0 j = x)))) S.1 S.2.1 dX1_make_123 (by rw [decide_eq_true c100, decide_eq_false c105, decide_eq_false c116]; rfl) ?_
                    refine m_zst S hC 0 (by decide) (show ixP r j j < 19200 by unfold ixP; omega) rfl dX1_make_124 (fun H locs hC => ?_)
                    refine lv_iinc (k := 5) S.1 S.2.1 dX1_make_125 hl rfl (n_inc _) (by decide) rfl (fun ls hl => ?_)
                    refine lv_goto (tgt := 75) S.1 S.2.1 dX1_make_128 (by decide) ?_
                    exact ihB (j + 1) (by omega) (by omega) _ _ _ hC (lv_sub hl [1, 2, 3, 4, 5, 0] rfl)
                  · skip
                    refine lv_iconst (v := bI (decide (f = nI 6) && (decide (x = -1) || decide ((mk2 (mk1 (sA (sA (sA (sI S0 1 (nI (r + 1))) 1 r f) 2 r x) 3 r y) r 1600) r f x j).2.1 0 j = x)))) S.1 S.2.1 dX1_make_119 (by rw [decide_eq_true c100, decide_eq_false c105, decide_eq_true c116]; rfl) ?_
                    refine lv_goto (tgt := 124) S.1 S.2.1 dX1_make_120 (by decide) ?_
                    refine m_zst S hC 0 (by decide) (show ixP r j j < 19200 by unfold ixP; omega) rfl dX1_make_124 (fun H locs hC => ?_)
                    refine lv_iinc (k := 5) S.1 S.2.1 dX1_make_125 hl rfl (n_inc _) (by decide) rfl (fun ls hl => ?_)
                    refine lv_goto (tgt := 75) S.1 S.2.1 dX1_make_128 (by decide) ?_
                    exact ihB (j + 1) (by omega) (by omega) _ _ _ hC (lv_sub hl [1, 2, 3, 4, 5, 0] rfl)
        exact loopB (n + 1) 0 (by omega) (by omega) _ _ _ (by rw [show 1600 = i by omega]; exact hC) (lv_sub hl [1, 2, 3, 4, 5, 0] rfl)
      · skip
        refine lv_aload_n S.1 S.2.1 dX1_make_51 rfl (lv_at hl 0 rfl) ?_
        refine m_get_pairs S hC dX1_make_52 ?_
        refine lv_sipush (v := nI 1600) S.1 S.2.1 dX1_make_55 rfl ?_
        refine lv_iload S.1 S.2.1 dX1_make_58 (lv_at hl 4 rfl) ?_
        refine t_imul S.1 S.2.1 dX1_make_60 (pk_mul _ _) ?_
        refine lv_iload S.1 S.2.1 dX1_make_61 (lv_at hl 5 rfl) ?_
        refine t_iadd S.1 S.2.1 dX1_make_63 (nI_add _ _) ?_
        refine lv_iconst (v := bI false) S.1 S.2.1 dX1_make_64 rfl ?_
        refine m_zst S hC 0 (by decide) (show 1600 * r + i < 19200 by omega) rfl dX1_make_65 (fun H locs hC => ?_)
        refine lv_iinc (k := 5) S.1 S.2.1 dX1_make_66 hl rfl (n_inc _) (by decide) rfl (fun ls hl => ?_)
        refine lv_goto (tgt := 43) S.1 S.2.1 dX1_make_69 (by decide) ?_
        exact ihA (i + 1) (by omega) (by omega) _ _ _ hC (lv_sub hl [1, 2, 3, 4, 5, 0] rfl)
  exact loopA (1600 + 1) 0 (by omega) (by omega) _ _ _ hC (lv_sub hl [2, 3, 4, 5, 1, 0] rfl)
