def relOk (f x y : Int32) : Bool := inB f (nI 0) (nI 6) && (inB x (-1) (nI 3) && (inB y (-1) (nI 3) && (decide (f < nI 4) || decide (x = y))))
def rC (S : MS) (f x y : Int32) : Int32 := if relOk f x y = false then nI 1 else if S.1 1 = nI 12 then nI 2 else nI 0
def cndOk (c0 x y : Int32) (R : Nat) : Bool := inB c0 (nI 0) (nI 5) && (inI x (nI R) && (if inB c0 (nI 2) (nI 4) then inI y (nI R) else decide (y = -1)))
def cC (S : MS) (c0 x y : Int32) (R : Nat) : Int32 := if cndOk c0 x y R = false then nI 1 else if S.1 1 = nI 12 then nI 2 else nI 0
set_option maxRecDepth 100000 in
set_option maxHeartbeats 4000000 in
theorem c_X1_relation (l : Launch) {loc : Nat → Nat} {n : Nat} {g : Gc} (hn : n ≤ 40) {S0 : MS} {R : Nat} (hR : R ≤ 12) (hrel : S0.1 1 = nI R) (f x y : Int32) : MMi l yX1_relation cX1_relation 5 (some .int) (rmL 3 0 0) loc n g S0 [.int f, .int x, .int y] (fun v S' => S' = (if rC S0 f x y = 0 then makeM (sI S0 0 (rC S0 f x y)) n R f x y else sI S0 0 (rC S0 f x y)) ∧ v = (if rC S0 f x y = 0 then nI R else nI 0)) := by
  refine o_enter (by decide) (Nat.le_of_ble_eq_true rfl) ?_
  intro p e s m below meth c ls S hr hlocks hC hl
  have tail69 : ∀ (H : Heap) (locs : List Loc) (ls : Array Slot), CM loc n g (S0) s H locs → lv_has ls 5 [(0, .ref (loc 0)), (1, .int f), (2, .int x), (3, .int y)] → W p l e (rmL 3 0 0) s m ([.ref (loc 0), .int f, .int x, .int y] : List Value).toArray below meth c H locs 0 0 (MQ below (va_Qi (fun v S' => S' = (if rC S0 f x y = 0 then makeM (sI S0 0 (rC S0 f x y)) n R f x y else sI S0 0 (rC S0 f x y)) ∧ v = (if rC S0 f x y = 0 then nI R else nI 0)) (fun S' t => HM loc n g S' t.heap) (ZA loc 10)) ([.ref (loc 0), .int f, .int x, .int y] : List Value).toArray s (rmL 3 0 0).cells (rmL 3 0 0).slots (ZA loc 10)) (F0 m 69 ls [.int (rC S0 f x y), .ref (loc 0)]) := by
    intro  H locs ls hC hl
    refine o_calli oiM S hC (c_X1_isGood l hn _) cw_RX1_X1_isGood ⟨rfl, rfl, by decide, by decide⟩ rfl hl.1 rfl (Nat.le_of_ble_eq_true rfl) dX1_relation_69 ⟨(Nat.le_of_ble_eq_true rfl), (Nat.le_of_ble_eq_true rfl)⟩ (fun r69 S1 H locs hp hC1 => ?_)
    obtain ⟨e1, hp⟩ := hp
    rw [e1] at hC1; replace hC := hC1
    subst hp
    refine b_if_eq (tgt := 85) S.1 S.2.1 dX1_relation_72 (by decide) (fun c72 => ?_) (fun c72 => ?_)
    · have c73 : ¬ rC S0 f x y = 0 := by simpa using c72
      refine lv_iconst (v := nI 0) S.1 S.2.1 dX1_relation_85 rfl ?_
      exact o_iret S hr hlocks hC ⟨by rw [if_neg c73], by rw [if_neg c73]⟩ rfl dX1_relation_86 (Nat.le_of_ble_eq_true rfl) (Nat.le_of_ble_eq_true rfl)
    · have c73 : rC S0 f x y = 0 := by simpa using c72
      have h12 : R < 12 := by
        unfold rC at c73
        by_cases q : relOk f x y = false
        · rw [if_pos q] at c73; exact absurd c73 (by decide)
        · rw [if_neg q] at c73
          by_cases q2 : S0.1 1 = nI 12
          · rw [if_pos q2] at c73; exact absurd c73 (by decide)
          · rw [hrel] at q2
            exact Nat.lt_of_le_of_ne hR (fun e => q2 (by rw [e]))
      refine lv_aload_n S.1 S.2.1 dX1_relation_75 rfl (lv_at hl 0 rfl) ?_
      refine lv_iload_n S.1 S.2.1 dX1_relation_76 rfl (lv_at hl 1 rfl) ?_
      refine lv_iload_n S.1 S.2.1 dX1_relation_77 rfl (lv_at hl 2 rfl) ?_
      refine lv_iload_n S.1 S.2.1 dX1_relation_78 rfl (lv_at hl 3 rfl) ?_
      refine o_calli oiM S hC (c_X1_make l hn h12 (show (sI S0 0 (rC S0 f x y)).1 1 = nI R from hrel) f x y) cw_RX1_X1_make ⟨rfl, rfl, by decide, by decide⟩ rfl hl.1 rfl (Nat.le_of_ble_eq_true rfl) dX1_relation_79 ⟨(Nat.le_of_ble_eq_true rfl), (Nat.le_of_ble_eq_true rfl)⟩ (fun r79 S1 H locs hp hC1 => ?_)
      obtain ⟨e1, hp⟩ := hp
      rw [e1] at hC1; replace hC := hC1
      subst hp
      refine lv_goto (tgt := 86) S.1 S.2.1 dX1_relation_82 (by decide) ?_
      exact o_iret S hr hlocks hC ⟨by rw [if_pos c73], by rw [if_pos c73]⟩ rfl dX1_relation_86 (Nat.le_of_ble_eq_true rfl) (Nat.le_of_ble_eq_true rfl)
  have tail43 : ∀ (H : Heap) (locs : List Loc) (ls : Array Slot), CM loc n g (S0) s H locs → lv_has ls 5 [(0, .ref (loc 0)), (1, .int f), (2, .int x), (3, .int y)] → W p l e (rmL 3 0 0) s m ([.ref (loc 0), .int f, .int x, .int y] : List Value).toArray below meth c H locs 0 0 (MQ below (va_Qi (fun v S' => S' = (if rC S0 f x y = 0 then makeM (sI S0 0 (rC S0 f x y)) n R f x y else sI S0 0 (rC S0 f x y)) ∧ v = (if rC S0 f x y = 0 then nI R else nI 0)) (fun S' t => HM loc n g S' t.heap) (ZA loc 10)) ([.ref (loc 0), .int f, .int x, .int y] : List Value).toArray s (rmL 3 0 0).cells (rmL 3 0 0).slots (ZA loc 10)) (F0 m 43 ls [.int (bI (relOk f x y))]) := by
    intro  H locs ls hC hl
    refine lv_istore S.1 S.2.1 dX1_relation_43 hl (by decide) rfl (fun ls hl => ?_)
    refine lv_aload_n S.1 S.2.1 dX1_relation_45 rfl (lv_at hl 1 rfl) ?_
    refine lv_iload S.1 S.2.1 dX1_relation_46 (lv_at hl 0 rfl) ?_
    refine b_if_ne (tgt := 55) S.1 S.2.1 dX1_relation_48 (by decide) (fun c48 => ?_) (fun c48 => ?_)
    · skip
      refine lv_aload_n S.1 S.2.1 dX1_relation_55 rfl (lv_at hl 1 rfl) ?_
      refine m_get_relations S hC dX1_relation_56 ?_
      refine lv_bipush (v := nI 12) S.1 S.2.1 dX1_relation_59 rfl ?_
      refine lv_icmp_ne (tgt := 68) S.1 S.2.1 dX1_relation_61 (by decide) (fun c61 => ?_) (fun c61 => ?_)
      · skip
        refine lv_iconst (v := rC S0 f x y) S.1 S.2.1 dX1_relation_68 (by rw [show rC S0 f x y = nI 0 by simp [rC, c48, c61]]; rfl) ?_
        exact tail69 _ _ _ hC (lv_sub hl [1, 2, 3, 4] rfl)
      · skip
        refine lv_iconst (v := rC S0 f x y) S.1 S.2.1 dX1_relation_64 (by rw [show rC S0 f x y = nI 2 by simp [rC, c48, c61]]; rfl) ?_
        refine lv_goto (tgt := 69) S.1 S.2.1 dX1_relation_65 (by decide) ?_
        exact tail69 _ _ _ hC (lv_sub hl [1, 2, 3, 4] rfl)
    · skip
      refine lv_iconst (v := rC S0 f x y) S.1 S.2.1 dX1_relation_51 (by rw [show rC S0 f x y = nI 1 by simp [rC, c48]]; rfl) ?_
      refine lv_goto (tgt := 69) S.1 S.2.1 dX1_relation_52 (by decide) ?_
      exact tail69 _ _ _ hC (lv_sub hl [1, 2, 3, 4] rfl)
  refine lv_iload_n S.1 S.2.1 dX1_relation_0 rfl (lv_at hl 1 rfl) ?_
  refine lv_iconst (v := nI 0) S.1 S.2.1 dX1_relation_1 rfl ?_
  refine lv_bipush (v := nI 6) S.1 S.2.1 dX1_relation_2 rfl ?_
  refine s_calli S (c_X1_isIn l _ _ _) cw_RX1_X1_isIn ⟨rfl, rfl, by decide, by decide⟩ rfl hl.1 rfl (Nat.le_of_ble_eq_true rfl) dX1_relation_4 ⟨(Nat.le_of_ble_eq_true rfl), (Nat.le_of_ble_eq_true rfl)⟩ (fun r4 hp => ?_)
  subst hp
  refine b_if_eq (tgt := 42) S.1 S.2.1 dX1_relation_7 (by decide) (fun c7 => ?_) (fun c7 => ?_)
  · skip
    refine lv_iconst (v := bI (relOk f x y)) S.1 S.2.1 dX1_relation_42 (by rw [show relOk f x y = false by simp [relOk, c7]]; rfl) ?_
    exact tail43 _ _ _ hC (lv_sub hl [0, 1, 2, 3] rfl)
  · skip
    refine lv_iload_n S.1 S.2.1 dX1_relation_10 rfl (lv_at hl 2 rfl) ?_
    refine lv_iconst (v := -1) S.1 S.2.1 dX1_relation_11 rfl ?_
    refine lv_iconst (v := nI 3) S.1 S.2.1 dX1_relation_12 rfl ?_
    refine s_calli S (c_X1_isIn l _ _ _) cw_RX1_X1_isIn ⟨rfl, rfl, by decide, by decide⟩ rfl hl.1 rfl (Nat.le_of_ble_eq_true rfl) dX1_relation_13 ⟨(Nat.le_of_ble_eq_true rfl), (Nat.le_of_ble_eq_true rfl)⟩ (fun r13 hp => ?_)
    subst hp
    refine b_if_eq (tgt := 42) S.1 S.2.1 dX1_relation_16 (by decide) (fun c16 => ?_) (fun c16 => ?_)
    · skip
      refine lv_iconst (v := bI (relOk f x y)) S.1 S.2.1 dX1_relation_42 (by rw [show relOk f x y = false by simp [relOk, c16]]; rfl) ?_
      exact tail43 _ _ _ hC (lv_sub hl [0, 1, 2, 3] rfl)
    · skip
      refine lv_iload_n S.1 S.2.1 dX1_relation_19 rfl (lv_at hl 3 rfl) ?_
      refine lv_iconst (v := -1) S.1 S.2.1 dX1_relation_20 rfl ?_
      refine lv_iconst (v := nI 3) S.1 S.2.1 dX1_relation_21 rfl ?_
      refine s_calli S (c_X1_isIn l _ _ _) cw_RX1_X1_isIn ⟨rfl, rfl, by decide, by decide⟩ rfl hl.1 rfl (Nat.le_of_ble_eq_true rfl) dX1_relation_22 ⟨(Nat.le_of_ble_eq_true rfl), (Nat.le_of_ble_eq_true rfl)⟩ (fun r22 hp => ?_)
      subst hp
      refine b_if_eq (tgt := 42) S.1 S.2.1 dX1_relation_25 (by decide) (fun c25 => ?_) (fun c25 => ?_)
      · skip
        refine lv_iconst (v := bI (relOk f x y)) S.1 S.2.1 dX1_relation_42 (by rw [show relOk f x y = false by simp [relOk, c25]]; rfl) ?_
        exact tail43 _ _ _ hC (lv_sub hl [0, 1, 2, 3] rfl)
      · skip
        refine lv_iload_n S.1 S.2.1 dX1_relation_28 rfl (lv_at hl 1 rfl) ?_
        refine lv_iconst (v := nI 4) S.1 S.2.1 dX1_relation_29 rfl ?_
        refine lv_icmp_lt (tgt := 38) S.1 S.2.1 dX1_relation_30 (by decide) (fun c30 => ?_) (fun c30 => ?_)
        · skip
          refine lv_iconst (v := bI (relOk f x y)) S.1 S.2.1 dX1_relation_38 (by rw [show relOk f x y = true by simp [relOk, c7, c16, c25, c30]]; rfl) ?_
          refine lv_goto (tgt := 43) S.1 S.2.1 dX1_relation_39 (by decide) ?_
          exact tail43 _ _ _ hC (lv_sub hl [0, 1, 2, 3] rfl)
        · skip
          refine lv_iload_n S.1 S.2.1 dX1_relation_33 rfl (lv_at hl 2 rfl) ?_
          refine lv_iload_n S.1 S.2.1 dX1_relation_34 rfl (lv_at hl 3 rfl) ?_
          refine lv_icmp_ne (tgt := 42) S.1 S.2.1 dX1_relation_35 (by decide) (fun c35 => ?_) (fun c35 => ?_)
          · skip
            refine lv_iconst (v := bI (relOk f x y)) S.1 S.2.1 dX1_relation_42 (by rw [show relOk f x y = false by simp [relOk, c30, c35]]; rfl) ?_
            exact tail43 _ _ _ hC (lv_sub hl [0, 1, 2, 3] rfl)
          · skip
            refine lv_iconst (v := bI (relOk f x y)) S.1 S.2.1 dX1_relation_38 (by rw [show relOk f x y = true by simp [relOk, c7, c16, c25, c35]]; rfl) ?_
            refine lv_goto (tgt := 43) S.1 S.2.1 dX1_relation_39 (by decide) ?_
            exact tail43 _ _ _ hC (lv_sub hl [0, 1, 2, 3] rfl)
set_option maxRecDepth 100000 in
set_option maxHeartbeats 4000000 in
theorem c_X1_condition (l : Launch) {loc : Nat → Nat} {n : Nat} {g : Gc} (hn : n ≤ 40) {S0 : MS} {R : Nat} (hR : R ≤ 12) (hrel : S0.1 1 = nI R) (c0 x y : Int32) : MMi l yX1_condition cX1_condition 6 (some .int) (rmL 3 0 0) loc n g S0 [.int c0, .int x, .int y] (fun v S' => S' = (if cC S0 c0 x y R = 0 then makeM (sI S0 0 (cC S0 c0 x y R)) n R (nI 10 + c0) x y else sI S0 0 (cC S0 c0 x y R)) ∧ v = (if cC S0 c0 x y R = 0 then nI R else nI 0)) := by
  refine o_enter (by decide) (Nat.le_of_ble_eq_true rfl) ?_
  intro p e s m below meth c ls S hr hlocks hC hl
  have tail77 : ∀ (H : Heap) (locs : List Loc) (ls : Array Slot), CM loc n g (S0) s H locs → lv_has ls 6 [(0, .ref (loc 0)), (1, .int c0), (2, .int x), (3, .int y)] → W p l e (rmL 3 0 0) s m ([.ref (loc 0), .int c0, .int x, .int y] : List Value).toArray below meth c H locs 0 0 (MQ below (va_Qi (fun v S' => S' = (if cC S0 c0 x y R = 0 then makeM (sI S0 0 (cC S0 c0 x y R)) n R (nI 10 + c0) x y else sI S0 0 (cC S0 c0 x y R)) ∧ v = (if cC S0 c0 x y R = 0 then nI R else nI 0)) (fun S' t => HM loc n g S' t.heap) (ZA loc 10)) ([.ref (loc 0), .int c0, .int x, .int y] : List Value).toArray s (rmL 3 0 0).cells (rmL 3 0 0).slots (ZA loc 10)) (F0 m 77 ls [.int (cC S0 c0 x y R), .ref (loc 0)]) := by
    intro  H locs ls hC hl
    refine o_calli oiM S hC (c_X1_isGood l hn _) cw_RX1_X1_isGood ⟨rfl, rfl, by decide, by decide⟩ rfl hl.1 rfl (Nat.le_of_ble_eq_true rfl) dX1_condition_77 ⟨(Nat.le_of_ble_eq_true rfl), (Nat.le_of_ble_eq_true rfl)⟩ (fun r77 S1 H locs hp hC1 => ?_)
    obtain ⟨e1, hp⟩ := hp
    rw [e1] at hC1; replace hC := hC1
    subst hp
    refine b_if_eq (tgt := 96) S.1 S.2.1 dX1_condition_80 (by decide) (fun c80 => ?_) (fun c80 => ?_)
    · have c73 : ¬ cC S0 c0 x y R = 0 := by simpa using c80
      refine lv_iconst (v := nI 0) S.1 S.2.1 dX1_condition_96 rfl ?_
      exact o_iret S hr hlocks hC ⟨by rw [if_neg c73], by rw [if_neg c73]⟩ rfl dX1_condition_97 (Nat.le_of_ble_eq_true rfl) (Nat.le_of_ble_eq_true rfl)
    · have c73 : cC S0 c0 x y R = 0 := by simpa using c80
      have h12 : R < 12 := by
        unfold cC at c73
        by_cases q : cndOk c0 x y R = false
        · rw [if_pos q] at c73; exact absurd c73 (by decide)
        · rw [if_neg q] at c73
          by_cases q2 : S0.1 1 = nI 12
          · rw [if_pos q2] at c73; exact absurd c73 (by decide)
          · rw [hrel] at q2
            exact Nat.lt_of_le_of_ne hR (fun e => q2 (by rw [e]))
      refine lv_aload_n S.1 S.2.1 dX1_condition_83 rfl (lv_at hl 0 rfl) ?_
      refine lv_bipush (v := nI 10) S.1 S.2.1 dX1_condition_84 rfl ?_
      refine lv_iload_n S.1 S.2.1 dX1_condition_86 rfl (lv_at hl 1 rfl) ?_
      refine lv_iadd S.1 S.2.1 dX1_condition_87 ?_
      refine lv_iload_n S.1 S.2.1 dX1_condition_88 rfl (lv_at hl 2 rfl) ?_
      refine lv_iload_n S.1 S.2.1 dX1_condition_89 rfl (lv_at hl 3 rfl) ?_
      refine o_calli oiM S hC (c_X1_make l hn h12 (show (sI S0 0 (cC S0 c0 x y R)).1 1 = nI R from hrel) _ x y) cw_RX1_X1_make ⟨rfl, rfl, by decide, by decide⟩ rfl hl.1 rfl (Nat.le_of_ble_eq_true rfl) dX1_condition_90 ⟨(Nat.le_of_ble_eq_true rfl), (Nat.le_of_ble_eq_true rfl)⟩ (fun r90 S1 H locs hp hC1 => ?_)
      obtain ⟨e1, hp⟩ := hp
      rw [e1] at hC1; replace hC := hC1
      subst hp
      refine lv_goto (tgt := 97) S.1 S.2.1 dX1_condition_93 (by decide) ?_
      exact o_iret S hr hlocks hC ⟨by rw [if_pos c73], by rw [if_pos c73]⟩ rfl dX1_condition_97 (Nat.le_of_ble_eq_true rfl) (Nat.le_of_ble_eq_true rfl)
  have tail51 : ∀ (H : Heap) (locs : List Loc) (ls : Array Slot), CM loc n g (S0) s H locs → lv_has ls 6 [(0, .ref (loc 0)), (1, .int c0), (2, .int x), (3, .int y)] → W p l e (rmL 3 0 0) s m ([.ref (loc 0), .int c0, .int x, .int y] : List Value).toArray below meth c H locs 0 0 (MQ below (va_Qi (fun v S' => S' = (if cC S0 c0 x y R = 0 then makeM (sI S0 0 (cC S0 c0 x y R)) n R (nI 10 + c0) x y else sI S0 0 (cC S0 c0 x y R)) ∧ v = (if cC S0 c0 x y R = 0 then nI R else nI 0)) (fun S' t => HM loc n g S' t.heap) (ZA loc 10)) ([.ref (loc 0), .int c0, .int x, .int y] : List Value).toArray s (rmL 3 0 0).cells (rmL 3 0 0).slots (ZA loc 10)) (F0 m 51 ls [.int (bI (cndOk c0 x y R))]) := by
    intro  H locs ls hC hl
    refine lv_istore S.1 S.2.1 dX1_condition_51 hl (by decide) rfl (fun ls hl => ?_)
    refine lv_aload_n S.1 S.2.1 dX1_condition_53 rfl (lv_at hl 1 rfl) ?_
    refine lv_iload S.1 S.2.1 dX1_condition_54 (lv_at hl 0 rfl) ?_
    refine b_if_ne (tgt := 63) S.1 S.2.1 dX1_condition_56 (by decide) (fun c56 => ?_) (fun c56 => ?_)
    · skip
      refine lv_aload_n S.1 S.2.1 dX1_condition_63 rfl (lv_at hl 1 rfl) ?_
      refine m_get_relations S hC dX1_condition_64 ?_
      refine lv_bipush (v := nI 12) S.1 S.2.1 dX1_condition_67 rfl ?_
      refine lv_icmp_ne (tgt := 76) S.1 S.2.1 dX1_condition_69 (by decide) (fun c69 => ?_) (fun c69 => ?_)
      · skip
        refine lv_iconst (v := cC S0 c0 x y R) S.1 S.2.1 dX1_condition_76 (by rw [show cC S0 c0 x y R = nI 0 by simp [cC, c56, c69]]; rfl) ?_
        exact tail77 _ _ _ hC (lv_sub hl [1, 2, 3, 4] rfl)
      · skip
        refine lv_iconst (v := cC S0 c0 x y R) S.1 S.2.1 dX1_condition_72 (by rw [show cC S0 c0 x y R = nI 2 by simp [cC, c56, c69]]; rfl) ?_
        refine lv_goto (tgt := 77) S.1 S.2.1 dX1_condition_73 (by decide) ?_
        exact tail77 _ _ _ hC (lv_sub hl [1, 2, 3, 4] rfl)
    · skip
      refine lv_iconst (v := cC S0 c0 x y R) S.1 S.2.1 dX1_condition_59 (by rw [show cC S0 c0 x y R = nI 1 by simp [cC, c56]]; rfl) ?_
      refine lv_goto (tgt := 77) S.1 S.2.1 dX1_condition_60 (by decide) ?_
      exact tail77 _ _ _ hC (lv_sub hl [1, 2, 3, 4] rfl)
  refine lv_iload_n S.1 S.2.1 dX1_condition_0 rfl (lv_at hl 1 rfl) ?_
  refine lv_iconst (v := nI 2) S.1 S.2.1 dX1_condition_1 rfl ?_
  refine lv_iconst (v := nI 4) S.1 S.2.1 dX1_condition_2 rfl ?_
  refine s_calli S (c_X1_isIn l _ _ _) cw_RX1_X1_isIn ⟨rfl, rfl, by decide, by decide⟩ rfl hl.1 rfl (Nat.le_of_ble_eq_true rfl) dX1_condition_3 ⟨(Nat.le_of_ble_eq_true rfl), (Nat.le_of_ble_eq_true rfl)⟩ (fun r3 hp => ?_)
  subst hp
  refine lv_istore S.1 S.2.1 dX1_condition_6 hl (by decide) rfl (fun ls hl => ?_)
  refine lv_iload_n S.1 S.2.1 dX1_condition_8 rfl (lv_at hl 2 rfl) ?_
  refine lv_iconst (v := nI 0) S.1 S.2.1 dX1_condition_9 rfl ?_
  refine lv_iconst (v := nI 5) S.1 S.2.1 dX1_condition_10 rfl ?_
  refine s_calli S (c_X1_isIn l _ _ _) cw_RX1_X1_isIn ⟨rfl, rfl, by decide, by decide⟩ rfl hl.1 rfl (Nat.le_of_ble_eq_true rfl) dX1_condition_11 ⟨(Nat.le_of_ble_eq_true rfl), (Nat.le_of_ble_eq_true rfl)⟩ (fun r11 hp => ?_)
  subst hp
  refine b_if_eq (tgt := 50) S.1 S.2.1 dX1_condition_14 (by decide) (fun c14 => ?_) (fun c14 => ?_)
  · skip
    refine lv_iconst (v := bI (cndOk c0 x y R)) S.1 S.2.1 dX1_condition_50 (by rw [show cndOk c0 x y R = false by simp [cndOk, c14]]; rfl) ?_
    exact tail51 _ _ _ hC (lv_sub hl [1, 2, 3, 4] rfl)
  · skip
    refine lv_aload_n S.1 S.2.1 dX1_condition_17 rfl (lv_at hl 1 rfl) ?_
    refine lv_iload_n S.1 S.2.1 dX1_condition_18 rfl (lv_at hl 3 rfl) ?_
    refine o_calli oiM S hC (c_X1_isRelation l hn hR hrel x) cw_RX1_X1_isRelation ⟨rfl, rfl, by decide, by decide⟩ rfl hl.1 rfl (Nat.le_of_ble_eq_true rfl) dX1_condition_19 ⟨(Nat.le_of_ble_eq_true rfl), (Nat.le_of_ble_eq_true rfl)⟩ (fun r19 S1 H locs hp hC1 => ?_)
    obtain ⟨e1, hp⟩ := hp
    rw [e1] at hC1; replace hC := hC1
    subst hp
    refine b_if_eq (tgt := 50) S.1 S.2.1 dX1_condition_22 (by decide) (fun c22 => ?_) (fun c22 => ?_)
    · skip
      refine lv_iconst (v := bI (cndOk c0 x y R)) S.1 S.2.1 dX1_condition_50 (by rw [show cndOk c0 x y R = false by simp [cndOk, c22]]; rfl) ?_
      exact tail51 _ _ _ hC (lv_sub hl [1, 2, 3, 4] rfl)
    · skip
      refine lv_iload S.1 S.2.1 dX1_condition_25 (lv_at hl 0 rfl) ?_
      refine b_if_eq (tgt := 41) S.1 S.2.1 dX1_condition_27 (by decide) (fun c27 => ?_) (fun c27 => ?_)
      · skip
        refine lv_iload_n S.1 S.2.1 dX1_condition_41 rfl (lv_at hl 4 rfl) ?_
        refine lv_iconst (v := -1) S.1 S.2.1 dX1_condition_42 rfl ?_
        refine lv_icmp_ne (tgt := 50) S.1 S.2.1 dX1_condition_43 (by decide) (fun c43 => ?_) (fun c43 => ?_)
        · skip
          refine lv_iconst (v := bI (cndOk c0 x y R)) S.1 S.2.1 dX1_condition_50 (by rw [show cndOk c0 x y R = false by simp [cndOk, c27, c43]]; rfl) ?_
          exact tail51 _ _ _ hC (lv_sub hl [1, 2, 3, 4] rfl)
        · skip
          refine lv_iconst (v := bI (cndOk c0 x y R)) S.1 S.2.1 dX1_condition_46 (by rw [show cndOk c0 x y R = true by simp [cndOk, c14, c22, c27, c43]]; rfl) ?_
          refine lv_goto (tgt := 51) S.1 S.2.1 dX1_condition_47 (by decide) ?_
          exact tail51 _ _ _ hC (lv_sub hl [1, 2, 3, 4] rfl)
      · skip
        refine lv_aload_n S.1 S.2.1 dX1_condition_30 rfl (lv_at hl 1 rfl) ?_
        refine lv_iload_n S.1 S.2.1 dX1_condition_31 rfl (lv_at hl 4 rfl) ?_
        refine o_calli oiM S hC (c_X1_isRelation l hn hR hrel y) cw_RX1_X1_isRelation ⟨rfl, rfl, by decide, by decide⟩ rfl hl.1 rfl (Nat.le_of_ble_eq_true rfl) dX1_condition_32 ⟨(Nat.le_of_ble_eq_true rfl), (Nat.le_of_ble_eq_true rfl)⟩ (fun r32 S1 H locs hp hC1 => ?_)
        obtain ⟨e1, hp⟩ := hp
        rw [e1] at hC1; replace hC := hC1
        subst hp
        refine b_if_eq (tgt := 50) S.1 S.2.1 dX1_condition_35 (by decide) (fun c35 => ?_) (fun c35 => ?_)
        · skip
          refine lv_iconst (v := bI (cndOk c0 x y R)) S.1 S.2.1 dX1_condition_50 (by rw [show cndOk c0 x y R = false by simp [cndOk, c27, c35]]; rfl) ?_
          exact tail51 _ _ _ hC (lv_sub hl [1, 2, 3, 4] rfl)
        · skip
          refine lv_goto (tgt := 46) S.1 S.2.1 dX1_condition_38 (by decide) ?_
          refine lv_iconst (v := bI (cndOk c0 x y R)) S.1 S.2.1 dX1_condition_46 (by rw [show cndOk c0 x y R = true by simp [cndOk, c14, c22, c27, c35]]; rfl) ?_
          refine lv_goto (tgt := 51) S.1 S.2.1 dX1_condition_47 (by decide) ?_
          exact tail51 _ _ _ hC (lv_sub hl [1, 2, 3, 4] rfl)
def pM (S : MS) (r a b : Nat) : Bool := S.2.2 0 (ixP r a b)
theorem ixP_lt {r a b : Nat} (hr : r < 12) (ha : a < 40) (hb : b < 40) : ixP r a b < 19200 := by unfold ixP; omega
/-- one row of far: as long as (a, u) is a pair -/
def faG (r u a : Nat) : Nat → Nat → MS → MS
  | 0, _, P => P
  | k + 1, b, P => if pM P r a u then faG r u a k (b + 1) (sW P 0 (ixP r a b) (pM P r a b || pM P r u b)) else P
def fa2 (S : MS) (n r u : Nat) : Nat → MS
  | 0 => S
  | k + 1 => faG r u k n 0 (fa2 S n r u k)
def fa3 (S : MS) (n r : Nat) : Nat → MS
  | 0 => S
  | k + 1 => fa2 (fa3 S n r k) n r k n
set_option maxRecDepth 100000 in
set_option maxHeartbeats 4000000 in
theorem c_X1_far (l : Launch) {loc : Nat → Nat} {n : Nat} {g : Gc} (hn : n ≤ 40) {S0 : MS} {r : Nat} (hr12 : r < 12) : MMv l yX1_far cX1_far 5 none (rmL 2 0 0) loc n g S0 [.int (nI r)] (fun S' => S' = fa3 S0 n r n) := by
  refine o_enter (by decide) (Nat.le_of_ble_eq_true rfl) ?_
  intro p e s m below meth c ls S hr hlocks hC hl
  refine lv_iconst (v := nI 0) S.1 S.2.1 dX1_far_0 rfl ?_
  refine lv_istore_n S.1 S.2.1 dX1_far_1 rfl hl (by decide) rfl (fun ls hl => ?_)
  have loopU : ∀ (k u : Nat), n - u < k → u ≤ n → ∀ (H : Heap) (locs : List Loc) (ls : Array Slot), CM loc n g (fa3 S0 n r u) s H locs → lv_has ls 5 [(0, .ref (loc 0)), (1, .int (nI r)), (2, .int (nI u))] → W p l e (rmL 2 0 0) s m ([.ref (loc 0), .int (nI r)] : List Value).toArray below meth c H locs 0 0 (MQ below (va_Qv (fun S' => S' = fa3 S0 n r n) (fun S' t => HM loc n g S' t.heap) (ZA loc 10)) ([.ref (loc 0), .int (nI r)] : List Value).toArray s (rmL 2 0 0).cells (rmL 2 0 0).slots (ZA loc 10)) (F0 m 2 ls []) := by
    intro k
    induction k with
    | zero => intro u hk; omega
    | succ k ihU =>
      intro u hkU hiU  H locs ls hC hl
      refine lv_iload_n S.1 S.2.1 dX1_far_2 rfl (lv_at hl 2 rfl) ?_
      refine lv_aload_n S.1 S.2.1 dX1_far_3 rfl (lv_at hl 0 rfl) ?_
      refine m_get_things S hC dX1_far_4 ?_
      refine n_icmp_ge (tgt := 111) S.1 S.2.1 dX1_far_7 (by decide) (by omega) (by omega) (fun c7 => ?_) (fun c7 => ?_)
      · skip
        exact o_vret S hr hlocks hC (by rw [show n = u by omega]) dX1_far_111 (Nat.le_of_ble_eq_true rfl) (Nat.le_of_ble_eq_true rfl)
      · skip
        refine lv_iconst (v := nI 0) S.1 S.2.1 dX1_far_10 rfl ?_
        refine lv_istore_n S.1 S.2.1 dX1_far_11 rfl hl (by decide) rfl (fun ls hl => ?_)
        have loopA : ∀ (k a : Nat), n - a < k → a ≤ n → ∀ (H : Heap) (locs : List Loc) (ls : Array Slot), CM loc n g (fa2 (fa3 S0 n r u) n r u a) s H locs → lv_has ls 5 [(0, .ref (loc 0)), (1, .int (nI r)), (2, .int (nI u)), (3, .int (nI a))] → W p l e (rmL 2 0 0) s m ([.ref (loc 0), .int (nI r)] : List Value).toArray below meth c H locs 0 0 (MQ below (va_Qv (fun S' => S' = fa3 S0 n r n) (fun S' t => HM loc n g S' t.heap) (ZA loc 10)) ([.ref (loc 0), .int (nI r)] : List Value).toArray s (rmL 2 0 0).cells (rmL 2 0 0).slots (ZA loc 10)) (F0 m 12 ls []) := by
          intro k
          induction k with
          | zero => intro a hk; omega
          | succ k ihA =>
            intro a hkA hiA  H locs ls hC hl
            refine lv_iload_n S.1 S.2.1 dX1_far_12 rfl (lv_at hl 3 rfl) ?_
            refine lv_aload_n S.1 S.2.1 dX1_far_13 rfl (lv_at hl 0 rfl) ?_
            refine m_get_things S hC dX1_far_14 ?_
            refine n_icmp_ge (tgt := 105) S.1 S.2.1 dX1_far_17 (by decide) (by omega) (by omega) (fun c17 => ?_) (fun c17 => ?_)
            · skip
              refine lv_iinc (k := 2) S.1 S.2.1 dX1_far_105 hl rfl (n_inc _) (by decide) rfl (fun ls hl => ?_)
              refine lv_goto (tgt := 2) S.1 S.2.1 dX1_far_108 (by decide) ?_
              exact ihU (u + 1) (by omega) (by omega) _ _ _ (by rw [show fa3 S0 n r (u + 1) = fa2 (fa3 S0 n r u) n r u a by rw [show a = n by omega]; rfl]; exact hC) (lv_sub hl [1, 2, 0] rfl)
            · skip
              refine lv_iconst (v := nI 0) S.1 S.2.1 dX1_far_20 rfl ?_
              refine lv_istore S.1 S.2.1 dX1_far_21 hl (by decide) rfl (fun ls hl => ?_)
              have loop : ∀ (k i : Nat), n - i < k → i ≤ n → ∀ (P : MS) (hT : faG r u a n 0 (fa2 (fa3 S0 n r u) n r u a) = faG r u a (n - i) i P), ∀ (H : Heap) (locs : List Loc) (ls : Array Slot), CM loc n g (P) s H locs → lv_has ls 5 [(0, .ref (loc 0)), (1, .int (nI r)), (2, .int (nI u)), (3, .int (nI a)), (4, .int (nI i))] → W p l e (rmL 2 0 0) s m ([.ref (loc 0), .int (nI r)] : List Value).toArray below meth c H locs 0 0 (MQ below (va_Qv (fun S' => S' = fa3 S0 n r n) (fun S' t => HM loc n g S' t.heap) (ZA loc 10)) ([.ref (loc 0), .int (nI r)] : List Value).toArray s (rmL 2 0 0).cells (rmL 2 0 0).slots (ZA loc 10)) (F0 m 23 ls []) := by
                intro k
                induction k with
                | zero => intro i hk; omega
                | succ k ih =>
                  intro i hk hi P hT H locs ls hC hl
                  refine lv_iload S.1 S.2.1 dX1_far_23 (lv_at hl 4 rfl) ?_
                  refine lv_aload_n S.1 S.2.1 dX1_far_25 rfl (lv_at hl 0 rfl) ?_
                  refine m_get_things S hC dX1_far_26 ?_
                  refine n_icmp_ge (tgt := 99) S.1 S.2.1 dX1_far_29 (by decide) (by omega) (by omega) (fun c29 => ?_) (fun c29 => ?_)
                  · skip
                    refine lv_iinc (k := 3) S.1 S.2.1 dX1_far_99 hl rfl (n_inc _) (by decide) rfl (fun ls hl => ?_)
                    refine lv_goto (tgt := 12) S.1 S.2.1 dX1_far_102 (by decide) ?_
                    exact ihA (a + 1) (by omega) (by omega) _ _ _ (by rw [show fa2 (fa3 S0 n r u) n r u (a + 1) = P by rw [fa2, hT, show n - i = 0 by omega, faG]]; exact hC) (lv_sub hl [1, 2, 3, 0] rfl)
                  · skip
                    refine lv_aload_n S.1 S.2.1 dX1_far_32 rfl (lv_at hl 0 rfl) ?_
                    refine m_get_pairs S hC dX1_far_33 ?_
                    refine lv_iload_n S.1 S.2.1 dX1_far_36 rfl (lv_at hl 1 rfl) ?_
                    refine lv_iload_n S.1 S.2.1 dX1_far_37 rfl (lv_at hl 3 rfl) ?_
                    refine lv_iload_n S.1 S.2.1 dX1_far_38 rfl (lv_at hl 2 rfl) ?_
                    refine s_calli S (c_X1_at l r a u) cw_RX1_X1_at ⟨rfl, rfl, by decide, by decide⟩ rfl hl.1 rfl (Nat.le_of_ble_eq_true rfl) dX1_far_39 ⟨(Nat.le_of_ble_eq_true rfl), (Nat.le_of_ble_eq_true rfl)⟩ (fun r39 hp => ?_)
                    subst hp
                    refine m_zld S hC 0 (by decide) (ixP_lt hr12 (by omega) (by omega)) dX1_far_42 ?_
                    refine b_if_eq (tgt := 99) S.1 S.2.1 dX1_far_43 (by decide) (fun c43 => ?_) (fun c43 => ?_)
                    · skip
                      refine lv_iinc (k := 3) S.1 S.2.1 dX1_far_99 hl rfl (n_inc _) (by decide) rfl (fun ls hl => ?_)
                      refine lv_goto (tgt := 12) S.1 S.2.1 dX1_far_102 (by decide) ?_
                      exact ihA (a + 1) (by omega) (by omega) _ _ _ (by rw [show fa2 (fa3 S0 n r u) n r u (a + 1) = P by rw [fa2, hT, show n - i = (n - (i + 1)) + 1 by omega, faG, if_neg (by rw [show pM P r a u = false from c43]; decide)]]; exact hC) (lv_sub hl [1, 2, 3, 0] rfl)
                    · skip
                      refine lv_aload_n S.1 S.2.1 dX1_far_46 rfl (lv_at hl 0 rfl) ?_
                      refine m_get_pairs S hC dX1_far_47 ?_
                      refine lv_iload_n S.1 S.2.1 dX1_far_50 rfl (lv_at hl 1 rfl) ?_
                      refine lv_iload_n S.1 S.2.1 dX1_far_51 rfl (lv_at hl 3 rfl) ?_
                      refine lv_iload S.1 S.2.1 dX1_far_52 (lv_at hl 4 rfl) ?_
                      refine s_calli S (c_X1_at l r a i) cw_RX1_X1_at ⟨rfl, rfl, by decide, by decide⟩ rfl hl.1 rfl (Nat.le_of_ble_eq_true rfl) dX1_far_54 ⟨(Nat.le_of_ble_eq_true rfl), (Nat.le_of_ble_eq_true rfl)⟩ (fun r54 hp => ?_)
                      subst hp
                      refine lv_aload_n S.1 S.2.1 dX1_far_57 rfl (lv_at hl 0 rfl) ?_
                      refine m_get_pairs S hC dX1_far_58 ?_
                      refine lv_iload_n S.1 S.2.1 dX1_far_61 rfl (lv_at hl 1 rfl) ?_
                      refine lv_iload_n S.1 S.2.1 dX1_far_62 rfl (lv_at hl 3 rfl) ?_
                      refine lv_iload S.1 S.2.1 dX1_far_63 (lv_at hl 4 rfl) ?_
                      refine s_calli S (c_X1_at l r a i) cw_RX1_X1_at ⟨rfl, rfl, by decide, by decide⟩ rfl hl.1 rfl (Nat.le_of_ble_eq_true rfl) dX1_far_65 ⟨(Nat.le_of_ble_eq_true rfl), (Nat.le_of_ble_eq_true rfl)⟩ (fun r65 hp => ?_)
                      subst hp
                      refine m_zld S hC 0 (by decide) (ixP_lt hr12 (by omega) (by omega)) dX1_far_68 ?_
                      refine b_if_ne (tgt := 87) S.1 S.2.1 dX1_far_69 (by decide) (fun c69 => ?_) (fun c69 => ?_)
                      · skip
                        refine lv_iconst (v := bI (pM P r a i || pM P r u i)) S.1 S.2.1 dX1_far_87 (by rw [show pM P r a i = true from c69, Bool.true_or]; rfl) ?_
                        refine lv_goto (tgt := 92) S.1 S.2.1 dX1_far_88 (by decide) ?_
                        refine m_zst S hC 0 (by decide) (ixP_lt hr12 (by omega) (by omega)) rfl dX1_far_92 (fun H locs hC => ?_)
                        refine lv_iinc (k := 4) S.1 S.2.1 dX1_far_93 hl rfl (n_inc _) (by decide) rfl (fun ls hl => ?_)
                        refine lv_goto (tgt := 23) S.1 S.2.1 dX1_far_96 (by decide) ?_
                        exact ih (i + 1) (by omega) (by omega) _ (by rw [hT, show n - i = (n - (i + 1)) + 1 by omega, faG, if_pos (show pM P r a u = true from c43)]) _ _ _ hC (lv_sub hl [1, 2, 3, 4, 0] rfl)
                      · skip
                        refine lv_aload_n S.1 S.2.1 dX1_far_72 rfl (lv_at hl 0 rfl) ?_
                        refine m_get_pairs S hC dX1_far_73 ?_
                        refine lv_iload_n S.1 S.2.1 dX1_far_76 rfl (lv_at hl 1 rfl) ?_
                        refine lv_iload_n S.1 S.2.1 dX1_far_77 rfl (lv_at hl 2 rfl) ?_
                        refine lv_iload S.1 S.2.1 dX1_far_78 (lv_at hl 4 rfl) ?_
                        refine s_calli S (c_X1_at l r u i) cw_RX1_X1_at ⟨rfl, rfl, by decide, by decide⟩ rfl hl.1 rfl (Nat.le_of_ble_eq_true rfl) dX1_far_80 ⟨(Nat.le_of_ble_eq_true rfl), (Nat.le_of_ble_eq_true rfl)⟩ (fun r80 hp => ?_)
                        subst hp
                        refine m_zld S hC 0 (by decide) (ixP_lt hr12 (by omega) (by omega)) dX1_far_83 ?_
                        refine b_if_eq (tgt := 91) S.1 S.2.1 dX1_far_84 (by decide) (fun c84 => ?_) (fun c84 => ?_)
                        · skip
                          refine lv_iconst (v := bI (pM P r a i || pM P r u i)) S.1 S.2.1 dX1_far_91 (by rw [show pM P r a i = false from c69, show pM P r u i = false from c84]; rfl) ?_
                          refine m_zst S hC 0 (by decide) (ixP_lt hr12 (by omega) (by omega)) rfl dX1_far_92 (fun H locs hC => ?_)
                          refine lv_iinc (k := 4) S.1 S.2.1 dX1_far_93 hl rfl (n_inc _) (by decide) rfl (fun ls hl => ?_)
                          refine lv_goto (tgt := 23) S.1 S.2.1 dX1_far_96 (by decide) ?_
                          exact ih (i + 1) (by omega) (by omega) _ (by rw [hT, show n - i = (n - (i + 1)) + 1 by omega, faG, if_pos (show pM P r a u = true from c43)]) _ _ _ hC (lv_sub hl [1, 2, 3, 4, 0] rfl)
                        · skip
                          refine lv_iconst (v := bI (pM P r a i || pM P r u i)) S.1 S.2.1 dX1_far_87 (by rw [show pM P r u i = true from c84, Bool.or_true]; rfl) ?_
                          refine lv_goto (tgt := 92) S.1 S.2.1 dX1_far_88 (by decide) ?_
                          refine m_zst S hC 0 (by decide) (ixP_lt hr12 (by omega) (by omega)) rfl dX1_far_92 (fun H locs hC => ?_)
                          refine lv_iinc (k := 4) S.1 S.2.1 dX1_far_93 hl rfl (n_inc _) (by decide) rfl (fun ls hl => ?_)
                          refine lv_goto (tgt := 23) S.1 S.2.1 dX1_far_96 (by decide) ?_
                          exact ih (i + 1) (by omega) (by omega) _ (by rw [hT, show n - i = (n - (i + 1)) + 1 by omega, faG, if_pos (show pM P r a u = true from c43)]) _ _ _ hC (lv_sub hl [1, 2, 3, 4, 0] rfl)
              exact loop (n + 1) 0 (by omega) (by omega) _ rfl _ _ _ hC (lv_sub hl [1, 2, 3, 4, 0] rfl)
        exact loopA (n + 1) 0 (by omega) (by omega) _ _ _ hC (lv_sub hl [1, 2, 3, 0] rfl)
  exact loopU (n + 1) 0 (by omega) (by omega) _ _ _ hC (lv_sub hl [1, 2, 0] rfl)
