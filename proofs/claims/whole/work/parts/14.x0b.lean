def kOk (k : Int32) : Bool := decide (k = -1) || (decide (¬ k < 0) && decide (k ≤ nI 3))
set_option maxRecDepth 100000 in
set_option maxHeartbeats 4000000 in
theorem c_X0_needKindOrNone (l : Launch) (hs0 : l.stackTraces = false) {loc : Nat → Nat} {n : Nat} {g : Gc} (hn : n ≤ 40) {S0 : RS} (k : Int32) : TXv l yX0_needKindOrNone cX0_needKindOrNone 2 none (rmL 7 1 6) loc n g S0 [.int k] (fun S' => S' = S0 ∧ kOk k = true) (fun E => E = iaeS ∧ kOk k = false) := by
  refine o_enterx (by decide) (Nat.le_of_ble_eq_true rfl) ?_
  intro p e s m below meth c ls S hr hlocks hnt hC hl
  refine lv_iload_n S.1 S.2.1 dX0_needKindOrNone_0 rfl (lv_at hl 1 rfl) ?_
  refine lv_iconst (v := -1) S.1 S.2.1 dX0_needKindOrNone_1 rfl ?_
  refine lv_icmp_eq (tgt := 24) S.1 S.2.1 dX0_needKindOrNone_2 (by decide) (fun c2 => ?_) (fun c2 => ?_)
  · skip
    exact vx_ret (o_vret S hr hlocks hC ⟨rfl, by simp [kOk, c2]⟩ dX0_needKindOrNone_24 (Nat.le_of_ble_eq_true rfl) (Nat.le_of_ble_eq_true rfl))
  · skip
    refine lv_iload_n S.1 S.2.1 dX0_needKindOrNone_5 rfl (lv_at hl 1 rfl) ?_
    refine lv_if_lt (tgt := 14) S.1 S.2.1 dX0_needKindOrNone_6 (by decide) (fun c6 => ?_) (fun c6 => ?_)
    · skip
      exact x_throw_iae (tx := "no such kind") hs0 S hC (by decide) hnt hlocks hl.1 ⟨rfl, by simp [kOk, c2, c6]⟩ dX0_needKindOrNone_14 dX0_needKindOrNone_17 dX0_needKindOrNone_18 dX0_needKindOrNone_20 dX0_needKindOrNone_23 ⟨(Nat.le_of_ble_eq_true rfl), (Nat.le_of_ble_eq_true rfl), (Nat.le_of_ble_eq_true rfl), (Nat.le_of_ble_eq_true rfl)⟩ ⟨(Nat.le_of_ble_eq_true rfl), (Nat.le_of_ble_eq_true rfl)⟩
    · skip
      refine lv_iload_n S.1 S.2.1 dX0_needKindOrNone_9 rfl (lv_at hl 1 rfl) ?_
      refine lv_iconst (v := nI 3) S.1 S.2.1 dX0_needKindOrNone_10 rfl ?_
      refine lv_icmp_le (tgt := 24) S.1 S.2.1 dX0_needKindOrNone_11 (by decide) (fun c11 => ?_) (fun c11 => ?_)
      · skip
        exact vx_ret (o_vret S hr hlocks hC ⟨rfl, by simp [kOk, c6, c11]⟩ dX0_needKindOrNone_24 (Nat.le_of_ble_eq_true rfl) (Nat.le_of_ble_eq_true rfl))
      · skip
        exact x_throw_iae (tx := "no such kind") hs0 S hC (by decide) hnt hlocks hl.1 ⟨rfl, by simp [kOk, c2, c6, c11]⟩ dX0_needKindOrNone_14 dX0_needKindOrNone_17 dX0_needKindOrNone_18 dX0_needKindOrNone_20 dX0_needKindOrNone_23 ⟨(Nat.le_of_ble_eq_true rfl), (Nat.le_of_ble_eq_true rfl), (Nat.le_of_ble_eq_true rfl), (Nat.le_of_ble_eq_true rfl)⟩ ⟨(Nat.le_of_ble_eq_true rfl), (Nat.le_of_ble_eq_true rfl)⟩
def xFull (S : RS) : Bool := decide (¬ S.1 0 < nI 12)
set_option maxRecDepth 100000 in
set_option maxHeartbeats 4000000 in
theorem c_X0_needRoomForRelation (l : Launch) (hs0 : l.stackTraces = false) {loc : Nat → Nat} {n : Nat} {g : Gc} (hn : n ≤ 40) {S0 : RS} : TXv l yX0_needRoomForRelation cX0_needRoomForRelation 1 none (rmL 7 1 6) loc n g S0 [] (fun S' => S' = S0 ∧ xFull S0 = false) (fun E => E = iseS ∧ xFull S0 = true) := by
  refine o_enterx (by decide) (Nat.le_of_ble_eq_true rfl) ?_
  intro p e s m below meth c ls S hr hlocks hnt hC hl
  refine lv_aload_n S.1 S.2.1 dX0_needRoomForRelation_0 rfl (lv_at hl 0 rfl) ?_
  refine x_get_relations S hC dX0_needRoomForRelation_1 ?_
  refine lv_bipush (v := nI 12) S.1 S.2.1 dX0_needRoomForRelation_4 rfl ?_
  refine lv_icmp_lt (tgt := 19) S.1 S.2.1 dX0_needRoomForRelation_6 (by decide) (fun c6 => ?_) (fun c6 => ?_)
  · skip
    exact vx_ret (o_vret S hr hlocks hC ⟨rfl, by simp [xFull, c6]⟩ dX0_needRoomForRelation_19 (Nat.le_of_ble_eq_true rfl) (Nat.le_of_ble_eq_true rfl))
  · skip
    exact x_throw_ise (tx := "there are as many relations as can be") hs0 S hC (by decide) hnt hlocks hl.1 ⟨rfl, by simp [xFull, c6]⟩ dX0_needRoomForRelation_9 dX0_needRoomForRelation_12 dX0_needRoomForRelation_13 dX0_needRoomForRelation_15 dX0_needRoomForRelation_18 ⟨(Nat.le_of_ble_eq_true rfl), (Nat.le_of_ble_eq_true rfl), (Nat.le_of_ble_eq_true rfl), (Nat.le_of_ble_eq_true rfl)⟩ ⟨(Nat.le_of_ble_eq_true rfl), (Nat.le_of_ble_eq_true rfl)⟩
def byC (S : RS) (r : Nat) : Bool := decide (¬ S.2.1 2 r < nI 10)
set_option maxRecDepth 100000 in
set_option maxHeartbeats 4000000 in
theorem c_X0_isByCondition (l : Launch) {loc : Nat → Nat} {n : Nat} {g : Gc} (hn : n ≤ 40) {S0 : RS} {r : Nat} (hr12 : r < 12) : MXi l yX0_isByCondition cX0_isByCondition 2 (some .boolean) (rmL 1 0 0) loc n g S0 [.int (nI r)] (fun v S' => S' = S0 ∧ v = bI (byC S0 r)) := by
  refine o_enter (by decide) (Nat.le_of_ble_eq_true rfl) ?_
  intro p e s m below meth c ls S hr hlocks hC hl
  refine lv_aload_n S.1 S.2.1 dX0_isByCondition_0 rfl (lv_at hl 0 rfl) ?_
  refine x_get_forms S hC dX0_isByCondition_1 ?_
  refine lv_iload_n S.1 S.2.1 dX0_isByCondition_4 rfl (lv_at hl 1 rfl) ?_
  refine x_ild S hC hn 2 (by decide) hr12 dX0_isByCondition_5 ?_
  refine lv_bipush (v := nI 10) S.1 S.2.1 dX0_isByCondition_6 rfl ?_
  refine lv_icmp_lt (tgt := 15) S.1 S.2.1 dX0_isByCondition_8 (by decide) (fun c8 => ?_) (fun c8 => ?_)
  · skip
    refine lv_iconst (v := 0) S.1 S.2.1 dX0_isByCondition_15 rfl ?_
    exact o_iret S hr hlocks hC ⟨rfl, by simp [byC, c8, bI]⟩ rfl dX0_isByCondition_16 (Nat.le_of_ble_eq_true rfl) (Nat.le_of_ble_eq_true rfl)
  · skip
    refine lv_iconst (v := 1) S.1 S.2.1 dX0_isByCondition_11 rfl ?_
    refine lv_goto (tgt := 16) S.1 S.2.1 dX0_isByCondition_12 (by decide) ?_
    exact o_iret S hr hlocks hC ⟨rfl, by simp [byC, c8, bI]⟩ rfl dX0_isByCondition_16 (Nat.le_of_ble_eq_true rfl) (Nat.le_of_ble_eq_true rfl)
set_option maxRecDepth 100000 in
set_option maxHeartbeats 4000000 in
theorem c_X0_needForm (l : Launch) (hs0 : l.stackTraces = false) {loc : Nat → Nat} {n : Nat} {g : Gc} (hn : n ≤ 40) {S0 : RS} {r : Nat} (hr12 : r < 12) : TXv l yX0_needForm cX0_needForm 2 none (rmL 7 1 6) loc n g S0 [.int (nI r)] (fun S' => S' = S0 ∧ byC S0 r = false) (fun E => E = iseS ∧ byC S0 r = true) := by
  refine o_enterx (by decide) (Nat.le_of_ble_eq_true rfl) ?_
  intro p e s m below meth c ls S hr hlocks hnt hC hl
  refine lv_aload_n S.1 S.2.1 dX0_needForm_0 rfl (lv_at hl 0 rfl) ?_
  refine lv_iload_n S.1 S.2.1 dX0_needForm_1 rfl (lv_at hl 1 rfl) ?_
  refine o_calli oiX S hC (c_X0_isByCondition l hn hr12) cw_RX0_X0_isByCondition ⟨rfl, rfl, by decide, by decide⟩ rfl hl.1 rfl (Nat.le_of_ble_eq_true rfl) dX0_needForm_2 ⟨(Nat.le_of_ble_eq_true rfl), (Nat.le_of_ble_eq_true rfl)⟩ (fun r2 S1 H locs hp hC1 => ?_)
  obtain ⟨e1, hp⟩ := hp
  rw [e1] at hC1; replace hC := hC1
  subst hp
  refine b_if_eq (tgt := 18) S.1 S.2.1 dX0_needForm_5 (by decide) (fun c5 => ?_) (fun c5 => ?_)
  · skip
    exact vx_ret (o_vret S hr hlocks hC ⟨rfl, c5⟩ dX0_needForm_18 (Nat.le_of_ble_eq_true rfl) (Nat.le_of_ble_eq_true rfl))
  · skip
    exact x_throw_ise (tx := "it is a relation by a condition") hs0 S hC (by decide) hnt hlocks hl.1 ⟨rfl, c5⟩ dX0_needForm_8 dX0_needForm_11 dX0_needForm_12 dX0_needForm_14 dX0_needForm_17 ⟨(Nat.le_of_ble_eq_true rfl), (Nat.le_of_ble_eq_true rfl), (Nat.le_of_ble_eq_true rfl), (Nat.le_of_ble_eq_true rfl)⟩ ⟨(Nat.le_of_ble_eq_true rfl), (Nat.le_of_ble_eq_true rfl)⟩
def two2 (c : Int32) : Bool := decide (c = nI 2) || (decide (c = nI 3) || decide (c = nI 4))
set_option maxRecDepth 100000 in
set_option maxHeartbeats 4000000 in
theorem c_X0_takesTwo (l : Launch) (c0 : Int32) : MSi l yX0_takesTwo cX0_takesTwo 1 (some .boolean) (rmL 1 0 0) [.int c0] (fun v => v = bI (two2 c0)) := by
  refine s_enter (by decide) (Nat.le_of_ble_eq_true rfl) ?_
  intro p e s m below meth c ls S hr hlocks hl
  refine lv_iload_n S.1 S.2.1 dX0_takesTwo_0 rfl (lv_at hl 0 rfl) ?_
  refine lv_iconst (v := nI 2) S.1 S.2.1 dX0_takesTwo_1 rfl ?_
  refine lv_icmp_eq (tgt := 15) S.1 S.2.1 dX0_takesTwo_2 (by decide) (fun c2 => ?_) (fun c2 => ?_)
  · skip
    refine lv_iconst (v := 1) S.1 S.2.1 dX0_takesTwo_15 rfl ?_
    refine lv_goto (tgt := 20) S.1 S.2.1 dX0_takesTwo_16 (by decide) ?_
    exact s_iret S hr hlocks (by simp [two2, c2, bI]) rfl dX0_takesTwo_20
  · skip
    refine lv_iload_n S.1 S.2.1 dX0_takesTwo_5 rfl (lv_at hl 0 rfl) ?_
    refine lv_iconst (v := nI 3) S.1 S.2.1 dX0_takesTwo_6 rfl ?_
    refine lv_icmp_eq (tgt := 15) S.1 S.2.1 dX0_takesTwo_7 (by decide) (fun c7 => ?_) (fun c7 => ?_)
    · skip
      refine lv_iconst (v := 1) S.1 S.2.1 dX0_takesTwo_15 rfl ?_
      refine lv_goto (tgt := 20) S.1 S.2.1 dX0_takesTwo_16 (by decide) ?_
      exact s_iret S hr hlocks (by simp [two2, c7, bI]) rfl dX0_takesTwo_20
    · skip
      refine lv_iload_n S.1 S.2.1 dX0_takesTwo_10 rfl (lv_at hl 0 rfl) ?_
      refine lv_iconst (v := nI 4) S.1 S.2.1 dX0_takesTwo_11 rfl ?_
      refine lv_icmp_ne (tgt := 19) S.1 S.2.1 dX0_takesTwo_12 (by decide) (fun c12 => ?_) (fun c12 => ?_)
      · skip
        refine lv_iconst (v := 0) S.1 S.2.1 dX0_takesTwo_19 rfl ?_
        exact s_iret S hr hlocks (by simp [two2, c2, c7, c12, bI]) rfl dX0_takesTwo_20
      · skip
        refine lv_iconst (v := 1) S.1 S.2.1 dX0_takesTwo_15 rfl ?_
        refine lv_goto (tgt := 20) S.1 S.2.1 dX0_takesTwo_16 (by decide) ?_
        exact s_iret S hr hlocks (by simp [two2, c12, bI]) rfl dX0_takesTwo_20
def bothW (S : RS) (r : Nat) : Bool := decide (S.2.1 2 r = nI 4) || decide (S.2.1 2 r = nI 5)
set_option maxRecDepth 100000 in
set_option maxHeartbeats 4000000 in
theorem c_X0_goesBothWays (l : Launch) {loc : Nat → Nat} {n : Nat} {g : Gc} (hn : n ≤ 40) {S0 : RS} {r : Nat} (hr12 : r < 12) : MXi l yX0_goesBothWays cX0_goesBothWays 2 (some .boolean) (rmL 1 0 0) loc n g S0 [.int (nI r)] (fun v S' => S' = S0 ∧ v = bI (bothW S0 r)) := by
  refine o_enter (by decide) (Nat.le_of_ble_eq_true rfl) ?_
  intro p e s m below meth c ls S hr hlocks hC hl
  refine lv_aload_n S.1 S.2.1 dX0_goesBothWays_0 rfl (lv_at hl 0 rfl) ?_
  refine x_get_forms S hC dX0_goesBothWays_1 ?_
  refine lv_iload_n S.1 S.2.1 dX0_goesBothWays_4 rfl (lv_at hl 1 rfl) ?_
  refine x_ild S hC hn 2 (by decide) hr12 dX0_goesBothWays_5 ?_
  refine lv_iconst (v := nI 4) S.1 S.2.1 dX0_goesBothWays_6 rfl ?_
  refine lv_icmp_eq (tgt := 20) S.1 S.2.1 dX0_goesBothWays_7 (by decide) (fun c7 => ?_) (fun c7 => ?_)
  · skip
    refine lv_iconst (v := 1) S.1 S.2.1 dX0_goesBothWays_20 rfl ?_
    refine lv_goto (tgt := 25) S.1 S.2.1 dX0_goesBothWays_21 (by decide) ?_
    exact o_iret S hr hlocks hC ⟨rfl, by simp [bothW, c7, bI]⟩ rfl dX0_goesBothWays_25 (Nat.le_of_ble_eq_true rfl) (Nat.le_of_ble_eq_true rfl)
  · skip
    refine lv_aload_n S.1 S.2.1 dX0_goesBothWays_10 rfl (lv_at hl 0 rfl) ?_
    refine x_get_forms S hC dX0_goesBothWays_11 ?_
    refine lv_iload_n S.1 S.2.1 dX0_goesBothWays_14 rfl (lv_at hl 1 rfl) ?_
    refine x_ild S hC hn 2 (by decide) hr12 dX0_goesBothWays_15 ?_
    refine lv_iconst (v := nI 5) S.1 S.2.1 dX0_goesBothWays_16 rfl ?_
    refine lv_icmp_ne (tgt := 24) S.1 S.2.1 dX0_goesBothWays_17 (by decide) (fun c17 => ?_) (fun c17 => ?_)
    · skip
      refine lv_iconst (v := 0) S.1 S.2.1 dX0_goesBothWays_24 rfl ?_
      exact o_iret S hr hlocks hC ⟨rfl, by simp [bothW, c7, c17, bI]⟩ rfl dX0_goesBothWays_25 (Nat.le_of_ble_eq_true rfl) (Nat.le_of_ble_eq_true rfl)
    · skip
      refine lv_iconst (v := 1) S.1 S.2.1 dX0_goesBothWays_20 rfl ?_
      refine lv_goto (tgt := 25) S.1 S.2.1 dX0_goesBothWays_21 (by decide) ?_
      exact o_iret S hr hlocks hC ⟨rfl, by simp [bothW, c17, bI]⟩ rfl dX0_goesBothWays_25 (Nat.le_of_ble_eq_true rfl) (Nat.le_of_ble_eq_true rfl)
def addRel (S : RS) (R : Nat) (f x y : Int32) : RS := sI (sA (sA (sA S 2 R f) 3 R x) 4 R y) 0 (nI (R + 1))
set_option maxRecDepth 100000 in
set_option maxHeartbeats 4000000 in
theorem c_X0_addRelation (l : Launch) {loc : Nat → Nat} {n : Nat} {g : Gc} (hn : n ≤ 40) {S0 : RS} {R : Nat} (hR : R < 12) (hrel : S0.1 0 = nI R) (f x y : Int32) : MXi l yX0_addRelation cX0_addRelation 5 (some .int) (rmL 1 0 0) loc n g S0 [.int f, .int x, .int y] (fun v S' => S' = addRel S0 R f x y ∧ v = nI R) := by
  refine o_enter (by decide) (Nat.le_of_ble_eq_true rfl) ?_
  intro p e s m below meth c ls S hr hlocks hC hl
  refine lv_aload_n S.1 S.2.1 dX0_addRelation_0 rfl (lv_at hl 0 rfl) ?_
  refine x_get_relations S hC dX0_addRelation_1 ?_
  rw [hrel]
  refine lv_istore S.1 S.2.1 dX0_addRelation_4 hl (by decide) rfl (fun ls hl => ?_)
  refine lv_aload_n S.1 S.2.1 dX0_addRelation_6 rfl (lv_at hl 1 rfl) ?_
  refine x_get_forms S hC dX0_addRelation_7 ?_
  refine lv_iload S.1 S.2.1 dX0_addRelation_10 (lv_at hl 0 rfl) ?_
  refine lv_iload_n S.1 S.2.1 dX0_addRelation_12 rfl (lv_at hl 2 rfl) ?_
  refine x_ist S hC hn 2 (by decide) hR dX0_addRelation_13 (fun H locs hC => ?_)
  refine lv_aload_n S.1 S.2.1 dX0_addRelation_14 rfl (lv_at hl 1 rfl) ?_
  refine x_get_firsts S hC dX0_addRelation_15 ?_
  refine lv_iload S.1 S.2.1 dX0_addRelation_18 (lv_at hl 0 rfl) ?_
  refine lv_iload_n S.1 S.2.1 dX0_addRelation_20 rfl (lv_at hl 3 rfl) ?_
  refine x_ist S hC hn 3 (by decide) hR dX0_addRelation_21 (fun H locs hC => ?_)
  refine lv_aload_n S.1 S.2.1 dX0_addRelation_22 rfl (lv_at hl 1 rfl) ?_
  refine x_get_seconds S hC dX0_addRelation_23 ?_
  refine lv_iload S.1 S.2.1 dX0_addRelation_26 (lv_at hl 0 rfl) ?_
  refine lv_iload_n S.1 S.2.1 dX0_addRelation_28 rfl (lv_at hl 4 rfl) ?_
  refine x_ist S hC hn 4 (by decide) hR dX0_addRelation_29 (fun H locs hC => ?_)
  refine lv_aload_n S.1 S.2.1 dX0_addRelation_30 rfl (lv_at hl 1 rfl) ?_
  refine lv_dup S.1 S.2.1 dX0_addRelation_31 rfl ?_
  refine x_get_relations S hC dX0_addRelation_32 ?_
  refine lv_iconst (v := nI 1) S.1 S.2.1 dX0_addRelation_35 rfl ?_
  rw [show (sA (sA (sA S0 2 R f) 3 R x) 4 R y).1 0 = nI R from hrel]
  refine t_iadd S.1 S.2.1 dX0_addRelation_36 (nI_add _ _) ?_
  refine x_put_relations S hC dX0_addRelation_37 (fun H locs hC => ?_)
  refine lv_iload S.1 S.2.1 dX0_addRelation_40 (lv_at hl 0 rfl) ?_
  exact o_iret S hr hlocks hC ⟨rfl, rfl⟩ rfl dX0_addRelation_42 (Nat.le_of_ble_eq_true rfl) (Nat.le_of_ble_eq_true rfl)
def startF (S : RS) (r : Nat) : Nat → RS
  | 0 => S
  | k + 1 => sW (startF S r k) r k (if decide (S.2.1 2 r = nI 6) && ofK (startF S r k) k ((startF S r k).2.1 3 r) then bitN k else 0)
set_option maxRecDepth 100000 in
set_option maxHeartbeats 4000000 in
theorem c_X0_startRows (l : Launch) {loc : Nat → Nat} {n : Nat} {g : Gc} (hn : n ≤ 40) {S0 : RS} {r : Nat} (hr12 : r < 12) : MXv l yX0_startRows cX0_startRows 4 none (rmL 2 0 0) loc n g S0 [.int (nI r)] (fun S' => S' = startF S0 r n) := by
  refine o_enter (by decide) (Nat.le_of_ble_eq_true rfl) ?_
  intro p e s m below meth c ls S hr hlocks hC hl
  refine lv_aload_n S.1 S.2.1 dX0_startRows_0 rfl (lv_at hl 0 rfl) ?_
  refine x_get_forms S hC dX0_startRows_1 ?_
  refine lv_iload_n S.1 S.2.1 dX0_startRows_4 rfl (lv_at hl 1 rfl) ?_
  refine x_ild S hC hn 2 (by decide) hr12 dX0_startRows_5 ?_
  refine lv_bipush (v := nI 6) S.1 S.2.1 dX0_startRows_6 rfl ?_
  refine lv_icmp_ne (tgt := 15) S.1 S.2.1 dX0_startRows_8 (by decide) (fun c8 => ?_) (fun c8 => ?_)
  · skip
    have e6 : Int32.ofInt 0 = bI (decide (S0.2.1 2 r = nI 6)) := by rw [decide_eq_false c8]; rfl
    refine lv_iconst (v := bI (decide (S0.2.1 2 r = nI 6))) S.1 S.2.1 dX0_startRows_15 e6 ?_
    refine lv_istore_n S.1 S.2.1 dX0_startRows_16 rfl hl (by decide) rfl (fun ls hl => ?_)
    refine lv_iconst (v := nI 0) S.1 S.2.1 dX0_startRows_17 rfl ?_
    refine lv_istore_n S.1 S.2.1 dX0_startRows_18 rfl hl (by decide) rfl (fun ls hl => ?_)
    have loop : ∀ (k i : Nat), n - i < k → i ≤ n → ∀ (H : Heap) (locs : List Loc) (ls : Array Slot), CX loc n g (startF S0 r i) s H locs → lv_has ls 4 [(0, .ref (loc 0)), (1, .int (nI r)), (2, .int (bI (decide (S0.2.1 2 r = nI 6)))), (3, .int (nI i))] → W p l e (rmL 2 0 0) s m ([.ref (loc 0), .int (nI r)] : List Value).toArray below meth c H locs 0 0 (MQ below (va_Qv (fun S' => S' = startF S0 r n) (fun S' t => HX loc n g S' t.heap) (ZA loc 21)) ([.ref (loc 0), .int (nI r)] : List Value).toArray s (rmL 2 0 0).cells (rmL 2 0 0).slots (ZA loc 21)) (F0 m 19 ls []) := by
      intro k
      induction k with
      | zero => intro i hk; omega
      | succ k ih =>
        intro i hk hi  H locs ls hC hl
        refine lv_iload_n S.1 S.2.1 dX0_startRows_19 rfl (lv_at hl 3 rfl) ?_
        refine lv_aload_n S.1 S.2.1 dX0_startRows_20 rfl (lv_at hl 0 rfl) ?_
        refine x_get_things S hC dX0_startRows_21 ?_
        refine n_icmp_ge (tgt := 67) S.1 S.2.1 dX0_startRows_24 (by decide) (by omega) (by omega) (fun c24 => ?_) (fun c24 => ?_)
        · skip
          exact o_vret S hr hlocks hC (by rw [show n = i by omega]) dX0_startRows_67 (Nat.le_of_ble_eq_true rfl) (Nat.le_of_ble_eq_true rfl)
        · skip
          refine lv_aload_n S.1 S.2.1 dX0_startRows_27 rfl (lv_at hl 0 rfl) ?_
          refine x_get_rows S hC dX0_startRows_28 ?_
          refine lv_iload_n S.1 S.2.1 dX0_startRows_31 rfl (lv_at hl 1 rfl) ?_
          refine x_aald S hC hr12 dX0_startRows_32 ?_
          refine lv_iload_n S.1 S.2.1 dX0_startRows_33 rfl (lv_at hl 3 rfl) ?_
          refine lv_iload_n S.1 S.2.1 dX0_startRows_34 rfl (lv_at hl 2 rfl) ?_
          refine b_if_eq (tgt := 59) S.1 S.2.1 dX0_startRows_35 (by decide) (fun c35 => ?_) (fun c35 => ?_)
          · skip
            refine lv_lconst (v := 0) S.1 S.2.1 dX0_startRows_59 rfl ?_
            refine x_lst S hC hn hr12 (by omega) dX0_startRows_60 (fun H locs hC => ?_)
            refine lv_iinc (k := 3) S.1 S.2.1 dX0_startRows_61 hl rfl (n_inc _) (by decide) rfl (fun ls hl => ?_)
            refine lv_goto (tgt := 19) S.1 S.2.1 dX0_startRows_64 (by decide) ?_
            exact ih (i + 1) (by omega) (by omega) _ _ _ (by rw [startF, if_neg (by simp [c35])]; exact hC) (lv_sub hl [1, 2, 3, 0] rfl)
          · skip
            refine lv_aload_n S.1 S.2.1 dX0_startRows_38 rfl (lv_at hl 0 rfl) ?_
            refine lv_iload_n S.1 S.2.1 dX0_startRows_39 rfl (lv_at hl 3 rfl) ?_
            refine lv_aload_n S.1 S.2.1 dX0_startRows_40 rfl (lv_at hl 0 rfl) ?_
            refine x_get_firsts S hC dX0_startRows_41 ?_
            refine lv_iload_n S.1 S.2.1 dX0_startRows_44 rfl (lv_at hl 1 rfl) ?_
            refine x_ild S hC hn 3 (by decide) hr12 dX0_startRows_45 ?_
            refine o_calli oiX S hC (c_X0_isOfKind l hn (t := i) (by omega) _) cw_RX0_X0_isOfKind ⟨rfl, rfl, by decide, by decide⟩ rfl hl.1 rfl (Nat.le_of_ble_eq_true rfl) dX0_startRows_46 ⟨(Nat.le_of_ble_eq_true rfl), (Nat.le_of_ble_eq_true rfl)⟩ (fun r46 S1 H locs hp hC1 => ?_)
            obtain ⟨e1, hp⟩ := hp
            rw [e1] at hC1; replace hC := hC1
            subst hp
            refine b_if_eq (tgt := 59) S.1 S.2.1 dX0_startRows_49 (by decide) (fun c49 => ?_) (fun c49 => ?_)
            · skip
              refine lv_lconst (v := 0) S.1 S.2.1 dX0_startRows_59 rfl ?_
              refine x_lst S hC hn hr12 (by omega) dX0_startRows_60 (fun H locs hC => ?_)
              refine lv_iinc (k := 3) S.1 S.2.1 dX0_startRows_61 hl rfl (n_inc _) (by decide) rfl (fun ls hl => ?_)
              refine lv_goto (tgt := 19) S.1 S.2.1 dX0_startRows_64 (by decide) ?_
              exact ih (i + 1) (by omega) (by omega) _ _ _ (by rw [startF, if_neg (by simp [c49])]; exact hC) (lv_sub hl [1, 2, 3, 0] rfl)
            · skip
              refine lv_iload_n S.1 S.2.1 dX0_startRows_52 rfl (lv_at hl 3 rfl) ?_
              refine s_calll S (c_X0_bit l (nI i)) cw_RX0_X0_bit ⟨rfl, rfl, by decide, by decide⟩ rfl hl.1 rfl (Nat.le_of_ble_eq_true rfl) dX0_startRows_53 ⟨(Nat.le_of_ble_eq_true rfl), (Nat.le_of_ble_eq_true rfl)⟩ (fun r53 hp => ?_)
              subst hp
              refine lv_goto (tgt := 60) S.1 S.2.1 dX0_startRows_56 (by decide) ?_
              refine x_lst S hC hn hr12 (by omega) dX0_startRows_60 (fun H locs hC => ?_)
              refine lv_iinc (k := 3) S.1 S.2.1 dX0_startRows_61 hl rfl (n_inc _) (by decide) rfl (fun ls hl => ?_)
              refine lv_goto (tgt := 19) S.1 S.2.1 dX0_startRows_64 (by decide) ?_
              exact ih (i + 1) (by omega) (by omega) _ _ _ (by rw [startF, if_pos (by simp [c35, c49])]; exact hC) (lv_sub hl [1, 2, 3, 0] rfl)
    exact loop (n + 1) 0 (by omega) (by omega) _ _ _ hC (lv_sub hl [2, 3, 1, 0] rfl)
  · skip
    have e6 : Int32.ofInt 1 = bI (decide (S0.2.1 2 r = nI 6)) := by rw [decide_eq_true c8]; rfl
    refine lv_iconst (v := bI (decide (S0.2.1 2 r = nI 6))) S.1 S.2.1 dX0_startRows_11 e6 ?_
    refine lv_goto (tgt := 16) S.1 S.2.1 dX0_startRows_12 (by decide) ?_
    refine lv_istore_n S.1 S.2.1 dX0_startRows_16 rfl hl (by decide) rfl (fun ls hl => ?_)
    refine lv_iconst (v := nI 0) S.1 S.2.1 dX0_startRows_17 rfl ?_
    refine lv_istore_n S.1 S.2.1 dX0_startRows_18 rfl hl (by decide) rfl (fun ls hl => ?_)
    have loop : ∀ (k i : Nat), n - i < k → i ≤ n → ∀ (H : Heap) (locs : List Loc) (ls : Array Slot), CX loc n g (startF S0 r i) s H locs → lv_has ls 4 [(0, .ref (loc 0)), (1, .int (nI r)), (2, .int (bI (decide (S0.2.1 2 r = nI 6)))), (3, .int (nI i))] → W p l e (rmL 2 0 0) s m ([.ref (loc 0), .int (nI r)] : List Value).toArray below meth c H locs 0 0 (MQ below (va_Qv (fun S' => S' = startF S0 r n) (fun S' t => HX loc n g S' t.heap) (ZA loc 21)) ([.ref (loc 0), .int (nI r)] : List Value).toArray s (rmL 2 0 0).cells (rmL 2 0 0).slots (ZA loc 21)) (F0 m 19 ls []) := by
      intro k
      induction k with
      | zero => intro i hk; omega
      | succ k ih =>
        intro i hk hi  H locs ls hC hl
        refine lv_iload_n S.1 S.2.1 dX0_startRows_19 rfl (lv_at hl 3 rfl) ?_
        refine lv_aload_n S.1 S.2.1 dX0_startRows_20 rfl (lv_at hl 0 rfl) ?_
        refine x_get_things S hC dX0_startRows_21 ?_
        refine n_icmp_ge (tgt := 67) S.1 S.2.1 dX0_startRows_24 (by decide) (by omega) (by omega) (fun c24 => ?_) (fun c24 => ?_)
        · skip
          exact o_vret S hr hlocks hC (by rw [show n = i by omega]) dX0_startRows_67 (Nat.le_of_ble_eq_true rfl) (Nat.le_of_ble_eq_true rfl)
        · skip
          refine lv_aload_n S.1 S.2.1 dX0_startRows_27 rfl (lv_at hl 0 rfl) ?_
          refine x_get_rows S hC dX0_startRows_28 ?_
          refine lv_iload_n S.1 S.2.1 dX0_startRows_31 rfl (lv_at hl 1 rfl) ?_
          refine x_aald S hC hr12 dX0_startRows_32 ?_
          refine lv_iload_n S.1 S.2.1 dX0_startRows_33 rfl (lv_at hl 3 rfl) ?_
          refine lv_iload_n S.1 S.2.1 dX0_startRows_34 rfl (lv_at hl 2 rfl) ?_
          refine b_if_eq (tgt := 59) S.1 S.2.1 dX0_startRows_35 (by decide) (fun c35 => ?_) (fun c35 => ?_)
          · skip
            refine lv_lconst (v := 0) S.1 S.2.1 dX0_startRows_59 rfl ?_
            refine x_lst S hC hn hr12 (by omega) dX0_startRows_60 (fun H locs hC => ?_)
            refine lv_iinc (k := 3) S.1 S.2.1 dX0_startRows_61 hl rfl (n_inc _) (by decide) rfl (fun ls hl => ?_)
            refine lv_goto (tgt := 19) S.1 S.2.1 dX0_startRows_64 (by decide) ?_
            exact ih (i + 1) (by omega) (by omega) _ _ _ (by rw [startF, if_neg (by simp [c35])]; exact hC) (lv_sub hl [1, 2, 3, 0] rfl)
          · skip
            refine lv_aload_n S.1 S.2.1 dX0_startRows_38 rfl (lv_at hl 0 rfl) ?_
            refine lv_iload_n S.1 S.2.1 dX0_startRows_39 rfl (lv_at hl 3 rfl) ?_
            refine lv_aload_n S.1 S.2.1 dX0_startRows_40 rfl (lv_at hl 0 rfl) ?_
            refine x_get_firsts S hC dX0_startRows_41 ?_
            refine lv_iload_n S.1 S.2.1 dX0_startRows_44 rfl (lv_at hl 1 rfl) ?_
            refine x_ild S hC hn 3 (by decide) hr12 dX0_startRows_45 ?_
            refine o_calli oiX S hC (c_X0_isOfKind l hn (t := i) (by omega) _) cw_RX0_X0_isOfKind ⟨rfl, rfl, by decide, by decide⟩ rfl hl.1 rfl (Nat.le_of_ble_eq_true rfl) dX0_startRows_46 ⟨(Nat.le_of_ble_eq_true rfl), (Nat.le_of_ble_eq_true rfl)⟩ (fun r46 S1 H locs hp hC1 => ?_)
            obtain ⟨e1, hp⟩ := hp
            rw [e1] at hC1; replace hC := hC1
            subst hp
            refine b_if_eq (tgt := 59) S.1 S.2.1 dX0_startRows_49 (by decide) (fun c49 => ?_) (fun c49 => ?_)
            · skip
              refine lv_lconst (v := 0) S.1 S.2.1 dX0_startRows_59 rfl ?_
              refine x_lst S hC hn hr12 (by omega) dX0_startRows_60 (fun H locs hC => ?_)
              refine lv_iinc (k := 3) S.1 S.2.1 dX0_startRows_61 hl rfl (n_inc _) (by decide) rfl (fun ls hl => ?_)
              refine lv_goto (tgt := 19) S.1 S.2.1 dX0_startRows_64 (by decide) ?_
              exact ih (i + 1) (by omega) (by omega) _ _ _ (by rw [startF, if_neg (by simp [c49])]; exact hC) (lv_sub hl [1, 2, 3, 0] rfl)
            · skip
              refine lv_iload_n S.1 S.2.1 dX0_startRows_52 rfl (lv_at hl 3 rfl) ?_
              refine s_calll S (c_X0_bit l (nI i)) cw_RX0_X0_bit ⟨rfl, rfl, by decide, by decide⟩ rfl hl.1 rfl (Nat.le_of_ble_eq_true rfl) dX0_startRows_53 ⟨(Nat.le_of_ble_eq_true rfl), (Nat.le_of_ble_eq_true rfl)⟩ (fun r53 hp => ?_)
              subst hp
              refine lv_goto (tgt := 60) S.1 S.2.1 dX0_startRows_56 (by decide) ?_
              refine x_lst S hC hn hr12 (by omega) dX0_startRows_60 (fun H locs hC => ?_)
              refine lv_iinc (k := 3) S.1 S.2.1 dX0_startRows_61 hl rfl (n_inc _) (by decide) rfl (fun ls hl => ?_)
              refine lv_goto (tgt := 19) S.1 S.2.1 dX0_startRows_64 (by decide) ?_
              exact ih (i + 1) (by omega) (by omega) _ _ _ (by rw [startF, if_pos (by simp [c35, c49])]; exact hC) (lv_sub hl [1, 2, 3, 0] rfl)
    exact loop (n + 1) 0 (by omega) (by omega) _ _ _ hC (lv_sub hl [2, 3, 1, 0] rfl)
