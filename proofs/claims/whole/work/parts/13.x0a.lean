set_option maxRecDepth 100000 in
set_option maxHeartbeats 4000000 in
theorem c_X0_bit (l : Launch) (x : Int32) : MSl l yX0_bit cX0_bit 1 (some .long) (rmL 1 0 0) [.int x] (fun r => r = bitL x) := by
  refine s_enter (by decide) (Nat.le_of_ble_eq_true rfl) ?_
  intro p e s m below meth c ls S hr hlocks hl
  refine lv_lconst (v := 1) S.1 S.2.1 dX0_bit_0 rfl ?_
  refine lv_iload_n S.1 S.2.1 dX0_bit_1 rfl (lv_at hl 0 rfl) ?_
  refine lv_lshl S.1 S.2.1 dX0_bit_2 rfl ?_
  exact s_lret S hr hlocks rfl dX0_bit_3
set_option maxRecDepth 100000 in
set_option maxHeartbeats 4000000 in
theorem c_X0_isThing (l : Launch) {loc : Nat → Nat} {n : Nat} {g : Gc} (hn : n ≤ 40) {S0 : RS} (x : Int32) : MXi l yX0_isThing cX0_isThing 2 (some .boolean) (rmL 1 0 0) loc n g S0 [.int x] (fun r S' => S' = S0 ∧ r = bI (inI x (nI n))) := by
  refine o_enter (by decide) (Nat.le_of_ble_eq_true rfl) ?_
  intro p e s m below meth c ls S hr hlocks hC hl
  refine lv_iload_n S.1 S.2.1 dX0_isThing_0 rfl (lv_at hl 1 rfl) ?_
  refine lv_if_lt (tgt := 16) S.1 S.2.1 dX0_isThing_1 (by decide) (fun c1 => ?_) (fun c1 => ?_)
  · skip
    refine lv_iconst (v := 0) S.1 S.2.1 dX0_isThing_16 rfl ?_
    exact o_iret S hr hlocks hC ⟨rfl, by simp [inI, c1, bI]⟩ rfl dX0_isThing_17 (Nat.le_of_ble_eq_true rfl) (Nat.le_of_ble_eq_true rfl)
  · skip
    refine lv_iload_n S.1 S.2.1 dX0_isThing_4 rfl (lv_at hl 1 rfl) ?_
    refine lv_aload_n S.1 S.2.1 dX0_isThing_5 rfl (lv_at hl 0 rfl) ?_
    refine x_get_things S hC dX0_isThing_6 ?_
    refine lv_icmp_ge (tgt := 16) S.1 S.2.1 dX0_isThing_9 (by decide) (fun c9 => ?_) (fun c9 => ?_)
    · skip
      refine lv_iconst (v := 0) S.1 S.2.1 dX0_isThing_16 rfl ?_
      exact o_iret S hr hlocks hC ⟨rfl, by simp [inI, c1, bI, Int32.not_lt.mpr c9]⟩ rfl dX0_isThing_17 (Nat.le_of_ble_eq_true rfl) (Nat.le_of_ble_eq_true rfl)
    · skip
      refine lv_iconst (v := 1) S.1 S.2.1 dX0_isThing_12 rfl ?_
      refine lv_goto (tgt := 17) S.1 S.2.1 dX0_isThing_13 (by decide) ?_
      exact o_iret S hr hlocks hC ⟨rfl, by simp [inI, c1, bI, Int32.not_le.mp c9]⟩ rfl dX0_isThing_17 (Nat.le_of_ble_eq_true rfl) (Nat.le_of_ble_eq_true rfl)
set_option maxRecDepth 100000 in
set_option maxHeartbeats 4000000 in
theorem c_X0_needThing (l : Launch) (hs0 : l.stackTraces = false) {loc : Nat → Nat} {n : Nat} {g : Gc} (hn : n ≤ 40) {S0 : RS} (x : Int32) : TXv l yX0_needThing cX0_needThing 2 none (rmL 7 1 6) loc n g S0 [.int x] (fun S' => S' = S0 ∧ inI x (nI n) = true) (fun E => E = iaeS ∧ inI x (nI n) = false) := by
  refine o_enterx (by decide) (Nat.le_of_ble_eq_true rfl) ?_
  intro p e s m below meth c ls S hr hlocks hnt hC hl
  refine lv_aload_n S.1 S.2.1 dX0_needThing_0 rfl (lv_at hl 0 rfl) ?_
  refine lv_iload_n S.1 S.2.1 dX0_needThing_1 rfl (lv_at hl 1 rfl) ?_
  refine o_calli oiX S hC (c_X0_isThing l hn x) cw_RX0_X0_isThing ⟨rfl, rfl, by decide, by decide⟩ rfl hl.1 rfl (Nat.le_of_ble_eq_true rfl) dX0_needThing_2 ⟨(Nat.le_of_ble_eq_true rfl), (Nat.le_of_ble_eq_true rfl)⟩ (fun r2 S1 H locs hp hC1 => ?_)
  obtain ⟨e1, hp⟩ := hp
  rw [e1] at hC1; replace hC := hC1
  subst hp
  refine b_if_ne (tgt := 18) S.1 S.2.1 dX0_needThing_5 (by decide) (fun c5 => ?_) (fun c5 => ?_)
  · skip
    exact vx_ret (o_vret S hr hlocks hC ⟨rfl, c5⟩ dX0_needThing_18 (Nat.le_of_ble_eq_true rfl) (Nat.le_of_ble_eq_true rfl))
  · skip
    exact x_throw_iae (tx := "no such thing") hs0 S hC (by decide) hnt hlocks hl.1 ⟨rfl, c5⟩ dX0_needThing_8 dX0_needThing_11 dX0_needThing_12 dX0_needThing_14 dX0_needThing_17 ⟨(Nat.le_of_ble_eq_true rfl), (Nat.le_of_ble_eq_true rfl), (Nat.le_of_ble_eq_true rfl), (Nat.le_of_ble_eq_true rfl)⟩ ⟨(Nat.le_of_ble_eq_true rfl), (Nat.le_of_ble_eq_true rfl)⟩
set_option maxRecDepth 100000 in
set_option maxHeartbeats 4000000 in
theorem c_X0_needRelation (l : Launch) (hs0 : l.stackTraces = false) {loc : Nat → Nat} {n : Nat} {g : Gc} (hn : n ≤ 40) {S0 : RS} (x : Int32) : TXv l yX0_needRelation cX0_needRelation 2 none (rmL 7 1 6) loc n g S0 [.int x] (fun S' => S' = S0 ∧ inI x (S0.1 0) = true) (fun E => E = iaeS ∧ inI x (S0.1 0) = false) := by
  refine o_enterx (by decide) (Nat.le_of_ble_eq_true rfl) ?_
  intro p e s m below meth c ls S hr hlocks hnt hC hl
  refine lv_iload_n S.1 S.2.1 dX0_needRelation_0 rfl (lv_at hl 1 rfl) ?_
  refine lv_if_lt (tgt := 12) S.1 S.2.1 dX0_needRelation_1 (by decide) (fun c1 => ?_) (fun c1 => ?_)
  · skip
    exact x_throw_iae (tx := "no such relation") hs0 S hC (by decide) hnt hlocks hl.1 ⟨rfl, by simp [inI, c1]⟩ dX0_needRelation_12 dX0_needRelation_15 dX0_needRelation_16 dX0_needRelation_18 dX0_needRelation_21 ⟨(Nat.le_of_ble_eq_true rfl), (Nat.le_of_ble_eq_true rfl), (Nat.le_of_ble_eq_true rfl), (Nat.le_of_ble_eq_true rfl)⟩ ⟨(Nat.le_of_ble_eq_true rfl), (Nat.le_of_ble_eq_true rfl)⟩
  · skip
    refine lv_iload_n S.1 S.2.1 dX0_needRelation_4 rfl (lv_at hl 1 rfl) ?_
    refine lv_aload_n S.1 S.2.1 dX0_needRelation_5 rfl (lv_at hl 0 rfl) ?_
    refine x_get_relations S hC dX0_needRelation_6 ?_
    refine lv_icmp_lt (tgt := 22) S.1 S.2.1 dX0_needRelation_9 (by decide) (fun c9 => ?_) (fun c9 => ?_)
    · skip
      exact vx_ret (o_vret S hr hlocks hC ⟨rfl, by simp [inI, c1, c9]⟩ dX0_needRelation_22 (Nat.le_of_ble_eq_true rfl) (Nat.le_of_ble_eq_true rfl))
    · skip
      exact x_throw_iae (tx := "no such relation") hs0 S hC (by decide) hnt hlocks hl.1 ⟨rfl, by simp [inI, c9]⟩ dX0_needRelation_12 dX0_needRelation_15 dX0_needRelation_16 dX0_needRelation_18 dX0_needRelation_21 ⟨(Nat.le_of_ble_eq_true rfl), (Nat.le_of_ble_eq_true rfl), (Nat.le_of_ble_eq_true rfl), (Nat.le_of_ble_eq_true rfl)⟩ ⟨(Nat.le_of_ble_eq_true rfl), (Nat.le_of_ble_eq_true rfl)⟩
def ofK (S : RS) (t : Nat) (k : Int32) : Bool := decide (k = -1) || decide (S.2.1 0 t = k)
set_option maxRecDepth 100000 in
set_option maxHeartbeats 4000000 in
theorem c_X0_isOfKind (l : Launch) {loc : Nat → Nat} {n : Nat} {g : Gc} (hn : n ≤ 40) {S0 : RS} {t : Nat} (ht : t < n) (k : Int32) : MXi l yX0_isOfKind cX0_isOfKind 3 (some .boolean) (rmL 1 0 0) loc n g S0 [.int (nI t), .int k] (fun r S' => S' = S0 ∧ r = bI (ofK S0 t k)) := by
  refine o_enter (by decide) (Nat.le_of_ble_eq_true rfl) ?_
  intro p e s m below meth c ls S hr hlocks hC hl
  refine lv_iload_n S.1 S.2.1 dX0_isOfKind_0 rfl (lv_at hl 2 rfl) ?_
  refine lv_iconst (v := -1) S.1 S.2.1 dX0_isOfKind_1 rfl ?_
  refine lv_icmp_eq (tgt := 15) S.1 S.2.1 dX0_isOfKind_2 (by decide) (fun c2 => ?_) (fun c2 => ?_)
  · skip
    refine lv_iconst (v := 1) S.1 S.2.1 dX0_isOfKind_15 rfl ?_
    refine lv_goto (tgt := 20) S.1 S.2.1 dX0_isOfKind_16 (by decide) ?_
    exact o_iret S hr hlocks hC ⟨rfl, by simp [ofK, c2, bI]⟩ rfl dX0_isOfKind_20 (Nat.le_of_ble_eq_true rfl) (Nat.le_of_ble_eq_true rfl)
  · skip
    refine lv_aload_n S.1 S.2.1 dX0_isOfKind_5 rfl (lv_at hl 0 rfl) ?_
    refine x_get_kinds S hC dX0_isOfKind_6 ?_
    refine lv_iload_n S.1 S.2.1 dX0_isOfKind_9 rfl (lv_at hl 1 rfl) ?_
    refine x_ild S hC hn 0 (by decide) ht dX0_isOfKind_10 ?_
    refine lv_iload_n S.1 S.2.1 dX0_isOfKind_11 rfl (lv_at hl 2 rfl) ?_
    refine lv_icmp_ne (tgt := 19) S.1 S.2.1 dX0_isOfKind_12 (by decide) (fun c12 => ?_) (fun c12 => ?_)
    · skip
      refine lv_iconst (v := 0) S.1 S.2.1 dX0_isOfKind_19 rfl ?_
      exact o_iret S hr hlocks hC ⟨rfl, by simp [ofK, c2, c12, bI]⟩ rfl dX0_isOfKind_20 (Nat.le_of_ble_eq_true rfl) (Nat.le_of_ble_eq_true rfl)
    · skip
      refine lv_iconst (v := 1) S.1 S.2.1 dX0_isOfKind_15 rfl ?_
      refine lv_goto (tgt := 20) S.1 S.2.1 dX0_isOfKind_16 (by decide) ?_
      exact o_iret S hr hlocks hC ⟨rfl, by simp [ofK, c12, bI]⟩ rfl dX0_isOfKind_20 (Nat.le_of_ble_eq_true rfl) (Nat.le_of_ble_eq_true rfl)
def hX (S : RS) (r a b : Nat) : Bool := tb (S.2.2 r a) b
set_option maxRecDepth 100000 in
set_option maxHeartbeats 4000000 in
theorem c_X0_holds (l : Launch) {loc : Nat → Nat} {n : Nat} {g : Gc} (hn : n ≤ 40) {S0 : RS} {r a b : Nat} (hr12 : r < 12) (ha : a < n) (hb : b < n) : MXi l yX0_holds cX0_holds 4 (some .boolean) (rmL 2 0 0) loc n g S0 [.int (nI r), .int (nI a), .int (nI b)] (fun v S' => S' = S0 ∧ v = bI (hX S0 r a b)) := by
  refine o_enter (by decide) (Nat.le_of_ble_eq_true rfl) ?_
  intro p e s m below meth c ls S hr hlocks hC hl
  refine lv_aload_n S.1 S.2.1 dX0_holds_0 rfl (lv_at hl 0 rfl) ?_
  refine x_get_rows S hC dX0_holds_1 ?_
  refine lv_iload_n S.1 S.2.1 dX0_holds_4 rfl (lv_at hl 1 rfl) ?_
  refine x_aald S hC hr12 dX0_holds_5 ?_
  refine lv_iload_n S.1 S.2.1 dX0_holds_6 rfl (lv_at hl 2 rfl) ?_
  refine x_lld S hC hn hr12 ha dX0_holds_7 ?_
  refine lv_iload_n S.1 S.2.1 dX0_holds_8 rfl (lv_at hl 3 rfl) ?_
  refine s_calll S (c_X0_bit l (nI b)) cw_RX0_X0_bit ⟨rfl, rfl, by decide, by decide⟩ rfl hl.1 rfl (Nat.le_of_ble_eq_true rfl) dX0_holds_9 ⟨(Nat.le_of_ble_eq_true rfl), (Nat.le_of_ble_eq_true rfl)⟩ (fun r9 hp => ?_)
  subst hp
  refine lv_land S.1 S.2.1 dX0_holds_12 ?_
  refine lv_lconst (v := 0) S.1 S.2.1 dX0_holds_13 rfl ?_
  refine W.lcmp S.1 S.2.1 dX0_holds_14 ?_
  refine lv_if_eq (tgt := 22) S.1 S.2.1 dX0_holds_15 (by decide) (fun c15 => ?_) (fun c15 => ?_)
  · skip
    refine lv_iconst (v := 0) S.1 S.2.1 dX0_holds_22 rfl ?_
    exact o_iret S hr hlocks hC ⟨rfl, by rw [hX, (tb_test (by omega)).mp ((lg_cmp_eq _ _).mp c15)]; rfl⟩ rfl dX0_holds_23 (Nat.le_of_ble_eq_true rfl) (Nat.le_of_ble_eq_true rfl)
  · skip
    refine lv_iconst (v := 1) S.1 S.2.1 dX0_holds_18 rfl ?_
    refine lv_goto (tgt := 23) S.1 S.2.1 dX0_holds_19 (by decide) ?_
    exact o_iret S hr hlocks hC ⟨rfl, by rw [hX, Bool.of_not_eq_false (fun q => c15 ((lg_cmp_eq _ _).mpr ((tb_test (by omega)).mpr q)))]; rfl⟩ rfl dX0_holds_23 (Nat.le_of_ble_eq_true rfl) (Nat.le_of_ble_eq_true rfl)
