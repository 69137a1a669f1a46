def pairsF (S : RS) (r : Nat) : Nat → Int32
  | 0 => nI 0
  | k + 1 => pairsF S r k + popL (S.2.2 r k)
set_option maxRecDepth 100000 in
set_option maxHeartbeats 4000000 in
theorem c_X0_pairsOf (l : Launch) {loc : Nat → Nat} {n : Nat} {g : Gc} (hn : n ≤ 40) {S0 : RS} {r : Nat} (hr12 : r < 12) : MXi l yX0_pairsOf cX0_pairsOf 4 (some .int) (rmL 2 0 0) loc n g S0 [.int (nI r)] (fun v S' => S' = S0 ∧ v = pairsF S0 r n) := by
  refine o_enter (by decide) (Nat.le_of_ble_eq_true rfl) ?_
  intro p e s m below meth c ls S hr hlocks hC hl
  refine lv_iconst (v := nI 0) S.1 S.2.1 dX0_pairsOf_0 rfl ?_
  refine lv_istore_n S.1 S.2.1 dX0_pairsOf_1 rfl hl (by decide) rfl (fun ls hl => ?_)
  refine lv_iconst (v := nI 0) S.1 S.2.1 dX0_pairsOf_2 rfl ?_
  refine lv_istore_n S.1 S.2.1 dX0_pairsOf_3 rfl hl (by decide) rfl (fun ls hl => ?_)
  have loop : ∀ (k i : Nat), n - i < k → i ≤ n → ∀ (H : Heap) (locs : List Loc) (ls : Array Slot), CX loc n g (S0) s H locs → lv_has ls 4 [(0, .ref (loc 0)), (1, .int (nI r)), (2, .int (pairsF S0 r i)), (3, .int (nI i))] → W p l e (rmL 2 0 0) s m ([.ref (loc 0), .int (nI r)] : List Value).toArray below meth c H locs 0 0 (MQ below (va_Qi (fun v S' => S' = S0 ∧ v = pairsF S0 r n) (fun S' t => HX loc n g S' t.heap) (ZA loc 21)) ([.ref (loc 0), .int (nI r)] : List Value).toArray s (rmL 2 0 0).cells (rmL 2 0 0).slots (ZA loc 21)) (F0 m 4 ls []) := by
    intro k
    induction k with
    | zero => intro i hk; omega
    | succ k ih =>
      intro i hk hi  H locs ls hC hl
      refine lv_iload_n S.1 S.2.1 dX0_pairsOf_4 rfl (lv_at hl 3 rfl) ?_
      refine lv_aload_n S.1 S.2.1 dX0_pairsOf_5 rfl (lv_at hl 0 rfl) ?_
      refine x_get_things S hC dX0_pairsOf_6 ?_
      refine n_icmp_ge (tgt := 32) S.1 S.2.1 dX0_pairsOf_9 (by decide) (by omega) (by omega) (fun c9 => ?_) (fun c9 => ?_)
      · skip
        refine lv_iload_n S.1 S.2.1 dX0_pairsOf_32 rfl (lv_at hl 2 rfl) ?_
        exact o_iret S hr hlocks hC ⟨rfl, by rw [show n = i by omega]⟩ rfl dX0_pairsOf_33 (Nat.le_of_ble_eq_true rfl) (Nat.le_of_ble_eq_true rfl)
      · skip
        refine lv_iload_n S.1 S.2.1 dX0_pairsOf_12 rfl (lv_at hl 2 rfl) ?_
        refine lv_aload_n S.1 S.2.1 dX0_pairsOf_13 rfl (lv_at hl 0 rfl) ?_
        refine x_get_rows S hC dX0_pairsOf_14 ?_
        refine lv_iload_n S.1 S.2.1 dX0_pairsOf_17 rfl (lv_at hl 1 rfl) ?_
        refine x_aald S hC hr12 dX0_pairsOf_18 ?_
        refine lv_iload_n S.1 S.2.1 dX0_pairsOf_19 rfl (lv_at hl 3 rfl) ?_
        refine x_lld S hC hn hr12 (show i < n by omega) dX0_pairsOf_20 ?_
        refine s_calli S (c_J13_bitCount_95d88 l _) cw_RX0_J13_bitCount_95d88 ⟨rfl, rfl, by decide, by decide⟩ rfl hl.1 rfl (Nat.le_of_ble_eq_true rfl) dX0_pairsOf_21 ⟨(Nat.le_of_ble_eq_true rfl), (Nat.le_of_ble_eq_true rfl)⟩ (fun r21 hp => ?_)
        subst hp
        refine lv_iadd S.1 S.2.1 dX0_pairsOf_24 ?_
        refine lv_istore_n S.1 S.2.1 dX0_pairsOf_25 rfl hl (by decide) rfl (fun ls hl => ?_)
        refine lv_iinc (k := 3) S.1 S.2.1 dX0_pairsOf_26 hl rfl (n_inc _) (by decide) rfl (fun ls hl => ?_)
        refine lv_goto (tgt := 4) S.1 S.2.1 dX0_pairsOf_29 (by decide) ?_
        exact ih (i + 1) (by omega) (by omega) _ _ _ hC (lv_sub hl [2, 3, 1, 0] rfl)
  exact loop (n + 1) 0 (by omega) (by omega) _ _ _ hC (lv_sub hl [2, 3, 1, 0] rfl)
def lowF (v : Int64) : Nat → Int64
  | 0 => v
  | k + 1 => lowF v k &&& (lowF v k - 1)
def pickW (v : Int64) (i : Int32) : Bool := inI i (popL v)
set_option maxRecDepth 100000 in
set_option maxHeartbeats 4000000 in
theorem c_X0_pick (l : Launch) (hs0 : l.stackTraces = false) {loc : Nat → Nat} {n : Nat} {g : Gc} (hn : n ≤ 40) {S0 : RS} (v : Int64) (i0 : Int32) : TXi l yX0_pick cX0_pick 7 (some .int) (rmL 7 1 6) loc n g S0 [.long v, .int i0] (fun q S' => S' = S0 ∧ pickW v i0 = true ∧ q = ntzL (lowF v (ixN i0))) (fun E => E = nseS ∧ pickW v i0 = false) := by
  refine o_enterx (by decide) (Nat.le_of_ble_eq_true rfl) ?_
  intro p e s m below meth c ls S hr hlocks hnt hC hl
  refine lv_iload_n S.1 S.2.1 dX0_pick_0 rfl (lv_at hl 2 rfl) ?_
  refine lv_if_lt (tgt := 12) S.1 S.2.1 dX0_pick_1 (by decide) (fun c1 => ?_) (fun c1 => ?_)
  · skip
    exact x_throw_nse (tx := "there are not so many") hs0 S hC (by decide) hnt hlocks hl.1 ⟨rfl, by simp [pickW, inI, c1]⟩ dX0_pick_12 dX0_pick_15 dX0_pick_16 dX0_pick_18 dX0_pick_21 ⟨(Nat.le_of_ble_eq_true rfl), (Nat.le_of_ble_eq_true rfl), (Nat.le_of_ble_eq_true rfl), (Nat.le_of_ble_eq_true rfl)⟩ ⟨(Nat.le_of_ble_eq_true rfl), (Nat.le_of_ble_eq_true rfl)⟩
  · skip
    refine lv_iload_n S.1 S.2.1 dX0_pick_4 rfl (lv_at hl 2 rfl) ?_
    refine lv_lload_n S.1 S.2.1 dX0_pick_5 rfl (lv_at hl 1 rfl) ?_
    refine s_calli S (c_J13_bitCount_95d88 l v) cw_RX0_J13_bitCount_95d88 ⟨rfl, rfl, by decide, by decide⟩ rfl hl.1 rfl (Nat.le_of_ble_eq_true rfl) dX0_pick_6 ⟨(Nat.le_of_ble_eq_true rfl), (Nat.le_of_ble_eq_true rfl)⟩ (fun r6 hp => ?_)
    subst hp
    refine lv_icmp_lt (tgt := 22) S.1 S.2.1 dX0_pick_9 (by decide) (fun c9 => ?_) (fun c9 => ?_)
    · have hok : pickW v i0 = true := by simp [pickW, inI, c1, c9]
      obtain ⟨b, hb31, e0⟩ := nI_of c1
      rw [e0] at hl
      refine lv_lload_n S.1 S.2.1 dX0_pick_22 rfl (lv_at hl 1 rfl) ?_
      refine lv_lstore S.1 S.2.1 dX0_pick_23 hl (by decide) rfl (fun ls hl => ?_)
      refine lv_iconst (v := nI 0) S.1 S.2.1 dX0_pick_25 rfl ?_
      refine lv_istore S.1 S.2.1 dX0_pick_26 hl (by decide) rfl (fun ls hl => ?_)
      have loop : ∀ (k i : Nat), b - i < k → i ≤ b → ∀ (H : Heap) (locs : List Loc) (ls : Array Slot), CX loc n g (S0) s H locs → lv_has ls 7 [(0, .ref (loc 0)), (1, .long v), (3, .int (nI b)), (4, .long (lowF v i)), (6, .int (nI i))] → W p l e (rmL 7 1 6) s m ([.ref (loc 0), .long v, .int i0] : List Value).toArray below meth c H locs 0 0 (vx_MQ below (va_Qi (fun q S' => S' = S0 ∧ pickW v i0 = true ∧ q = ntzL (lowF v (ixN i0))) (fun S' t => HX loc n g S' t.heap) (ZA loc 21)) (Xc (HX loc n g) S0 (ZA loc 21) (fun E => E = nseS ∧ pickW v i0 = false)) ([.ref (loc 0), .long v, .int i0] : List Value).toArray s (rmL 7 1 6).cells (rmL 7 1 6).slots (ZA loc 21)) (F0 m 28 ls []) := by
        intro k
        induction k with
        | zero => intro i hk; omega
        | succ k ih =>
          intro i hk hi  H locs ls hC hl
          refine lv_iload S.1 S.2.1 dX0_pick_28 (lv_at hl 4 rfl) ?_
          refine lv_iload_n S.1 S.2.1 dX0_pick_30 rfl (lv_at hl 2 rfl) ?_
          refine n_icmp_ge (tgt := 49) S.1 S.2.1 dX0_pick_31 (by decide) (by omega) (by omega) (fun c31 => ?_) (fun c31 => ?_)
          · skip
            refine lv_lload S.1 S.2.1 dX0_pick_49 (lv_at hl 3 rfl) ?_
            refine s_calli S (c_J13_numberOfTrailingZeros_95d88 l _) cw_RX0_J13_numberOfTrailingZeros_95d88 ⟨rfl, rfl, by decide, by decide⟩ rfl hl.1 rfl (Nat.le_of_ble_eq_true rfl) dX0_pick_51 ⟨(Nat.le_of_ble_eq_true rfl), (Nat.le_of_ble_eq_true rfl)⟩ (fun r51 hp => ?_)
            subst hp
            exact vx_ret (o_iret S hr hlocks hC ⟨rfl, hok, by rw [e0, ixN_nI hb31, show b = i by omega]⟩ rfl dX0_pick_54 (Nat.le_of_ble_eq_true rfl) (Nat.le_of_ble_eq_true rfl))
          · skip
            refine lv_lload S.1 S.2.1 dX0_pick_34 (lv_at hl 3 rfl) ?_
            refine lv_lload S.1 S.2.1 dX0_pick_36 (lv_at hl 3 rfl) ?_
            refine lv_lconst (v := 1) S.1 S.2.1 dX0_pick_38 rfl ?_
            refine lv_lsub S.1 S.2.1 dX0_pick_39 ?_
            refine lv_land S.1 S.2.1 dX0_pick_40 ?_
            refine lv_lstore S.1 S.2.1 dX0_pick_41 hl (by decide) rfl (fun ls hl => ?_)
            refine lv_iinc (k := 4) S.1 S.2.1 dX0_pick_43 hl rfl (n_inc _) (by decide) rfl (fun ls hl => ?_)
            refine lv_goto (tgt := 28) S.1 S.2.1 dX0_pick_46 (by decide) ?_
            exact ih (i + 1) (by omega) (by omega) _ _ _ hC (lv_sub hl [2, 3, 4, 1, 0] rfl)
      exact loop (b + 1) 0 (by omega) (by omega) _ _ _ hC (lv_sub hl [2, 3, 4, 1, 0] rfl)
    · skip
      exact x_throw_nse (tx := "there are not so many") hs0 S hC (by decide) hnt hlocks hl.1 ⟨rfl, by simp [pickW, inI, c9]⟩ dX0_pick_12 dX0_pick_15 dX0_pick_16 dX0_pick_18 dX0_pick_21 ⟨(Nat.le_of_ble_eq_true rfl), (Nat.le_of_ble_eq_true rfl), (Nat.le_of_ble_eq_true rfl), (Nat.le_of_ble_eq_true rfl)⟩ ⟨(Nat.le_of_ble_eq_true rfl), (Nat.le_of_ble_eq_true rfl)⟩
def kindW (S : RS) (n : Nat) (x k : Int32) : Option String :=
  if inI x (nI n) = false then some iaeS else if k < 0 ∨ ¬ k ≤ nI 3 then some iaeS else if ¬ S.1 0 ≤ 0 then some iseS else none
set_option maxRecDepth 100000 in
set_option maxHeartbeats 4000000 in
theorem c_X0_kind (l : Launch) (hs0 : l.stackTraces = false) {loc : Nat → Nat} {n : Nat} {g : Gc} (hn : n ≤ 40) {S0 : RS} (x k : Int32) : TXi l yX0_kind cX0_kind 4 (some .int) (rmL 9 8 48) loc n g S0 [.int x, .int k] (fun v S' => S' = sA S0 0 (ixN x) k ∧ kindW S0 n x k = none ∧ v = S0.2.1 0 (ixN x)) (fun E => kindW S0 n x k = some E) := by
  refine o_enterx (by decide) (Nat.le_of_ble_eq_true rfl) ?_
  intro p e s m below meth c ls S hr hlocks hnt hC hl
  refine lv_aload_n S.1 S.2.1 dX0_kind_0 rfl (lv_at hl 0 rfl) ?_
  refine lv_iload_n S.1 S.2.1 dX0_kind_1 rfl (lv_at hl 1 rfl) ?_
  refine o_xcallv oiX S hC (c_X0_needThing l hs0 hn x) cw_RX0_X0_needThing ⟨rfl, rfl, by decide, by decide⟩ rfl hl.1 rfl (Nat.le_of_ble_eq_true rfl) dX0_kind_2 ⟨(Nat.le_of_ble_eq_true rfl), (Nat.le_of_ble_eq_true rfl)⟩ hnt hlocks ⟨(Nat.le_of_ble_eq_true rfl), (Nat.le_of_ble_eq_true rfl)⟩ (fun E h => by simp [kindW, h.1, h.2]) (fun S1 H locs hp hC1 => ?_)
  obtain ⟨e1, hp⟩ := hp
  rw [e1] at hC1; replace hC := hC1
  have h1 := hp
  obtain ⟨a, ha, rfl⟩ := inI_t (by omega) h1
  have ea : ixN (nI a) = a := ixN_nI (by omega)
  refine lv_iload_n S.1 S.2.1 dX0_kind_5 rfl (lv_at hl 2 rfl) ?_
  refine lv_if_lt (tgt := 14) S.1 S.2.1 dX0_kind_6 (by decide) (fun c6 => ?_) (fun c6 => ?_)
  · skip
    exact x_throw_iae (tx := "no such kind") hs0 S hC (by decide) hnt hlocks hl.1 (by simp [kindW, h1, c6]) dX0_kind_14 dX0_kind_17 dX0_kind_18 dX0_kind_20 dX0_kind_23 ⟨(Nat.le_of_ble_eq_true rfl), (Nat.le_of_ble_eq_true rfl), (Nat.le_of_ble_eq_true rfl), (Nat.le_of_ble_eq_true rfl)⟩ ⟨(Nat.le_of_ble_eq_true rfl), (Nat.le_of_ble_eq_true rfl)⟩
  · skip
    refine lv_iload_n S.1 S.2.1 dX0_kind_9 rfl (lv_at hl 2 rfl) ?_
    refine lv_iconst (v := nI 3) S.1 S.2.1 dX0_kind_10 rfl ?_
    refine lv_icmp_le (tgt := 24) S.1 S.2.1 dX0_kind_11 (by decide) (fun c11 => ?_) (fun c11 => ?_)
    · skip
      refine lv_aload_n S.1 S.2.1 dX0_kind_24 rfl (lv_at hl 0 rfl) ?_
      refine x_get_relations S hC dX0_kind_25 ?_
      refine lv_if_le (tgt := 41) S.1 S.2.1 dX0_kind_28 (by decide) (fun c28 => ?_) (fun c28 => ?_)
      · skip
        refine lv_aload_n S.1 S.2.1 dX0_kind_41 rfl (lv_at hl 0 rfl) ?_
        refine x_get_kinds S hC dX0_kind_42 ?_
        refine lv_iload_n S.1 S.2.1 dX0_kind_45 rfl (lv_at hl 1 rfl) ?_
        refine x_ild S hC hn 0 (by decide) ha dX0_kind_46 ?_
        refine lv_istore_n S.1 S.2.1 dX0_kind_47 rfl hl (by decide) rfl (fun ls hl => ?_)
        refine lv_aload_n S.1 S.2.1 dX0_kind_48 rfl (lv_at hl 1 rfl) ?_
        refine x_get_kinds S hC dX0_kind_49 ?_
        refine lv_iload_n S.1 S.2.1 dX0_kind_52 rfl (lv_at hl 2 rfl) ?_
        refine lv_iload_n S.1 S.2.1 dX0_kind_53 rfl (lv_at hl 3 rfl) ?_
        refine x_ist S hC hn 0 (by decide) ha dX0_kind_54 (fun H locs hC => ?_)
        refine lv_iload_n S.1 S.2.1 dX0_kind_55 rfl (lv_at hl 0 rfl) ?_
        exact vx_ret (o_iret S hr hlocks hC ⟨by rw [ea], by simp [kindW, h1, c6, c11, c28], by rw [ea]⟩ rfl dX0_kind_56 (Nat.le_of_ble_eq_true rfl) (Nat.le_of_ble_eq_true rfl))
      · skip
        exact x_throw_ise (tx := "there are relations already") hs0 S hC (by decide) hnt hlocks hl.1 (by simp [kindW, h1, c6, c11, c28]) dX0_kind_31 dX0_kind_34 dX0_kind_35 dX0_kind_37 dX0_kind_40 ⟨(Nat.le_of_ble_eq_true rfl), (Nat.le_of_ble_eq_true rfl), (Nat.le_of_ble_eq_true rfl), (Nat.le_of_ble_eq_true rfl)⟩ ⟨(Nat.le_of_ble_eq_true rfl), (Nat.le_of_ble_eq_true rfl)⟩
    · skip
      exact x_throw_iae (tx := "no such kind") hs0 S hC (by decide) hnt hlocks hl.1 (by simp [kindW, h1, c11]) dX0_kind_14 dX0_kind_17 dX0_kind_18 dX0_kind_20 dX0_kind_23 ⟨(Nat.le_of_ble_eq_true rfl), (Nat.le_of_ble_eq_true rfl), (Nat.le_of_ble_eq_true rfl), (Nat.le_of_ble_eq_true rfl)⟩ ⟨(Nat.le_of_ble_eq_true rfl), (Nat.le_of_ble_eq_true rfl)⟩
def relW (S : RS) (f x y : Int32) : Option String :=
  if f < 0 ∨ ¬ f ≤ nI 6 then some iaeS else if kOk x = false then some iaeS else if kOk y = false then some iaeS else if ¬ f < nI 4 ∧ ¬ x = y then some iaeS else if xFull S = true then some iseS else none
set_option maxRecDepth 100000 in
set_option maxHeartbeats 4000000 in
theorem c_X0_relation (l : Launch) (hs0 : l.stackTraces = false) {loc : Nat → Nat} {n : Nat} {g : Gc} (hn : n ≤ 40) {S0 : RS} {R : Nat} (hR : R ≤ 12) (hrel : S0.1 0 = nI R) (f x y : Int32) : TXi l yX0_relation cX0_relation 5 (some .int) (rmL 9 8 48) loc n g S0 [.int f, .int x, .int y] (fun v S' => S' = startF (addRel S0 R f x y) R n ∧ relW S0 f x y = none ∧ v = nI R) (fun E => relW S0 f x y = some E) := by
  refine o_enterx (by decide) (Nat.le_of_ble_eq_true rfl) ?_
  intro p e s m below meth c ls S hr hlocks hnt hC hl
  refine lv_iload_n S.1 S.2.1 dX0_relation_0 rfl (lv_at hl 1 rfl) ?_
  refine lv_if_lt (tgt := 10) S.1 S.2.1 dX0_relation_1 (by decide) (fun c1 => ?_) (fun c1 => ?_)
  · skip
    exact x_throw_iae (tx := "no such form") hs0 S hC (by decide) hnt hlocks hl.1 (by simp [relW, c1]) dX0_relation_10 dX0_relation_13 dX0_relation_14 dX0_relation_16 dX0_relation_19 ⟨(Nat.le_of_ble_eq_true rfl), (Nat.le_of_ble_eq_true rfl), (Nat.le_of_ble_eq_true rfl), (Nat.le_of_ble_eq_true rfl)⟩ ⟨(Nat.le_of_ble_eq_true rfl), (Nat.le_of_ble_eq_true rfl)⟩
  · skip
    refine lv_iload_n S.1 S.2.1 dX0_relation_4 rfl (lv_at hl 1 rfl) ?_
    refine lv_bipush (v := nI 6) S.1 S.2.1 dX0_relation_5 rfl ?_
    refine lv_icmp_le (tgt := 20) S.1 S.2.1 dX0_relation_7 (by decide) (fun c7 => ?_) (fun c7 => ?_)
    · skip
      refine lv_aload_n S.1 S.2.1 dX0_relation_20 rfl (lv_at hl 0 rfl) ?_
      refine lv_iload_n S.1 S.2.1 dX0_relation_21 rfl (lv_at hl 2 rfl) ?_
      refine o_xcallv oiX S hC (c_X0_needKindOrNone l hs0 hn x) cw_RX0_X0_needKindOrNone ⟨rfl, rfl, by decide, by decide⟩ rfl hl.1 rfl (Nat.le_of_ble_eq_true rfl) dX0_relation_22 ⟨(Nat.le_of_ble_eq_true rfl), (Nat.le_of_ble_eq_true rfl)⟩ hnt hlocks ⟨(Nat.le_of_ble_eq_true rfl), (Nat.le_of_ble_eq_true rfl)⟩ (fun E h => by simp [relW, c1, c7, h.1, h.2]) (fun S1 H locs hp hC1 => ?_)
      obtain ⟨e1, hp⟩ := hp
      rw [e1] at hC1; replace hC := hC1
      have h1 := hp
      refine lv_aload_n S.1 S.2.1 dX0_relation_25 rfl (lv_at hl 0 rfl) ?_
      refine lv_iload_n S.1 S.2.1 dX0_relation_26 rfl (lv_at hl 3 rfl) ?_
      refine o_xcallv oiX S hC (c_X0_needKindOrNone l hs0 hn y) cw_RX0_X0_needKindOrNone ⟨rfl, rfl, by decide, by decide⟩ rfl hl.1 rfl (Nat.le_of_ble_eq_true rfl) dX0_relation_27 ⟨(Nat.le_of_ble_eq_true rfl), (Nat.le_of_ble_eq_true rfl)⟩ hnt hlocks ⟨(Nat.le_of_ble_eq_true rfl), (Nat.le_of_ble_eq_true rfl)⟩ (fun E h => by simp [relW, c1, c7, h1, h.1, h.2]) (fun S1 H locs hp hC1 => ?_)
      obtain ⟨e1, hp⟩ := hp
      rw [e1] at hC1; replace hC := hC1
      have h2 := hp
      refine lv_iload_n S.1 S.2.1 dX0_relation_30 rfl (lv_at hl 1 rfl) ?_
      refine lv_iconst (v := nI 4) S.1 S.2.1 dX0_relation_31 rfl ?_
      refine lv_icmp_lt (tgt := 50) S.1 S.2.1 dX0_relation_32 (by decide) (fun c32 => ?_) (fun c32 => ?_)
      · skip
        refine lv_aload_n S.1 S.2.1 dX0_relation_50 rfl (lv_at hl 0 rfl) ?_
        refine o_xcallv oiX S hC (c_X0_needRoomForRelation l hs0 hn) cw_RX0_X0_needRoomForRelation ⟨rfl, rfl, by decide, by decide⟩ rfl hl.1 rfl (Nat.le_of_ble_eq_true rfl) dX0_relation_51 ⟨(Nat.le_of_ble_eq_true rfl), (Nat.le_of_ble_eq_true rfl)⟩ hnt hlocks ⟨(Nat.le_of_ble_eq_true rfl), (Nat.le_of_ble_eq_true rfl)⟩ (fun E h => by simp [relW, c1, c7, h1, h2, c32, h.1, h.2]) (fun S1 H locs hp hC1 => ?_)
        obtain ⟨e1, hp⟩ := hp
        rw [e1] at hC1; replace hC := hC1
        have h3 := hp
        have hR12 : R < 12 := by simp only [xFull, decide_eq_false_iff_not, Classical.not_not, hrel] at h3; exact (nI_ltI (by omega) (by omega)).mp h3
        refine lv_aload_n S.1 S.2.1 dX0_relation_54 rfl (lv_at hl 0 rfl) ?_
        refine lv_iload_n S.1 S.2.1 dX0_relation_55 rfl (lv_at hl 1 rfl) ?_
        refine lv_iload_n S.1 S.2.1 dX0_relation_56 rfl (lv_at hl 2 rfl) ?_
        refine lv_iload_n S.1 S.2.1 dX0_relation_57 rfl (lv_at hl 3 rfl) ?_
        refine o_calli oiX S hC (c_X0_addRelation l hn hR12 hrel f x y) cw_RX0_X0_addRelation ⟨rfl, rfl, by decide, by decide⟩ rfl hl.1 rfl (Nat.le_of_ble_eq_true rfl) dX0_relation_58 ⟨(Nat.le_of_ble_eq_true rfl), (Nat.le_of_ble_eq_true rfl)⟩ (fun r58 S1 H locs hp hC1 => ?_)
        obtain ⟨e1, hp⟩ := hp
        rw [e1] at hC1; replace hC := hC1
        subst hp
        refine lv_istore S.1 S.2.1 dX0_relation_61 hl (by decide) rfl (fun ls hl => ?_)
        refine lv_aload_n S.1 S.2.1 dX0_relation_63 rfl (lv_at hl 1 rfl) ?_
        refine lv_iload S.1 S.2.1 dX0_relation_64 (lv_at hl 0 rfl) ?_
        refine o_callv oiX S hC (c_X0_startRows l hn hR12) cw_RX0_X0_startRows ⟨rfl, rfl, by decide, by decide⟩ rfl hl.1 rfl (Nat.le_of_ble_eq_true rfl) dX0_relation_66 ⟨(Nat.le_of_ble_eq_true rfl), (Nat.le_of_ble_eq_true rfl)⟩ (fun S1 H locs hp hC1 => ?_)
        have e1 := hp
        rw [e1] at hC1; replace hC := hC1
        refine lv_iload S.1 S.2.1 dX0_relation_69 (lv_at hl 0 rfl) ?_
        exact vx_ret (o_iret S hr hlocks hC ⟨rfl, by simp [relW, c1, c7, h1, h2, c32, h3], rfl⟩ rfl dX0_relation_71 (Nat.le_of_ble_eq_true rfl) (Nat.le_of_ble_eq_true rfl))
      · skip
        refine lv_iload_n S.1 S.2.1 dX0_relation_35 rfl (lv_at hl 2 rfl) ?_
        refine lv_iload_n S.1 S.2.1 dX0_relation_36 rfl (lv_at hl 3 rfl) ?_
        refine lv_icmp_eq (tgt := 50) S.1 S.2.1 dX0_relation_37 (by decide) (fun c37 => ?_) (fun c37 => ?_)
        · skip
          refine lv_aload_n S.1 S.2.1 dX0_relation_50 rfl (lv_at hl 0 rfl) ?_
          refine o_xcallv oiX S hC (c_X0_needRoomForRelation l hs0 hn) cw_RX0_X0_needRoomForRelation ⟨rfl, rfl, by decide, by decide⟩ rfl hl.1 rfl (Nat.le_of_ble_eq_true rfl) dX0_relation_51 ⟨(Nat.le_of_ble_eq_true rfl), (Nat.le_of_ble_eq_true rfl)⟩ hnt hlocks ⟨(Nat.le_of_ble_eq_true rfl), (Nat.le_of_ble_eq_true rfl)⟩ (fun E h => by simp [relW, c1, c7, h1, h2, c37, h.1, h.2]) (fun S1 H locs hp hC1 => ?_)
          obtain ⟨e1, hp⟩ := hp
          rw [e1] at hC1; replace hC := hC1
          have h3 := hp
          have hR12 : R < 12 := by simp only [xFull, decide_eq_false_iff_not, Classical.not_not, hrel] at h3; exact (nI_ltI (by omega) (by omega)).mp h3
          refine lv_aload_n S.1 S.2.1 dX0_relation_54 rfl (lv_at hl 0 rfl) ?_
          refine lv_iload_n S.1 S.2.1 dX0_relation_55 rfl (lv_at hl 1 rfl) ?_
          refine lv_iload_n S.1 S.2.1 dX0_relation_56 rfl (lv_at hl 2 rfl) ?_
          refine lv_iload_n S.1 S.2.1 dX0_relation_57 rfl (lv_at hl 3 rfl) ?_
          refine o_calli oiX S hC (c_X0_addRelation l hn hR12 hrel f x y) cw_RX0_X0_addRelation ⟨rfl, rfl, by decide, by decide⟩ rfl hl.1 rfl (Nat.le_of_ble_eq_true rfl) dX0_relation_58 ⟨(Nat.le_of_ble_eq_true rfl), (Nat.le_of_ble_eq_true rfl)⟩ (fun r58 S1 H locs hp hC1 => ?_)
          obtain ⟨e1, hp⟩ := hp
          rw [e1] at hC1; replace hC := hC1
          subst hp
          refine lv_istore S.1 S.2.1 dX0_relation_61 hl (by decide) rfl (fun ls hl => ?_)
          refine lv_aload_n S.1 S.2.1 dX0_relation_63 rfl (lv_at hl 1 rfl) ?_
          refine lv_iload S.1 S.2.1 dX0_relation_64 (lv_at hl 0 rfl) ?_
          refine o_callv oiX S hC (c_X0_startRows l hn hR12) cw_RX0_X0_startRows ⟨rfl, rfl, by decide, by decide⟩ rfl hl.1 rfl (Nat.le_of_ble_eq_true rfl) dX0_relation_66 ⟨(Nat.le_of_ble_eq_true rfl), (Nat.le_of_ble_eq_true rfl)⟩ (fun S1 H locs hp hC1 => ?_)
          have e1 := hp
          rw [e1] at hC1; replace hC := hC1
          refine lv_iload S.1 S.2.1 dX0_relation_69 (lv_at hl 0 rfl) ?_
          exact vx_ret (o_iret S hr hlocks hC ⟨rfl, by simp [relW, c1, c7, h1, h2, c37, h3], rfl⟩ rfl dX0_relation_71 (Nat.le_of_ble_eq_true rfl) (Nat.le_of_ble_eq_true rfl))
        · skip
          exact x_throw_iae (tx := "this form has like kinds") hs0 S hC (by decide) hnt hlocks hl.1 (by simp [relW, c1, c7, h1, h2, c32, c37]) dX0_relation_40 dX0_relation_43 dX0_relation_44 dX0_relation_46 dX0_relation_49 ⟨(Nat.le_of_ble_eq_true rfl), (Nat.le_of_ble_eq_true rfl), (Nat.le_of_ble_eq_true rfl), (Nat.le_of_ble_eq_true rfl)⟩ ⟨(Nat.le_of_ble_eq_true rfl), (Nat.le_of_ble_eq_true rfl)⟩
    · skip
      exact x_throw_iae (tx := "no such form") hs0 S hC (by decide) hnt hlocks hl.1 (by simp [relW, c7]) dX0_relation_10 dX0_relation_13 dX0_relation_14 dX0_relation_16 dX0_relation_19 ⟨(Nat.le_of_ble_eq_true rfl), (Nat.le_of_ble_eq_true rfl), (Nat.le_of_ble_eq_true rfl), (Nat.le_of_ble_eq_true rfl)⟩ ⟨(Nat.le_of_ble_eq_true rfl), (Nat.le_of_ble_eq_true rfl)⟩
def condW (S : RS) (c0 x y : Int32) : Option String :=
  if c0 < 0 ∨ ¬ c0 ≤ nI 5 then some iaeS else if inI x (S.1 0) = false then some iaeS else if two2 c0 = true ∧ inI y (S.1 0) = false then some iaeS else if two2 c0 = false ∧ ¬ y = -1 then some iaeS else if xFull S = true then some iseS else none
set_option maxRecDepth 100000 in
set_option maxHeartbeats 4000000 in
theorem c_X0_condition (l : Launch) (hs0 : l.stackTraces = false) {loc : Nat → Nat} {n : Nat} {g : Gc} (hn : n ≤ 40) {S0 : RS} {R : Nat} (hR : R ≤ 12) (hrel : S0.1 0 = nI R) (c0 x y : Int32) : TXi l yX0_condition cX0_condition 4 (some .int) (rmL 9 8 48) loc n g S0 [.int c0, .int x, .int y] (fun v S' => S' = addRel S0 R (nI 10 + c0) x y ∧ condW S0 c0 x y = none ∧ v = nI R) (fun E => condW S0 c0 x y = some E) := by
  refine o_enterx (by decide) (Nat.le_of_ble_eq_true rfl) ?_
  intro p e s m below meth c ls S hr hlocks hnt hC hl
  refine lv_iload_n S.1 S.2.1 dX0_condition_0 rfl (lv_at hl 1 rfl) ?_
  refine lv_if_lt (tgt := 9) S.1 S.2.1 dX0_condition_1 (by decide) (fun c1 => ?_) (fun c1 => ?_)
  · skip
    exact x_throw_iae (tx := "no such condition") hs0 S hC (by decide) hnt hlocks hl.1 (by simp [condW, c1]) dX0_condition_9 dX0_condition_12 dX0_condition_13 dX0_condition_15 dX0_condition_18 ⟨(Nat.le_of_ble_eq_true rfl), (Nat.le_of_ble_eq_true rfl), (Nat.le_of_ble_eq_true rfl), (Nat.le_of_ble_eq_true rfl)⟩ ⟨(Nat.le_of_ble_eq_true rfl), (Nat.le_of_ble_eq_true rfl)⟩
  · skip
    refine lv_iload_n S.1 S.2.1 dX0_condition_4 rfl (lv_at hl 1 rfl) ?_
    refine lv_iconst (v := nI 5) S.1 S.2.1 dX0_condition_5 rfl ?_
    refine lv_icmp_le (tgt := 19) S.1 S.2.1 dX0_condition_6 (by decide) (fun c6 => ?_) (fun c6 => ?_)
    · skip
      refine lv_aload_n S.1 S.2.1 dX0_condition_19 rfl (lv_at hl 0 rfl) ?_
      refine lv_iload_n S.1 S.2.1 dX0_condition_20 rfl (lv_at hl 2 rfl) ?_
      refine o_xcallv oiX S hC (c_X0_needRelation l hs0 hn x) cw_RX0_X0_needRelation ⟨rfl, rfl, by decide, by decide⟩ rfl hl.1 rfl (Nat.le_of_ble_eq_true rfl) dX0_condition_21 ⟨(Nat.le_of_ble_eq_true rfl), (Nat.le_of_ble_eq_true rfl)⟩ hnt hlocks ⟨(Nat.le_of_ble_eq_true rfl), (Nat.le_of_ble_eq_true rfl)⟩ (fun E h => by simp [condW, c1, c6, h.1, h.2]) (fun S1 H locs hp hC1 => ?_)
      obtain ⟨e1, hp⟩ := hp
      rw [e1] at hC1; replace hC := hC1
      have h1 := hp
      refine lv_iload_n S.1 S.2.1 dX0_condition_24 rfl (lv_at hl 1 rfl) ?_
      refine s_calli S (c_X0_takesTwo l c0) cw_RX0_X0_takesTwo ⟨rfl, rfl, by decide, by decide⟩ rfl hl.1 rfl (Nat.le_of_ble_eq_true rfl) dX0_condition_25 ⟨(Nat.le_of_ble_eq_true rfl), (Nat.le_of_ble_eq_true rfl)⟩ (fun r25 hp => ?_)
      subst hp
      refine b_if_eq (tgt := 39) S.1 S.2.1 dX0_condition_28 (by decide) (fun c28 => ?_) (fun c28 => ?_)
      · skip
        refine lv_iload_n S.1 S.2.1 dX0_condition_39 rfl (lv_at hl 3 rfl) ?_
        refine lv_iconst (v := -1) S.1 S.2.1 dX0_condition_40 rfl ?_
        refine lv_icmp_eq (tgt := 54) S.1 S.2.1 dX0_condition_41 (by decide) (fun c41 => ?_) (fun c41 => ?_)
        · skip
          refine lv_aload_n S.1 S.2.1 dX0_condition_54 rfl (lv_at hl 0 rfl) ?_
          refine o_xcallv oiX S hC (c_X0_needRoomForRelation l hs0 hn) cw_RX0_X0_needRoomForRelation ⟨rfl, rfl, by decide, by decide⟩ rfl hl.1 rfl (Nat.le_of_ble_eq_true rfl) dX0_condition_55 ⟨(Nat.le_of_ble_eq_true rfl), (Nat.le_of_ble_eq_true rfl)⟩ hnt hlocks ⟨(Nat.le_of_ble_eq_true rfl), (Nat.le_of_ble_eq_true rfl)⟩ (fun E h => by simp [condW, c1, c6, h1, c28, c41, h.1, h.2]) (fun S1 H locs hp hC1 => ?_)
          obtain ⟨e1, hp⟩ := hp
          rw [e1] at hC1; replace hC := hC1
          have h3 := hp
          have hR12 : R < 12 := by simp only [xFull, decide_eq_false_iff_not, Classical.not_not, hrel] at h3; exact (nI_ltI (by omega) (by omega)).mp h3
          refine lv_aload_n S.1 S.2.1 dX0_condition_58 rfl (lv_at hl 0 rfl) ?_
          refine lv_bipush (v := nI 10) S.1 S.2.1 dX0_condition_59 rfl ?_
          refine lv_iload_n S.1 S.2.1 dX0_condition_61 rfl (lv_at hl 1 rfl) ?_
          refine lv_iadd S.1 S.2.1 dX0_condition_62 ?_
          refine lv_iload_n S.1 S.2.1 dX0_condition_63 rfl (lv_at hl 2 rfl) ?_
          refine lv_iload_n S.1 S.2.1 dX0_condition_64 rfl (lv_at hl 3 rfl) ?_
          refine o_calli oiX S hC (c_X0_addRelation l hn hR12 hrel _ x y) cw_RX0_X0_addRelation ⟨rfl, rfl, by decide, by decide⟩ rfl hl.1 rfl (Nat.le_of_ble_eq_true rfl) dX0_condition_65 ⟨(Nat.le_of_ble_eq_true rfl), (Nat.le_of_ble_eq_true rfl)⟩ (fun r65 S1 H locs hp hC1 => ?_)
          obtain ⟨e1, hp⟩ := hp
          rw [e1] at hC1; replace hC := hC1
          subst hp
          exact vx_ret (o_iret S hr hlocks hC ⟨rfl, by simp [condW, c1, c6, h1, c28, c41, h3], rfl⟩ rfl dX0_condition_68 (Nat.le_of_ble_eq_true rfl) (Nat.le_of_ble_eq_true rfl))
        · skip
          exact x_throw_iae (tx := "one relation is enough") hs0 S hC (by decide) hnt hlocks hl.1 (by simp [condW, c1, c6, h1, c28, c41]) dX0_condition_44 dX0_condition_47 dX0_condition_48 dX0_condition_50 dX0_condition_53 ⟨(Nat.le_of_ble_eq_true rfl), (Nat.le_of_ble_eq_true rfl), (Nat.le_of_ble_eq_true rfl), (Nat.le_of_ble_eq_true rfl)⟩ ⟨(Nat.le_of_ble_eq_true rfl), (Nat.le_of_ble_eq_true rfl)⟩
      · skip
        refine lv_aload_n S.1 S.2.1 dX0_condition_31 rfl (lv_at hl 0 rfl) ?_
        refine lv_iload_n S.1 S.2.1 dX0_condition_32 rfl (lv_at hl 3 rfl) ?_
        refine o_xcallv oiX S hC (c_X0_needRelation l hs0 hn y) cw_RX0_X0_needRelation ⟨rfl, rfl, by decide, by decide⟩ rfl hl.1 rfl (Nat.le_of_ble_eq_true rfl) dX0_condition_33 ⟨(Nat.le_of_ble_eq_true rfl), (Nat.le_of_ble_eq_true rfl)⟩ hnt hlocks ⟨(Nat.le_of_ble_eq_true rfl), (Nat.le_of_ble_eq_true rfl)⟩ (fun E h => by simp [condW, c1, c6, h1, c28, h.1, h.2]) (fun S1 H locs hp hC1 => ?_)
        obtain ⟨e1, hp⟩ := hp
        rw [e1] at hC1; replace hC := hC1
        have h2 := hp
        refine lv_goto (tgt := 54) S.1 S.2.1 dX0_condition_36 (by decide) ?_
        refine lv_aload_n S.1 S.2.1 dX0_condition_54 rfl (lv_at hl 0 rfl) ?_
        refine o_xcallv oiX S hC (c_X0_needRoomForRelation l hs0 hn) cw_RX0_X0_needRoomForRelation ⟨rfl, rfl, by decide, by decide⟩ rfl hl.1 rfl (Nat.le_of_ble_eq_true rfl) dX0_condition_55 ⟨(Nat.le_of_ble_eq_true rfl), (Nat.le_of_ble_eq_true rfl)⟩ hnt hlocks ⟨(Nat.le_of_ble_eq_true rfl), (Nat.le_of_ble_eq_true rfl)⟩ (fun E h => by simp [condW, c1, c6, h1, c28, h2, h.1, h.2]) (fun S1 H locs hp hC1 => ?_)
        obtain ⟨e1, hp⟩ := hp
        rw [e1] at hC1; replace hC := hC1
        have h3 := hp
        have hR12 : R < 12 := by simp only [xFull, decide_eq_false_iff_not, Classical.not_not, hrel] at h3; exact (nI_ltI (by omega) (by omega)).mp h3
        refine lv_aload_n S.1 S.2.1 dX0_condition_58 rfl (lv_at hl 0 rfl) ?_
        refine lv_bipush (v := nI 10) S.1 S.2.1 dX0_condition_59 rfl ?_
        refine lv_iload_n S.1 S.2.1 dX0_condition_61 rfl (lv_at hl 1 rfl) ?_
        refine lv_iadd S.1 S.2.1 dX0_condition_62 ?_
        refine lv_iload_n S.1 S.2.1 dX0_condition_63 rfl (lv_at hl 2 rfl) ?_
        refine lv_iload_n S.1 S.2.1 dX0_condition_64 rfl (lv_at hl 3 rfl) ?_
        refine o_calli oiX S hC (c_X0_addRelation l hn hR12 hrel _ x y) cw_RX0_X0_addRelation ⟨rfl, rfl, by decide, by decide⟩ rfl hl.1 rfl (Nat.le_of_ble_eq_true rfl) dX0_condition_65 ⟨(Nat.le_of_ble_eq_true rfl), (Nat.le_of_ble_eq_true rfl)⟩ (fun r65 S1 H locs hp hC1 => ?_)
        obtain ⟨e1, hp⟩ := hp
        rw [e1] at hC1; replace hC := hC1
        subst hp
        exact vx_ret (o_iret S hr hlocks hC ⟨rfl, by simp [condW, c1, c6, h1, c28, h2, h3], rfl⟩ rfl dX0_condition_68 (Nat.le_of_ble_eq_true rfl) (Nat.le_of_ble_eq_true rfl))
    · skip
      exact x_throw_iae (tx := "no such condition") hs0 S hC (by decide) hnt hlocks hl.1 (by simp [condW, c6]) dX0_condition_9 dX0_condition_12 dX0_condition_13 dX0_condition_15 dX0_condition_18 ⟨(Nat.le_of_ble_eq_true rfl), (Nat.le_of_ble_eq_true rfl), (Nat.le_of_ble_eq_true rfl), (Nat.le_of_ble_eq_true rfl)⟩ ⟨(Nat.le_of_ble_eq_true rfl), (Nat.le_of_ble_eq_true rfl)⟩
