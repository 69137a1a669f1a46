def pOk (S : RS) : Prop := ∃ q, q ≤ 2 ∧ S.1 2 = nI q
theorem pushPF_ok {S : RS} (h : pOk S) (n r a b : Nat) : pOk (pushPF S n r a b) := by
  obtain ⟨q, hq, e⟩ := h
  unfold pushPF
  split
  · exact ⟨q, hq, by rw [(partF_1 S n r a b).1, e]⟩
  · rename_i hlt
    rw [e] at hlt
    have : q < 2 := Nat.not_le.mp fun h => hlt ((nI_leI (by omega) (by omega)).mpr h)
    refine ⟨q + 1, by omega, ?_⟩
    rw [e, ixN_nI (by omega)]
    rfl
def pushRF (S : RS) (n r a : Nat) : Nat → RS
  | 0 => S
  | k + 1 => if hX (pushRF S n r a k) r a k then pushPF (pushRF S n r a k) n r a k else pushRF S n r a k
def pushCF (S : RS) (n r b : Nat) : Nat → RS
  | 0 => S
  | k + 1 => if hX (pushCF S n r b k) r k b then pushPF (pushCF S n r b k) n r k b else pushCF S n r b k
theorem pushRF_ok {S : RS} (h : pOk S) (n r a : Nat) : ∀ k, pOk (pushRF S n r a k)
  | 0 => h
  | k + 1 => by
    unfold pushRF
    split
    · exact pushPF_ok (pushRF_ok h n r a k) _ _ _ _
    · exact pushRF_ok h n r a k
theorem pushCF_ok {S : RS} (h : pOk S) (n r b : Nat) : ∀ k, pOk (pushCF S n r b k)
  | 0 => h
  | k + 1 => by
    unfold pushCF
    split
    · exact pushPF_ok (pushCF_ok h n r b k) _ _ _ _
    · exact pushCF_ok h n r b k
set_option maxRecDepth 100000 in
set_option maxHeartbeats 4000000 in
theorem c_X0_pushRow (l : Launch) {loc : Nat → Nat} {n : Nat} {g : Gc} (hn : n ≤ 40) {S0 : RS} {r a : Nat} (hr12 : r < 12) (ha : a < n) (hp0 : pOk S0) : MXv l yX0_pushRow cX0_pushRow 4 none (rmL 5 0 0) loc n g S0 [.int (nI r), .int (nI a)] (fun S' => S' = pushRF S0 n r a n) := by
  refine o_enter (by decide) (Nat.le_of_ble_eq_true rfl) ?_
  intro p e s m below meth c ls S hr hlocks hC hl
  refine lv_iconst (v := nI 0) S.1 S.2.1 dX0_pushRow_0 rfl ?_
  refine lv_istore_n S.1 S.2.1 dX0_pushRow_1 rfl hl (by decide) rfl (fun ls hl => ?_)
  have loop : ∀ (k i : Nat), n - i < k → i ≤ n → ∀ (H : Heap) (locs : List Loc) (ls : Array Slot), CX loc n g (pushRF S0 n r a i) s H locs → lv_has ls 4 [(0, .ref (loc 0)), (1, .int (nI r)), (2, .int (nI a)), (3, .int (nI i))] → W p l e (rmL 5 0 0) s m ([.ref (loc 0), .int (nI r), .int (nI a)] : List Value).toArray below meth c H locs 0 0 (MQ below (va_Qv (fun S' => S' = pushRF S0 n r a n) (fun S' t => HX loc n g S' t.heap) (ZA loc 21)) ([.ref (loc 0), .int (nI r), .int (nI a)] : List Value).toArray s (rmL 5 0 0).cells (rmL 5 0 0).slots (ZA loc 21)) (F0 m 2 ls []) := by
    intro k
    induction k with
    | zero => intro i hk; omega
    | succ k ih =>
      intro i hk hi  H locs ls hC hl
      obtain ⟨q, hq, eq⟩ := pushRF_ok hp0 n r a i
      refine lv_iload_n S.1 S.2.1 dX0_pushRow_2 rfl (lv_at hl 3 rfl) ?_
      refine lv_aload_n S.1 S.2.1 dX0_pushRow_3 rfl (lv_at hl 0 rfl) ?_
      refine x_get_things S hC dX0_pushRow_4 ?_
      refine n_icmp_ge (tgt := 33) S.1 S.2.1 dX0_pushRow_7 (by decide) (by omega) (by omega) (fun c7 => ?_) (fun c7 => ?_)
      · skip
        exact o_vret S hr hlocks hC (by rw [show n = i by omega]) dX0_pushRow_33 (Nat.le_of_ble_eq_true rfl) (Nat.le_of_ble_eq_true rfl)
      · skip
        refine lv_aload_n S.1 S.2.1 dX0_pushRow_10 rfl (lv_at hl 0 rfl) ?_
        refine lv_iload_n S.1 S.2.1 dX0_pushRow_11 rfl (lv_at hl 1 rfl) ?_
        refine lv_iload_n S.1 S.2.1 dX0_pushRow_12 rfl (lv_at hl 2 rfl) ?_
        refine lv_iload_n S.1 S.2.1 dX0_pushRow_13 rfl (lv_at hl 3 rfl) ?_
        refine o_calli oiX S hC (c_X0_holds l hn hr12 ha (b := i) (by omega)) cw_RX0_X0_holds ⟨rfl, rfl, by decide, by decide⟩ rfl hl.1 rfl (Nat.le_of_ble_eq_true rfl) dX0_pushRow_14 ⟨(Nat.le_of_ble_eq_true rfl), (Nat.le_of_ble_eq_true rfl)⟩ (fun r14 S1 H locs hp hC1 => ?_)
        obtain ⟨e1, hp⟩ := hp
        rw [e1] at hC1; replace hC := hC1
        subst hp
        refine b_if_eq (tgt := 27) S.1 S.2.1 dX0_pushRow_17 (by decide) (fun c17 => ?_) (fun c17 => ?_)
        · skip
          refine lv_iinc (k := 3) S.1 S.2.1 dX0_pushRow_27 hl rfl (n_inc _) (by decide) rfl (fun ls hl => ?_)
          refine lv_goto (tgt := 2) S.1 S.2.1 dX0_pushRow_30 (by decide) ?_
          exact ih (i + 1) (by omega) (by omega) _ _ _ (by rw [pushRF, if_neg (by simp [c17])]; exact hC) (lv_sub hl [1, 2, 3, 0] rfl)
        · skip
          refine lv_aload_n S.1 S.2.1 dX0_pushRow_20 rfl (lv_at hl 0 rfl) ?_
          refine lv_iload_n S.1 S.2.1 dX0_pushRow_21 rfl (lv_at hl 1 rfl) ?_
          refine lv_iload_n S.1 S.2.1 dX0_pushRow_22 rfl (lv_at hl 2 rfl) ?_
          refine lv_iload_n S.1 S.2.1 dX0_pushRow_23 rfl (lv_at hl 3 rfl) ?_
          refine o_callv oiX S hC (c_X0_pushPair l hn hr12 ha (b := i) (by omega) hq eq) cw_RX0_X0_pushPair ⟨rfl, rfl, by decide, by decide⟩ rfl hl.1 rfl (Nat.le_of_ble_eq_true rfl) dX0_pushRow_24 ⟨(Nat.le_of_ble_eq_true rfl), (Nat.le_of_ble_eq_true rfl)⟩ (fun S1 H locs hp hC1 => ?_)
          have e1 := hp
          rw [e1] at hC1; replace hC := hC1
          refine lv_iinc (k := 3) S.1 S.2.1 dX0_pushRow_27 hl rfl (n_inc _) (by decide) rfl (fun ls hl => ?_)
          refine lv_goto (tgt := 2) S.1 S.2.1 dX0_pushRow_30 (by decide) ?_
          exact ih (i + 1) (by omega) (by omega) _ _ _ (by rw [pushRF, if_pos c17]; exact hC) (lv_sub hl [1, 2, 3, 0] rfl)
  exact loop (n + 1) 0 (by omega) (by omega) _ _ _ hC (lv_sub hl [1, 2, 3, 0] rfl)
set_option maxRecDepth 100000 in
set_option maxHeartbeats 4000000 in
theorem c_X0_pushColumn (l : Launch) {loc : Nat → Nat} {n : Nat} {g : Gc} (hn : n ≤ 40) {S0 : RS} {r b : Nat} (hr12 : r < 12) (hb : b < n) (hp0 : pOk S0) : MXv l yX0_pushColumn cX0_pushColumn 4 none (rmL 5 0 0) loc n g S0 [.int (nI r), .int (nI b)] (fun S' => S' = pushCF S0 n r b n) := by
  refine o_enter (by decide) (Nat.le_of_ble_eq_true rfl) ?_
  intro p e s m below meth c ls S hr hlocks hC hl
  refine lv_iconst (v := nI 0) S.1 S.2.1 dX0_pushColumn_0 rfl ?_
  refine lv_istore_n S.1 S.2.1 dX0_pushColumn_1 rfl hl (by decide) rfl (fun ls hl => ?_)
  have loop : ∀ (k i : Nat), n - i < k → i ≤ n → ∀ (H : Heap) (locs : List Loc) (ls : Array Slot), CX loc n g (pushCF S0 n r b i) s H locs → lv_has ls 4 [(0, .ref (loc 0)), (1, .int (nI r)), (2, .int (nI b)), (3, .int (nI i))] → W p l e (rmL 5 0 0) s m ([.ref (loc 0), .int (nI r), .int (nI b)] : List Value).toArray below meth c H locs 0 0 (MQ below (va_Qv (fun S' => S' = pushCF S0 n r b n) (fun S' t => HX loc n g S' t.heap) (ZA loc 21)) ([.ref (loc 0), .int (nI r), .int (nI b)] : List Value).toArray s (rmL 5 0 0).cells (rmL 5 0 0).slots (ZA loc 21)) (F0 m 2 ls []) := by
    intro k
    induction k with
    | zero => intro i hk; omega
    | succ k ih =>
      intro i hk hi  H locs ls hC hl
      obtain ⟨q, hq, eq⟩ := pushCF_ok hp0 n r b i
      refine lv_iload_n S.1 S.2.1 dX0_pushColumn_2 rfl (lv_at hl 3 rfl) ?_
      refine lv_aload_n S.1 S.2.1 dX0_pushColumn_3 rfl (lv_at hl 0 rfl) ?_
      refine x_get_things S hC dX0_pushColumn_4 ?_
      refine n_icmp_ge (tgt := 33) S.1 S.2.1 dX0_pushColumn_7 (by decide) (by omega) (by omega) (fun c7 => ?_) (fun c7 => ?_)
      · skip
        exact o_vret S hr hlocks hC (by rw [show n = i by omega]) dX0_pushColumn_33 (Nat.le_of_ble_eq_true rfl) (Nat.le_of_ble_eq_true rfl)
      · skip
        refine lv_aload_n S.1 S.2.1 dX0_pushColumn_10 rfl (lv_at hl 0 rfl) ?_
        refine lv_iload_n S.1 S.2.1 dX0_pushColumn_11 rfl (lv_at hl 1 rfl) ?_
        refine lv_iload_n S.1 S.2.1 dX0_pushColumn_12 rfl (lv_at hl 3 rfl) ?_
        refine lv_iload_n S.1 S.2.1 dX0_pushColumn_13 rfl (lv_at hl 2 rfl) ?_
        refine o_calli oiX S hC (c_X0_holds l hn hr12 (a := i) (by omega) hb) cw_RX0_X0_holds ⟨rfl, rfl, by decide, by decide⟩ rfl hl.1 rfl (Nat.le_of_ble_eq_true rfl) dX0_pushColumn_14 ⟨(Nat.le_of_ble_eq_true rfl), (Nat.le_of_ble_eq_true rfl)⟩ (fun r14 S1 H locs hp hC1 => ?_)
        obtain ⟨e1, hp⟩ := hp
        rw [e1] at hC1; replace hC := hC1
        subst hp
        refine b_if_eq (tgt := 27) S.1 S.2.1 dX0_pushColumn_17 (by decide) (fun c17 => ?_) (fun c17 => ?_)
        · skip
          refine lv_iinc (k := 3) S.1 S.2.1 dX0_pushColumn_27 hl rfl (n_inc _) (by decide) rfl (fun ls hl => ?_)
          refine lv_goto (tgt := 2) S.1 S.2.1 dX0_pushColumn_30 (by decide) ?_
          exact ih (i + 1) (by omega) (by omega) _ _ _ (by rw [pushCF, if_neg (by simp [c17])]; exact hC) (lv_sub hl [1, 2, 3, 0] rfl)
        · skip
          refine lv_aload_n S.1 S.2.1 dX0_pushColumn_20 rfl (lv_at hl 0 rfl) ?_
          refine lv_iload_n S.1 S.2.1 dX0_pushColumn_21 rfl (lv_at hl 1 rfl) ?_
          refine lv_iload_n S.1 S.2.1 dX0_pushColumn_22 rfl (lv_at hl 3 rfl) ?_
          refine lv_iload_n S.1 S.2.1 dX0_pushColumn_23 rfl (lv_at hl 2 rfl) ?_
          refine o_callv oiX S hC (c_X0_pushPair l hn hr12 (a := i) (by omega) hb hq eq) cw_RX0_X0_pushPair ⟨rfl, rfl, by decide, by decide⟩ rfl hl.1 rfl (Nat.le_of_ble_eq_true rfl) dX0_pushColumn_24 ⟨(Nat.le_of_ble_eq_true rfl), (Nat.le_of_ble_eq_true rfl)⟩ (fun S1 H locs hp hC1 => ?_)
          have e1 := hp
          rw [e1] at hC1; replace hC := hC1
          refine lv_iinc (k := 3) S.1 S.2.1 dX0_pushColumn_27 hl rfl (n_inc _) (by decide) rfl (fun ls hl => ?_)
          refine lv_goto (tgt := 2) S.1 S.2.1 dX0_pushColumn_30 (by decide) ?_
          exact ih (i + 1) (by omega) (by omega) _ _ _ (by rw [pushCF, if_pos c17]; exact hC) (lv_sub hl [1, 2, 3, 0] rfl)
  exact loop (n + 1) 0 (by omega) (by omega) _ _ _ hC (lv_sub hl [1, 2, 3, 0] rfl)
def pushOF (S : RS) (n r a b : Nat) : RS :=
  if S.2.1 2 r = nI 0 then pushCF (pushRF S n r a n) n r b n else if S.2.1 2 r = nI 1 then pushCF S n r b n else if S.2.1 2 r = nI 2 then pushRF S n r a n
  else if S.2.1 2 r = nI 4 then pushRF (pushRF S n r a n) n r b n else S
set_option maxRecDepth 100000 in
set_option maxHeartbeats 4000000 in
theorem c_X0_pushOut (l : Launch) {loc : Nat → Nat} {n : Nat} {g : Gc} (hn : n ≤ 40) {S0 : RS} {r a b : Nat} (hr12 : r < 12) (ha : a < n) (hb : b < n) (hp0 : pOk S0) : MXv l yX0_pushOut cX0_pushOut 4 none (rmL 6 0 0) loc n g S0 [.int (nI r), .int (nI a), .int (nI b)] (fun S' => S' = pushOF S0 n r a b) := by
  refine o_enter (by decide) (Nat.le_of_ble_eq_true rfl) ?_
  intro p e s m below meth c ls S hr hlocks hC hl
  refine lv_aload_n S.1 S.2.1 dX0_pushOut_0 rfl (lv_at hl 0 rfl) ?_
  refine x_get_forms S hC dX0_pushOut_1 ?_
  refine lv_iload_n S.1 S.2.1 dX0_pushOut_4 rfl (lv_at hl 1 rfl) ?_
  refine x_ild S hC hn 2 (by decide) hr12 dX0_pushOut_5 ?_
  have hsw6 := trivial
  by_cases h6_0 : S0.2.1 2 r = nI 0
  · refine lv_tableIn (off := 34) (tgt := 40) S.1 S.2.1 dX0_pushOut_6 (by rw [h6_0]; decide) (by rw [h6_0]; decide) (by rw [h6_0]; rfl) (by decide) ?_
    refine lv_aload_n S.1 S.2.1 dX0_pushOut_40 rfl (lv_at hl 0 rfl) ?_
    refine lv_iload_n S.1 S.2.1 dX0_pushOut_41 rfl (lv_at hl 1 rfl) ?_
    refine lv_iload_n S.1 S.2.1 dX0_pushOut_42 rfl (lv_at hl 2 rfl) ?_
    refine o_callv oiX S hC (c_X0_pushRow l hn hr12 ha hp0) cw_RX0_X0_pushRow ⟨rfl, rfl, by decide, by decide⟩ rfl hl.1 rfl (Nat.le_of_ble_eq_true rfl) dX0_pushOut_43 ⟨(Nat.le_of_ble_eq_true rfl), (Nat.le_of_ble_eq_true rfl)⟩ (fun S1 H locs hp hC1 => ?_)
    have e1 := hp
    rw [e1] at hC1; replace hC := hC1
    refine lv_aload_n S.1 S.2.1 dX0_pushOut_46 rfl (lv_at hl 0 rfl) ?_
    refine lv_iload_n S.1 S.2.1 dX0_pushOut_47 rfl (lv_at hl 1 rfl) ?_
    refine lv_iload_n S.1 S.2.1 dX0_pushOut_48 rfl (lv_at hl 3 rfl) ?_
    refine o_callv oiX S hC (c_X0_pushColumn l hn hr12 hb (pushRF_ok hp0 n r a n)) cw_RX0_X0_pushColumn ⟨rfl, rfl, by decide, by decide⟩ rfl hl.1 rfl (Nat.le_of_ble_eq_true rfl) dX0_pushOut_49 ⟨(Nat.le_of_ble_eq_true rfl), (Nat.le_of_ble_eq_true rfl)⟩ (fun S1 H locs hp hC1 => ?_)
    have e1 := hp
    rw [e1] at hC1; replace hC := hC1
    refine lv_goto (tgt := 88) S.1 S.2.1 dX0_pushOut_52 (by decide) ?_
    exact o_vret S hr hlocks hC (by rw [pushOF, if_pos h6_0]) dX0_pushOut_88 (Nat.le_of_ble_eq_true rfl) (Nat.le_of_ble_eq_true rfl)
  · skip
    by_cases h6_1 : S0.2.1 2 r = nI 1
    · refine lv_tableIn (off := 49) (tgt := 55) S.1 S.2.1 dX0_pushOut_6 (by rw [h6_1]; decide) (by rw [h6_1]; decide) (by rw [h6_1]; rfl) (by decide) ?_
      refine lv_aload_n S.1 S.2.1 dX0_pushOut_55 rfl (lv_at hl 0 rfl) ?_
      refine lv_iload_n S.1 S.2.1 dX0_pushOut_56 rfl (lv_at hl 1 rfl) ?_
      refine lv_iload_n S.1 S.2.1 dX0_pushOut_57 rfl (lv_at hl 3 rfl) ?_
      refine o_callv oiX S hC (c_X0_pushColumn l hn hr12 hb hp0) cw_RX0_X0_pushColumn ⟨rfl, rfl, by decide, by decide⟩ rfl hl.1 rfl (Nat.le_of_ble_eq_true rfl) dX0_pushOut_58 ⟨(Nat.le_of_ble_eq_true rfl), (Nat.le_of_ble_eq_true rfl)⟩ (fun S1 H locs hp hC1 => ?_)
      have e1 := hp
      rw [e1] at hC1; replace hC := hC1
      refine lv_goto (tgt := 88) S.1 S.2.1 dX0_pushOut_61 (by decide) ?_
      exact o_vret S hr hlocks hC (by rw [pushOF, if_neg h6_0, if_pos h6_1]) dX0_pushOut_88 (Nat.le_of_ble_eq_true rfl) (Nat.le_of_ble_eq_true rfl)
    · skip
      by_cases h6_2 : S0.2.1 2 r = nI 2
      · refine lv_tableIn (off := 58) (tgt := 64) S.1 S.2.1 dX0_pushOut_6 (by rw [h6_2]; decide) (by rw [h6_2]; decide) (by rw [h6_2]; rfl) (by decide) ?_
        refine lv_aload_n S.1 S.2.1 dX0_pushOut_64 rfl (lv_at hl 0 rfl) ?_
        refine lv_iload_n S.1 S.2.1 dX0_pushOut_65 rfl (lv_at hl 1 rfl) ?_
        refine lv_iload_n S.1 S.2.1 dX0_pushOut_66 rfl (lv_at hl 2 rfl) ?_
        refine o_callv oiX S hC (c_X0_pushRow l hn hr12 ha hp0) cw_RX0_X0_pushRow ⟨rfl, rfl, by decide, by decide⟩ rfl hl.1 rfl (Nat.le_of_ble_eq_true rfl) dX0_pushOut_67 ⟨(Nat.le_of_ble_eq_true rfl), (Nat.le_of_ble_eq_true rfl)⟩ (fun S1 H locs hp hC1 => ?_)
        have e1 := hp
        rw [e1] at hC1; replace hC := hC1
        refine lv_goto (tgt := 88) S.1 S.2.1 dX0_pushOut_70 (by decide) ?_
        exact o_vret S hr hlocks hC (by rw [pushOF, if_neg h6_0, if_neg h6_1, if_pos h6_2]) dX0_pushOut_88 (Nat.le_of_ble_eq_true rfl) (Nat.le_of_ble_eq_true rfl)
      · skip
        by_cases h6_3 : S0.2.1 2 r = nI 3
        · refine lv_tableIn (off := 82) (tgt := 88) S.1 S.2.1 dX0_pushOut_6 (by rw [h6_3]; decide) (by rw [h6_3]; decide) (by rw [h6_3]; rfl) (by decide) ?_
          exact o_vret S hr hlocks hC (by rw [pushOF, if_neg h6_0, if_neg h6_1, if_neg h6_2, if_neg (by rw [h6_3]; decide)]) dX0_pushOut_88 (Nat.le_of_ble_eq_true rfl) (Nat.le_of_ble_eq_true rfl)
        · skip
          by_cases h6_4 : S0.2.1 2 r = nI 4
          · refine lv_tableIn (off := 67) (tgt := 73) S.1 S.2.1 dX0_pushOut_6 (by rw [h6_4]; decide) (by rw [h6_4]; decide) (by rw [h6_4]; rfl) (by decide) ?_
            refine lv_aload_n S.1 S.2.1 dX0_pushOut_73 rfl (lv_at hl 0 rfl) ?_
            refine lv_iload_n S.1 S.2.1 dX0_pushOut_74 rfl (lv_at hl 1 rfl) ?_
            refine lv_iload_n S.1 S.2.1 dX0_pushOut_75 rfl (lv_at hl 2 rfl) ?_
            refine o_callv oiX S hC (c_X0_pushRow l hn hr12 ha hp0) cw_RX0_X0_pushRow ⟨rfl, rfl, by decide, by decide⟩ rfl hl.1 rfl (Nat.le_of_ble_eq_true rfl) dX0_pushOut_76 ⟨(Nat.le_of_ble_eq_true rfl), (Nat.le_of_ble_eq_true rfl)⟩ (fun S1 H locs hp hC1 => ?_)
            have e1 := hp
            rw [e1] at hC1; replace hC := hC1
            refine lv_aload_n S.1 S.2.1 dX0_pushOut_79 rfl (lv_at hl 0 rfl) ?_
            refine lv_iload_n S.1 S.2.1 dX0_pushOut_80 rfl (lv_at hl 1 rfl) ?_
            refine lv_iload_n S.1 S.2.1 dX0_pushOut_81 rfl (lv_at hl 3 rfl) ?_
            refine o_callv oiX S hC (c_X0_pushRow l hn hr12 hb (pushRF_ok hp0 n r a n)) cw_RX0_X0_pushRow ⟨rfl, rfl, by decide, by decide⟩ rfl hl.1 rfl (Nat.le_of_ble_eq_true rfl) dX0_pushOut_82 ⟨(Nat.le_of_ble_eq_true rfl), (Nat.le_of_ble_eq_true rfl)⟩ (fun S1 H locs hp hC1 => ?_)
            have e1 := hp
            rw [e1] at hC1; replace hC := hC1
            refine lv_goto (tgt := 88) S.1 S.2.1 dX0_pushOut_85 (by decide) ?_
            exact o_vret S hr hlocks hC (by rw [pushOF, if_neg h6_0, if_neg h6_1, if_neg h6_2, if_pos h6_4]) dX0_pushOut_88 (Nat.le_of_ble_eq_true rfl) (Nat.le_of_ble_eq_true rfl)
          · skip
            refine lv_tableOut (tgt := 88) S.1 S.2.1 dX0_pushOut_6 (tsw_out 4 (fun j hj => by rcases (show j = 0 ∨ j = 1 ∨ j = 2 ∨ j = 3 ∨ j = 4 by omega) with rfl | rfl | rfl | rfl | rfl <;> assumption)) (by decide) ?_
            exact o_vret S hr hlocks hC (by rw [pushOF, if_neg h6_0, if_neg h6_1, if_neg h6_2, if_neg h6_4]) dX0_pushOut_88 (Nat.le_of_ble_eq_true rfl) (Nat.le_of_ble_eq_true rfl)
def thrF (S : RS) (r s a : Nat) : Nat → Int64
  | 0 => 0
  | k + 1 => if hX S r a k then thrF S r s a k ||| S.2.2 s k else thrF S r s a k
set_option maxRecDepth 100000 in
set_option maxHeartbeats 4000000 in
theorem c_X0_rowThrough (l : Launch) {loc : Nat → Nat} {n : Nat} {g : Gc} (hn : n ≤ 40) {S0 : RS} {r t a : Nat} (hr12 : r < 12) (ht12 : t < 12) (ha : a < n) : MXl l yX0_rowThrough cX0_rowThrough 7 (some .long) (rmL 3 0 0) loc n g S0 [.int (nI r), .int (nI t), .int (nI a)] (fun v S' => S' = S0 ∧ v = thrF S0 r t a n) := by
  refine o_enter (by decide) (Nat.le_of_ble_eq_true rfl) ?_
  intro p e s m below meth c ls S hr hlocks hC hl
  refine lv_lconst (v := 0) S.1 S.2.1 dX0_rowThrough_0 rfl ?_
  refine lv_lstore S.1 S.2.1 dX0_rowThrough_1 hl (by decide) rfl (fun ls hl => ?_)
  refine lv_iconst (v := nI 0) S.1 S.2.1 dX0_rowThrough_3 rfl ?_
  refine lv_istore S.1 S.2.1 dX0_rowThrough_4 hl (by decide) rfl (fun ls hl => ?_)
  have loop : ∀ (k i : Nat), n - i < k → i ≤ n → ∀ (H : Heap) (locs : List Loc) (ls : Array Slot), CX loc n g (S0) s H locs → lv_has ls 7 [(0, .ref (loc 0)), (1, .int (nI r)), (2, .int (nI t)), (3, .int (nI a)), (4, .long (thrF S0 r t a i)), (6, .int (nI i))] → W p l e (rmL 3 0 0) s m ([.ref (loc 0), .int (nI r), .int (nI t), .int (nI a)] : List Value).toArray below meth c H locs 0 0 (MQ below (va_Ql (fun v S' => S' = S0 ∧ v = thrF S0 r t a n) (fun S' t => HX loc n g S' t.heap) (ZA loc 21)) ([.ref (loc 0), .int (nI r), .int (nI t), .int (nI a)] : List Value).toArray s (rmL 3 0 0).cells (rmL 3 0 0).slots (ZA loc 21)) (F0 m 6 ls []) := by
    intro k
    induction k with
    | zero => intro i hk; omega
    | succ k ih =>
      intro i hk hi  H locs ls hC hl
      refine lv_iload S.1 S.2.1 dX0_rowThrough_6 (lv_at hl 5 rfl) ?_
      refine lv_aload_n S.1 S.2.1 dX0_rowThrough_8 rfl (lv_at hl 0 rfl) ?_
      refine x_get_things S hC dX0_rowThrough_9 ?_
      refine n_icmp_ge (tgt := 46) S.1 S.2.1 dX0_rowThrough_12 (by decide) (by omega) (by omega) (fun c12 => ?_) (fun c12 => ?_)
      · skip
        refine lv_lload S.1 S.2.1 dX0_rowThrough_46 (lv_at hl 4 rfl) ?_
        exact o_lret S hr hlocks hC ⟨rfl, by rw [show n = i by omega]⟩ dX0_rowThrough_48 (Nat.le_of_ble_eq_true rfl) (Nat.le_of_ble_eq_true rfl)
      · skip
        refine lv_aload_n S.1 S.2.1 dX0_rowThrough_15 rfl (lv_at hl 0 rfl) ?_
        refine lv_iload_n S.1 S.2.1 dX0_rowThrough_16 rfl (lv_at hl 1 rfl) ?_
        refine lv_iload_n S.1 S.2.1 dX0_rowThrough_17 rfl (lv_at hl 3 rfl) ?_
        refine lv_iload S.1 S.2.1 dX0_rowThrough_18 (lv_at hl 5 rfl) ?_
        refine o_calli oiX S hC (c_X0_holds l hn hr12 ha (b := i) (by omega)) cw_RX0_X0_holds ⟨rfl, rfl, by decide, by decide⟩ rfl hl.1 rfl (Nat.le_of_ble_eq_true rfl) dX0_rowThrough_20 ⟨(Nat.le_of_ble_eq_true rfl), (Nat.le_of_ble_eq_true rfl)⟩ (fun r20 S1 H locs hp hC1 => ?_)
        obtain ⟨e1, hp⟩ := hp
        rw [e1] at hC1; replace hC := hC1
        subst hp
        refine b_if_eq (tgt := 40) S.1 S.2.1 dX0_rowThrough_23 (by decide) (fun c23 => ?_) (fun c23 => ?_)
        · skip
          refine lv_iinc (k := 5) S.1 S.2.1 dX0_rowThrough_40 hl rfl (n_inc _) (by decide) rfl (fun ls hl => ?_)
          refine lv_goto (tgt := 6) S.1 S.2.1 dX0_rowThrough_43 (by decide) ?_
          exact ih (i + 1) (by omega) (by omega) _ _ _ hC (by rw [thrF, if_neg (by simp [c23])]; exact lv_sub hl [1, 2, 3, 4, 5, 0] rfl)
        · skip
          refine lv_lload S.1 S.2.1 dX0_rowThrough_26 (lv_at hl 4 rfl) ?_
          refine lv_aload_n S.1 S.2.1 dX0_rowThrough_28 rfl (lv_at hl 0 rfl) ?_
          refine x_get_rows S hC dX0_rowThrough_29 ?_
          refine lv_iload_n S.1 S.2.1 dX0_rowThrough_32 rfl (lv_at hl 2 rfl) ?_
          refine x_aald S hC ht12 dX0_rowThrough_33 ?_
          refine lv_iload S.1 S.2.1 dX0_rowThrough_34 (lv_at hl 5 rfl) ?_
          refine x_lld S hC hn ht12 (show i < n by omega) dX0_rowThrough_36 ?_
          refine lv_lor S.1 S.2.1 dX0_rowThrough_37 ?_
          refine lv_lstore S.1 S.2.1 dX0_rowThrough_38 hl (by decide) rfl (fun ls hl => ?_)
          refine lv_iinc (k := 5) S.1 S.2.1 dX0_rowThrough_40 hl rfl (n_inc _) (by decide) rfl (fun ls hl => ?_)
          refine lv_goto (tgt := 6) S.1 S.2.1 dX0_rowThrough_43 (by decide) ?_
          exact ih (i + 1) (by omega) (by omega) _ _ _ hC (by rw [thrF, if_pos c23]; exact lv_sub hl [2, 3, 4, 5, 1, 0] rfl)
  exact loop (n + 1) 0 (by omega) (by omega) _ _ _ hC (lv_sub hl [2, 3, 4, 5, 1, 0] rfl)
def rowF (S : RS) (n : Nat) (c0 : Int32) (r t a : Nat) : Int64 :=
  if c0 = nI 0 then colF S r a n else if c0 = nI 1 then (S.2.2 r a ^^^ (-1)) &&& allL n else if c0 = nI 2 then S.2.2 r a &&& S.2.2 t a
  else if c0 = nI 3 then S.2.2 r a ||| S.2.2 t a else thrF S r t a n
set_option maxRecDepth 100000 in
set_option maxHeartbeats 4000000 in
theorem c_X0_rowBy (l : Launch) {loc : Nat → Nat} {n : Nat} {g : Gc} (hn : n ≤ 40) {S0 : RS} (c0 : Int32) {r a : Nat} {t0 : Int32} (hr12 : r < 12) (ht0 : ¬ c0 = nI 0 → ¬ c0 = nI 1 → ∃ t, t < 12 ∧ t0 = nI t) (ha : a < n) : MXl l yX0_rowBy cX0_rowBy 5 (some .long) (rmL 4 0 0) loc n g S0 [.int c0, .int (nI r), .int t0, .int (nI a)] (fun v S' => S' = S0 ∧ v = rowF S0 n c0 r (ixN t0) a) := by
  refine o_enter (by decide) (Nat.le_of_ble_eq_true rfl) ?_
  intro p e s m below meth c ls S hr hlocks hC hl
  refine lv_iload_n S.1 S.2.1 dX0_rowBy_0 rfl (lv_at hl 1 rfl) ?_
  have hsw1 := trivial
  by_cases h1_0 : c0 = nI 0
  · refine lv_tableIn (off := 31) (tgt := 32) S.1 S.2.1 dX0_rowBy_1 (by rw [h1_0]; decide) (by rw [h1_0]; decide) (by rw [h1_0]; rfl) (by decide) ?_
    refine lv_aload_n S.1 S.2.1 dX0_rowBy_32 rfl (lv_at hl 0 rfl) ?_
    refine lv_iload_n S.1 S.2.1 dX0_rowBy_33 rfl (lv_at hl 2 rfl) ?_
    refine lv_iload S.1 S.2.1 dX0_rowBy_34 (lv_at hl 4 rfl) ?_
    refine o_calll oiX S hC (c_X0_column l hn hr12 ha) cw_RX0_X0_column ⟨rfl, rfl, by decide, by decide⟩ rfl hl.1 rfl (Nat.le_of_ble_eq_true rfl) dX0_rowBy_36 ⟨(Nat.le_of_ble_eq_true rfl), (Nat.le_of_ble_eq_true rfl)⟩ (fun r36 S1 H locs hp hC1 => ?_)
    obtain ⟨e1, hp⟩ := hp
    rw [e1] at hC1; replace hC := hC1
    subst hp
    exact o_lret S hr hlocks hC ⟨rfl, by rw [rowF, if_pos h1_0]⟩ dX0_rowBy_39 (Nat.le_of_ble_eq_true rfl) (Nat.le_of_ble_eq_true rfl)
  · skip
    by_cases h1_1 : c0 = nI 1
    · refine lv_tableIn (off := 39) (tgt := 40) S.1 S.2.1 dX0_rowBy_1 (by rw [h1_1]; decide) (by rw [h1_1]; decide) (by rw [h1_1]; rfl) (by decide) ?_
      refine lv_aload_n S.1 S.2.1 dX0_rowBy_40 rfl (lv_at hl 0 rfl) ?_
      refine x_get_rows S hC dX0_rowBy_41 ?_
      refine lv_iload_n S.1 S.2.1 dX0_rowBy_44 rfl (lv_at hl 2 rfl) ?_
      refine x_aald S hC hr12 dX0_rowBy_45 ?_
      refine lv_iload S.1 S.2.1 dX0_rowBy_46 (lv_at hl 4 rfl) ?_
      refine x_lld S hC hn hr12 ha dX0_rowBy_48 ?_
      refine lv_ldc2 S.1 S.2.1 S.2.2.2.1 (S.2.2.2.2 _ w_92) dX0_rowBy_49 ?_
      refine lv_lxor S.1 S.2.1 dX0_rowBy_52 ?_
      refine lv_aload_n S.1 S.2.1 dX0_rowBy_53 rfl (lv_at hl 0 rfl) ?_
      refine x_get_allThings S hC dX0_rowBy_54 ?_
      refine lv_land S.1 S.2.1 dX0_rowBy_57 ?_
      exact o_lret S hr hlocks hC ⟨rfl, by rw [rowF, if_neg h1_0, if_pos h1_1]⟩ dX0_rowBy_58 (Nat.le_of_ble_eq_true rfl) (Nat.le_of_ble_eq_true rfl)
    · skip
      by_cases h1_2 : c0 = nI 2
      · refine lv_tableIn (off := 58) (tgt := 59) S.1 S.2.1 dX0_rowBy_1 (by rw [h1_2]; decide) (by rw [h1_2]; decide) (by rw [h1_2]; rfl) (by decide) ?_
        obtain ⟨t, ht12, rfl⟩ := ht0 h1_0 h1_1
        refine lv_aload_n S.1 S.2.1 dX0_rowBy_59 rfl (lv_at hl 0 rfl) ?_
        refine x_get_rows S hC dX0_rowBy_60 ?_
        refine lv_iload_n S.1 S.2.1 dX0_rowBy_63 rfl (lv_at hl 2 rfl) ?_
        refine x_aald S hC hr12 dX0_rowBy_64 ?_
        refine lv_iload S.1 S.2.1 dX0_rowBy_65 (lv_at hl 4 rfl) ?_
        refine x_lld S hC hn hr12 ha dX0_rowBy_67 ?_
        refine lv_aload_n S.1 S.2.1 dX0_rowBy_68 rfl (lv_at hl 0 rfl) ?_
        refine x_get_rows S hC dX0_rowBy_69 ?_
        refine lv_iload_n S.1 S.2.1 dX0_rowBy_72 rfl (lv_at hl 3 rfl) ?_
        refine x_aald S hC ht12 dX0_rowBy_73 ?_
        refine lv_iload S.1 S.2.1 dX0_rowBy_74 (lv_at hl 4 rfl) ?_
        refine x_lld S hC hn ht12 ha dX0_rowBy_76 ?_
        refine lv_land S.1 S.2.1 dX0_rowBy_77 ?_
        exact o_lret S hr hlocks hC ⟨rfl, by rw [rowF, if_neg h1_0, if_neg h1_1, if_pos h1_2, ixN_nI (show t < 2 ^ 31 by omega)]⟩ dX0_rowBy_78 (Nat.le_of_ble_eq_true rfl) (Nat.le_of_ble_eq_true rfl)
      · skip
        by_cases h1_3 : c0 = nI 3
        · refine lv_tableIn (off := 78) (tgt := 79) S.1 S.2.1 dX0_rowBy_1 (by rw [h1_3]; decide) (by rw [h1_3]; decide) (by rw [h1_3]; rfl) (by decide) ?_
          obtain ⟨t, ht12, rfl⟩ := ht0 h1_0 h1_1
          refine lv_aload_n S.1 S.2.1 dX0_rowBy_79 rfl (lv_at hl 0 rfl) ?_
          refine x_get_rows S hC dX0_rowBy_80 ?_
          refine lv_iload_n S.1 S.2.1 dX0_rowBy_83 rfl (lv_at hl 2 rfl) ?_
          refine x_aald S hC hr12 dX0_rowBy_84 ?_
          refine lv_iload S.1 S.2.1 dX0_rowBy_85 (lv_at hl 4 rfl) ?_
          refine x_lld S hC hn hr12 ha dX0_rowBy_87 ?_
          refine lv_aload_n S.1 S.2.1 dX0_rowBy_88 rfl (lv_at hl 0 rfl) ?_
          refine x_get_rows S hC dX0_rowBy_89 ?_
          refine lv_iload_n S.1 S.2.1 dX0_rowBy_92 rfl (lv_at hl 3 rfl) ?_
          refine x_aald S hC ht12 dX0_rowBy_93 ?_
          refine lv_iload S.1 S.2.1 dX0_rowBy_94 (lv_at hl 4 rfl) ?_
          refine x_lld S hC hn ht12 ha dX0_rowBy_96 ?_
          refine lv_lor S.1 S.2.1 dX0_rowBy_97 ?_
          exact o_lret S hr hlocks hC ⟨rfl, by rw [rowF, if_neg h1_0, if_neg h1_1, if_neg h1_2, if_pos h1_3, ixN_nI (show t < 2 ^ 31 by omega)]⟩ dX0_rowBy_98 (Nat.le_of_ble_eq_true rfl) (Nat.le_of_ble_eq_true rfl)
        · skip
          refine lv_tableOut (tgt := 99) S.1 S.2.1 dX0_rowBy_1 (tsw_out 3 (fun j hj => by rcases (show j = 0 ∨ j = 1 ∨ j = 2 ∨ j = 3 by omega) with rfl | rfl | rfl | rfl <;> assumption)) (by decide) ?_
          obtain ⟨t, ht12, rfl⟩ := ht0 h1_0 h1_1
          refine lv_aload_n S.1 S.2.1 dX0_rowBy_99 rfl (lv_at hl 0 rfl) ?_
          refine lv_iload_n S.1 S.2.1 dX0_rowBy_100 rfl (lv_at hl 2 rfl) ?_
          refine lv_iload_n S.1 S.2.1 dX0_rowBy_101 rfl (lv_at hl 3 rfl) ?_
          refine lv_iload S.1 S.2.1 dX0_rowBy_102 (lv_at hl 4 rfl) ?_
          refine o_calll oiX S hC (c_X0_rowThrough l hn hr12 ht12 ha) cw_RX0_X0_rowThrough ⟨rfl, rfl, by decide, by decide⟩ rfl hl.1 rfl (Nat.le_of_ble_eq_true rfl) dX0_rowBy_104 ⟨(Nat.le_of_ble_eq_true rfl), (Nat.le_of_ble_eq_true rfl)⟩ (fun r104 S1 H locs hp hC1 => ?_)
          obtain ⟨e1, hp⟩ := hp
          rw [e1] at hC1; replace hC := hC1
          subst hp
          exact o_lret S hr hlocks hC ⟨rfl, by rw [rowF, if_neg h1_0, if_neg h1_1, if_neg h1_2, if_neg h1_3, ixN_nI (show t < 2 ^ 31 by omega)]⟩ dX0_rowBy_107 (Nat.le_of_ble_eq_true rfl) (Nat.le_of_ble_eq_true rfl)
def nearG (S : RS) (r a : Nat) : Nat → Nat → Nat
  | 0, _ => a
  | k + 1, c => if hX S r a c ∧ S.2.1 7 c = S.2.1 7 a - nI 1 then c else nearG S r a k (c + 1)
set_option maxRecDepth 100000 in
set_option maxHeartbeats 4000000 in
theorem c_X0_stepNearer (l : Launch) {loc : Nat → Nat} {n : Nat} {g : Gc} (hn : n ≤ 40) {S0 : RS} {r a : Nat} (hr12 : r < 12) (ha : a < n) : MXi l yX0_stepNearer cX0_stepNearer 4 (some .int) (rmL 3 0 0) loc n g S0 [.int (nI r), .int (nI a)] (fun v S' => S' = S0 ∧ v = nI (nearG S0 r a n 0)) := by
  refine o_enter (by decide) (Nat.le_of_ble_eq_true rfl) ?_
  intro p e s m below meth c ls S hr hlocks hC hl
  refine lv_iconst (v := nI 0) S.1 S.2.1 dX0_stepNearer_0 rfl ?_
  refine lv_istore_n S.1 S.2.1 dX0_stepNearer_1 rfl hl (by decide) rfl (fun ls hl => ?_)
  have loop : ∀ (k i : Nat), n - i < k → i ≤ n → ∀ (hT : nearG S0 r a n 0 = nearG S0 r a (n - i) i), ∀ (H : Heap) (locs : List Loc) (ls : Array Slot), CX loc n g (S0) s H locs → lv_has ls 4 [(0, .ref (loc 0)), (1, .int (nI r)), (2, .int (nI a)), (3, .int (nI i))] → W p l e (rmL 3 0 0) s m ([.ref (loc 0), .int (nI r), .int (nI a)] : List Value).toArray below meth c H locs 0 0 (MQ below (va_Qi (fun v S' => S' = S0 ∧ v = nI (nearG S0 r a n 0)) (fun S' t => HX loc n g S' t.heap) (ZA loc 21)) ([.ref (loc 0), .int (nI r), .int (nI a)] : List Value).toArray s (rmL 3 0 0).cells (rmL 3 0 0).slots (ZA loc 21)) (F0 m 2 ls []) := by
    intro k
    induction k with
    | zero => intro i hk; omega
    | succ k ih =>
      intro i hk hi hT H locs ls hC hl
      refine lv_iload_n S.1 S.2.1 dX0_stepNearer_2 rfl (lv_at hl 3 rfl) ?_
      refine lv_aload_n S.1 S.2.1 dX0_stepNearer_3 rfl (lv_at hl 0 rfl) ?_
      refine x_get_things S hC dX0_stepNearer_4 ?_
      refine n_icmp_ge (tgt := 45) S.1 S.2.1 dX0_stepNearer_7 (by decide) (by omega) (by omega) (fun c7 => ?_) (fun c7 => ?_)
      · skip
        refine lv_iload_n S.1 S.2.1 dX0_stepNearer_45 rfl (lv_at hl 2 rfl) ?_
        exact o_iret S hr hlocks hC ⟨rfl, by rw [hT, show n - i = 0 by omega, nearG]⟩ rfl dX0_stepNearer_46 (Nat.le_of_ble_eq_true rfl) (Nat.le_of_ble_eq_true rfl)
      · skip
        refine lv_aload_n S.1 S.2.1 dX0_stepNearer_10 rfl (lv_at hl 0 rfl) ?_
        refine lv_iload_n S.1 S.2.1 dX0_stepNearer_11 rfl (lv_at hl 1 rfl) ?_
        refine lv_iload_n S.1 S.2.1 dX0_stepNearer_12 rfl (lv_at hl 2 rfl) ?_
        refine lv_iload_n S.1 S.2.1 dX0_stepNearer_13 rfl (lv_at hl 3 rfl) ?_
        refine o_calli oiX S hC (c_X0_holds l hn hr12 ha (b := i) (by omega)) cw_RX0_X0_holds ⟨rfl, rfl, by decide, by decide⟩ rfl hl.1 rfl (Nat.le_of_ble_eq_true rfl) dX0_stepNearer_14 ⟨(Nat.le_of_ble_eq_true rfl), (Nat.le_of_ble_eq_true rfl)⟩ (fun r14 S1 H locs hp hC1 => ?_)
        obtain ⟨e1, hp⟩ := hp
        rw [e1] at hC1; replace hC := hC1
        subst hp
        refine b_if_eq (tgt := 39) S.1 S.2.1 dX0_stepNearer_17 (by decide) (fun c17 => ?_) (fun c17 => ?_)
        · skip
          refine lv_iinc (k := 3) S.1 S.2.1 dX0_stepNearer_39 hl rfl (n_inc _) (by decide) rfl (fun ls hl => ?_)
          refine lv_goto (tgt := 2) S.1 S.2.1 dX0_stepNearer_42 (by decide) ?_
          exact ih (i + 1) (by omega) (by omega) (by rw [hT, show n - i = (n - (i + 1)) + 1 by omega, nearG, if_neg (by simp [c17])]) _ _ _ hC (lv_sub hl [1, 2, 3, 0] rfl)
        · skip
          refine lv_aload_n S.1 S.2.1 dX0_stepNearer_20 rfl (lv_at hl 0 rfl) ?_
          refine x_get_steps S hC dX0_stepNearer_21 ?_
          refine lv_iload_n S.1 S.2.1 dX0_stepNearer_24 rfl (lv_at hl 3 rfl) ?_
          refine x_ild S hC hn 7 (by decide) (show i < n by omega) dX0_stepNearer_25 ?_
          refine lv_aload_n S.1 S.2.1 dX0_stepNearer_26 rfl (lv_at hl 0 rfl) ?_
          refine x_get_steps S hC dX0_stepNearer_27 ?_
          refine lv_iload_n S.1 S.2.1 dX0_stepNearer_30 rfl (lv_at hl 2 rfl) ?_
          refine x_ild S hC hn 7 (by decide) ha dX0_stepNearer_31 ?_
          refine lv_iconst (v := nI 1) S.1 S.2.1 dX0_stepNearer_32 rfl ?_
          refine lv_isub S.1 S.2.1 dX0_stepNearer_33 ?_
          refine lv_icmp_ne (tgt := 39) S.1 S.2.1 dX0_stepNearer_34 (by decide) (fun c34 => ?_) (fun c34 => ?_)
          · skip
            refine lv_iinc (k := 3) S.1 S.2.1 dX0_stepNearer_39 hl rfl (n_inc _) (by decide) rfl (fun ls hl => ?_)
            refine lv_goto (tgt := 2) S.1 S.2.1 dX0_stepNearer_42 (by decide) ?_
            exact ih (i + 1) (by omega) (by omega) (by rw [hT, show n - i = (n - (i + 1)) + 1 by omega, nearG, if_neg (fun q => c34 q.2)]) _ _ _ hC (lv_sub hl [1, 2, 3, 0] rfl)
          · skip
            refine lv_iload_n S.1 S.2.1 dX0_stepNearer_37 rfl (lv_at hl 3 rfl) ?_
            exact o_iret S hr hlocks hC ⟨rfl, by rw [hT, show n - i = (n - (i + 1)) + 1 by omega, nearG, if_pos ⟨c17, c34⟩]⟩ rfl dX0_stepNearer_38 (Nat.le_of_ble_eq_true rfl) (Nat.le_of_ble_eq_true rfl)
  exact loop (n + 1) 0 (by omega) (by omega) rfl _ _ _ hC (lv_sub hl [1, 2, 3, 0] rfl)
