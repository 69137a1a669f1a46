theorem settW_none {S : RS} {n R : Nat} (hn : n ≤ 40) (hR : R ≤ 12) (hrel : S.1 0 = nI R) {x a b : Int32} (h : settW S n x a b = none) : ∃ r a' b', r < R ∧ a' < n ∧ b' < n ∧ x = nI r ∧ a = nI a' ∧ b = nI b' := by
  unfold settW at h
  by_cases h1 : inI x (S.1 0) = false
  · rw [if_pos h1] at h; cases h
  · rw [if_neg h1] at h
    by_cases h2 : inI a (nI n) = false
    · rw [if_pos h2] at h; cases h
    · rw [if_neg h2] at h
      by_cases h3 : inI b (nI n) = false
      · rw [if_pos h3] at h; cases h
      · rw [hrel] at h1
        obtain ⟨r, q1, q2⟩ := inI_t (by omega) (Bool.of_not_eq_false h1)
        obtain ⟨a', q3, q4⟩ := inI_t (by omega) (Bool.of_not_eq_false h2)
        obtain ⟨b', q5, q6⟩ := inI_t (by omega) (Bool.of_not_eq_false h3)
        exact ⟨r, a', b', q1, q3, q5, q2, q4, q6⟩
theorem pushRF_1 (S : RS) (n r a : Nat) : ∀ k, (pushRF S n r a k).1 1 = S.1 1
  | 0 => rfl
  | k + 1 => by
    have ih := pushRF_1 S n r a k
    unfold pushRF
    split
    · unfold pushPF
      split
      · rw [(partF_1 _ _ _ _ _).1]; exact ih
      · show (partF _ _ _ _ _).1 1 = _
        rw [(partF_1 _ _ _ _ _).1]; exact ih
    · exact ih
theorem pushCF_1 (S : RS) (n r b : Nat) : ∀ k, (pushCF S n r b k).1 1 = S.1 1
  | 0 => rfl
  | k + 1 => by
    have ih := pushCF_1 S n r b k
    unfold pushCF
    split
    · unfold pushPF
      split
      · rw [(partF_1 _ _ _ _ _).1]; exact ih
      · show (partF _ _ _ _ _).1 1 = _
        rw [(partF_1 _ _ _ _ _).1]; exact ih
    · exact ih
theorem pushOF_1 (S : RS) (n r a b : Nat) : (pushOF S n r a b).1 1 = S.1 1 := by
  unfold pushOF
  split
  · rw [pushCF_1, pushRF_1]
  · split
    · rw [pushCF_1]
    · split
      · rw [pushRF_1]
      · split
        · rw [pushRF_1, pushRF_1]
        · rfl
theorem joinF_1 (S : RS) (n r a b : Nat) : (joinF S n r a b).1 = S.1 := by
  unfold joinF
  split
  · exact (makeF_1 _ _ _ _).1
  · split <;> rfl
def talF (S : RS) (n a b : Nat) : RS := sA (sI S 2 (nI 0)) 1 (a * n + b) (S.2.1 1 (a * n + b) + nI 1)
def setC (S : RS) (n t r a b : Nat) : RS := if hX (talF S n a b) r a b then talF S n a b else sI (joinF (pushOF (talF S n a b) n r a b) n r a b) 1 (nI (min t (r + 1)))
theorem idx_lt {a b n : Nat} (ha : a < n) (hb : b < n) : a * n + b < n * n := by
  have h1 : a * n + n ≤ n * n := by
    rw [show a * n + n = (a + 1) * n by rw [Nat.succ_mul]]
    exact Nat.mul_le_mul_right n ha
  omega
set_option maxRecDepth 100000 in
set_option maxHeartbeats 4000000 in
theorem c_X0_set (l : Launch) (hs0 : l.stackTraces = false) {loc : Nat → Nat} {n : Nat} {g : Gc} (hn : n ≤ 40) {S0 : RS} {R : Nat} (hR : R ≤ 12) (hrel : S0.1 0 = nI R) {t : Nat} (ht12 : t ≤ 12) (ht : S0.1 1 = nI t) (x a b : Int32) : TXi l yX0_set cX0_set 4 (some .int) (rmL 9 8 48) loc n g S0 [.int x, .int a, .int b] (fun v S' => S' = setC S0 n t (ixN x) (ixN a) (ixN b) ∧ settW S0 n x a b = none ∧ v = S'.1 2) (fun E => settW S0 n x a b = some E) := by
  refine o_enterx (by decide) (Nat.le_of_ble_eq_true rfl) ?_
  intro p e s m below meth c ls S hr hlocks hnt hC hl
  refine lv_aload_n S.1 S.2.1 dX0_set_0 rfl (lv_at hl 0 rfl) ?_
  refine lv_iload_n S.1 S.2.1 dX0_set_1 rfl (lv_at hl 1 rfl) ?_
  refine lv_iload_n S.1 S.2.1 dX0_set_2 rfl (lv_at hl 2 rfl) ?_
  refine lv_iload_n S.1 S.2.1 dX0_set_3 rfl (lv_at hl 3 rfl) ?_
  refine o_xcallv oiX S hC (c_X0_needSettable l hs0 hn hR hrel x a b) cw_RX0_X0_needSettable ⟨rfl, rfl, by decide, by decide⟩ rfl hl.1 rfl (Nat.le_of_ble_eq_true rfl) dX0_set_4 ⟨(Nat.le_of_ble_eq_true rfl), (Nat.le_of_ble_eq_true rfl)⟩ hnt hlocks ⟨(Nat.le_of_ble_eq_true rfl), (Nat.le_of_ble_eq_true rfl)⟩ (fun E h => h) (fun S1 H locs hp hC1 => ?_)
  obtain ⟨e1, hp⟩ := hp
  rw [e1] at hC1; replace hC := hC1
  have h0 := hp
  obtain ⟨r, a, b, hrR, ha, hb, rfl, rfl, rfl⟩ := settW_none hn hR hrel h0
  have er : ixN (nI r) = r := ixN_nI (by omega)
  have ea : ixN (nI a) = a := ixN_nI (by omega)
  have eb : ixN (nI b) = b := ixN_nI (by omega)
  have hr12 : r < 12 := by omega
  refine lv_aload_n S.1 S.2.1 dX0_set_7 rfl (lv_at hl 0 rfl) ?_
  refine lv_iconst (v := nI 0) S.1 S.2.1 dX0_set_8 rfl ?_
  refine x_put_pushedCount S hC dX0_set_9 (fun H locs hC => ?_)
  refine lv_aload_n S.1 S.2.1 dX0_set_12 rfl (lv_at hl 0 rfl) ?_
  refine x_get_tallies S hC dX0_set_13 ?_
  refine lv_iload_n S.1 S.2.1 dX0_set_16 rfl (lv_at hl 2 rfl) ?_
  refine lv_aload_n S.1 S.2.1 dX0_set_17 rfl (lv_at hl 0 rfl) ?_
  refine x_get_things S hC dX0_set_18 ?_
  refine t_imul S.1 S.2.1 dX0_set_21 (pk_mul _ _) ?_
  refine lv_iload_n S.1 S.2.1 dX0_set_22 rfl (lv_at hl 3 rfl) ?_
  refine t_iadd S.1 S.2.1 dX0_set_23 (nI_add _ _) ?_
  refine lv_dup2_11 S.1 S.2.1 dX0_set_24 rfl rfl ?_
  refine x_ild S hC hn 1 (by decide) (show a * n + b < n * n from idx_lt ha hb) dX0_set_25 ?_
  refine lv_iconst (v := nI 1) S.1 S.2.1 dX0_set_26 rfl ?_
  refine lv_iadd S.1 S.2.1 dX0_set_27 ?_
  refine x_ist S hC hn 1 (by decide) (show a * n + b < n * n from idx_lt ha hb) dX0_set_28 (fun H locs hC => ?_)
  refine lv_aload_n S.1 S.2.1 dX0_set_29 rfl (lv_at hl 0 rfl) ?_
  refine lv_iload_n S.1 S.2.1 dX0_set_30 rfl (lv_at hl 1 rfl) ?_
  refine lv_iload_n S.1 S.2.1 dX0_set_31 rfl (lv_at hl 2 rfl) ?_
  refine lv_iload_n S.1 S.2.1 dX0_set_32 rfl (lv_at hl 3 rfl) ?_
  refine o_calli oiX S hC (c_X0_holds l hn hr12 ha hb) cw_RX0_X0_holds ⟨rfl, rfl, by decide, by decide⟩ rfl hl.1 rfl (Nat.le_of_ble_eq_true rfl) dX0_set_33 ⟨(Nat.le_of_ble_eq_true rfl), (Nat.le_of_ble_eq_true rfl)⟩ (fun r33 S1 H locs hp hC1 => ?_)
  obtain ⟨e1, hp⟩ := hp
  rw [e1] at hC1; replace hC := hC1
  subst hp
  refine b_if_ne (tgt := 58) S.1 S.2.1 dX0_set_36 (by decide) (fun c36 => ?_) (fun c36 => ?_)
  · skip
    refine lv_aload_n S.1 S.2.1 dX0_set_58 rfl (lv_at hl 0 rfl) ?_
    refine x_get_pushedCount S hC dX0_set_59 ?_
    exact vx_ret (o_iret S hr hlocks hC ⟨by rw [er, ea, eb, setC, if_pos (show hX (talF S0 n a b) r a b = true from c36)]; rfl, h0, rfl⟩ rfl dX0_set_62 (Nat.le_of_ble_eq_true rfl) (Nat.le_of_ble_eq_true rfl))
  · skip
    refine lv_aload_n S.1 S.2.1 dX0_set_39 rfl (lv_at hl 0 rfl) ?_
    refine lv_iload_n S.1 S.2.1 dX0_set_40 rfl (lv_at hl 1 rfl) ?_
    refine lv_iload_n S.1 S.2.1 dX0_set_41 rfl (lv_at hl 2 rfl) ?_
    refine lv_iload_n S.1 S.2.1 dX0_set_42 rfl (lv_at hl 3 rfl) ?_
    refine o_callv oiX S hC (c_X0_pushOut l hn hr12 ha hb ⟨0, by omega, rfl⟩) cw_RX0_X0_pushOut ⟨rfl, rfl, by decide, by decide⟩ rfl hl.1 rfl (Nat.le_of_ble_eq_true rfl) dX0_set_43 ⟨(Nat.le_of_ble_eq_true rfl), (Nat.le_of_ble_eq_true rfl)⟩ (fun S1 H locs hp hC1 => ?_)
    have e1 := hp
    rw [e1] at hC1; replace hC := hC1
    refine lv_aload_n S.1 S.2.1 dX0_set_46 rfl (lv_at hl 0 rfl) ?_
    refine lv_iload_n S.1 S.2.1 dX0_set_47 rfl (lv_at hl 1 rfl) ?_
    refine lv_iload_n S.1 S.2.1 dX0_set_48 rfl (lv_at hl 2 rfl) ?_
    refine lv_iload_n S.1 S.2.1 dX0_set_49 rfl (lv_at hl 3 rfl) ?_
    refine o_callv oiX S hC (c_X0_join l hn hr12 ha hb) cw_RX0_X0_join ⟨rfl, rfl, by decide, by decide⟩ rfl hl.1 rfl (Nat.le_of_ble_eq_true rfl) dX0_set_50 ⟨(Nat.le_of_ble_eq_true rfl), (Nat.le_of_ble_eq_true rfl)⟩ (fun S1 H locs hp hC1 => ?_)
    have e1 := hp
    rw [e1] at hC1; replace hC := hC1
    refine lv_aload_n S.1 S.2.1 dX0_set_53 rfl (lv_at hl 0 rfl) ?_
    refine lv_iload_n S.1 S.2.1 dX0_set_54 rfl (lv_at hl 1 rfl) ?_
    refine o_callv oiX S hC (c_X0_makeStale l hn hr12 ht12 (by rw [joinF_1, pushOF_1]; exact ht)) cw_RX0_X0_makeStale ⟨rfl, rfl, by decide, by decide⟩ rfl hl.1 rfl (Nat.le_of_ble_eq_true rfl) dX0_set_55 ⟨(Nat.le_of_ble_eq_true rfl), (Nat.le_of_ble_eq_true rfl)⟩ (fun S1 H locs hp hC1 => ?_)
    have e1 := hp
    rw [e1] at hC1; replace hC := hC1
    refine lv_aload_n S.1 S.2.1 dX0_set_58 rfl (lv_at hl 0 rfl) ?_
    refine x_get_pushedCount S hC dX0_set_59 ?_
    exact vx_ret (o_iret S hr hlocks hC ⟨by rw [er, ea, eb, setC, if_neg (by rw [show hX (talF S0 n a b) r a b = false from c36]; decide)]; rfl, h0, rfl⟩ rfl dX0_set_62 (Nat.le_of_ble_eq_true rfl) (Nat.le_of_ble_eq_true rfl))
def dropB (S : RS) (r a b : Nat) : Bool := hX S r a b && !(decide (S.2.1 2 r = nI 6) && decide (a = b))
def dropC (S : RS) (n t r a b : Nat) : RS := if dropB S r a b then sI (partF S n r a b) 1 (nI (min t (r + 1))) else S
set_option maxRecDepth 100000 in
set_option maxHeartbeats 4000000 in
theorem c_X0_drop (l : Launch) (hs0 : l.stackTraces = false) {loc : Nat → Nat} {n : Nat} {g : Gc} (hn : n ≤ 40) {S0 : RS} {R : Nat} (hR : R ≤ 12) (hrel : S0.1 0 = nI R) {t : Nat} (ht12 : t ≤ 12) (ht : S0.1 1 = nI t) (x a b : Int32) : TXi l yX0_drop cX0_drop 4 (some .boolean) (rmL 9 8 48) loc n g S0 [.int x, .int a, .int b] (fun v S' => S' = dropC S0 n t (ixN x) (ixN a) (ixN b) ∧ settW S0 n x a b = none ∧ v = bI (dropB S0 (ixN x) (ixN a) (ixN b))) (fun E => settW S0 n x a b = some E) := by
  refine o_enterx (by decide) (Nat.le_of_ble_eq_true rfl) ?_
  intro p e s m below meth c ls S hr hlocks hnt hC hl
  refine lv_aload_n S.1 S.2.1 dX0_drop_0 rfl (lv_at hl 0 rfl) ?_
  refine lv_iload_n S.1 S.2.1 dX0_drop_1 rfl (lv_at hl 1 rfl) ?_
  refine lv_iload_n S.1 S.2.1 dX0_drop_2 rfl (lv_at hl 2 rfl) ?_
  refine lv_iload_n S.1 S.2.1 dX0_drop_3 rfl (lv_at hl 3 rfl) ?_
  refine o_xcallv oiX S hC (c_X0_needSettable l hs0 hn hR hrel x a b) cw_RX0_X0_needSettable ⟨rfl, rfl, by decide, by decide⟩ rfl hl.1 rfl (Nat.le_of_ble_eq_true rfl) dX0_drop_4 ⟨(Nat.le_of_ble_eq_true rfl), (Nat.le_of_ble_eq_true rfl)⟩ hnt hlocks ⟨(Nat.le_of_ble_eq_true rfl), (Nat.le_of_ble_eq_true rfl)⟩ (fun E h => h) (fun S1 H locs hp hC1 => ?_)
  obtain ⟨e1, hp⟩ := hp
  rw [e1] at hC1; replace hC := hC1
  have h0 := hp
  obtain ⟨r, a, b, hrR, ha, hb, rfl, rfl, rfl⟩ := settW_none hn hR hrel h0
  have er : ixN (nI r) = r := ixN_nI (by omega)
  have ea : ixN (nI a) = a := ixN_nI (by omega)
  have eb : ixN (nI b) = b := ixN_nI (by omega)
  have hr12 : r < 12 := by omega
  refine lv_aload_n S.1 S.2.1 dX0_drop_7 rfl (lv_at hl 0 rfl) ?_
  refine lv_iload_n S.1 S.2.1 dX0_drop_8 rfl (lv_at hl 1 rfl) ?_
  refine lv_iload_n S.1 S.2.1 dX0_drop_9 rfl (lv_at hl 2 rfl) ?_
  refine lv_iload_n S.1 S.2.1 dX0_drop_10 rfl (lv_at hl 3 rfl) ?_
  refine o_calli oiX S hC (c_X0_holds l hn hr12 ha hb) cw_RX0_X0_holds ⟨rfl, rfl, by decide, by decide⟩ rfl hl.1 rfl (Nat.le_of_ble_eq_true rfl) dX0_drop_11 ⟨(Nat.le_of_ble_eq_true rfl), (Nat.le_of_ble_eq_true rfl)⟩ (fun r11 S1 H locs hp hC1 => ?_)
  obtain ⟨e1, hp⟩ := hp
  rw [e1] at hC1; replace hC := hC1
  subst hp
  refine b_if_eq (tgt := 33) S.1 S.2.1 dX0_drop_14 (by decide) (fun c14 => ?_) (fun c14 => ?_)
  · have hB : dropB S0 r a b = false := by simp [dropB, c14]
    refine lv_iconst (v := 0) S.1 S.2.1 dX0_drop_33 rfl ?_
    exact vx_ret (o_iret S hr hlocks hC ⟨by rw [er, ea, eb, dropC, if_neg (by rw [hB]; decide)], h0, by rw [er, ea, eb, hB]; rfl⟩ rfl dX0_drop_34 (Nat.le_of_ble_eq_true rfl) (Nat.le_of_ble_eq_true rfl))
  · skip
    refine lv_aload_n S.1 S.2.1 dX0_drop_17 rfl (lv_at hl 0 rfl) ?_
    refine x_get_forms S hC dX0_drop_18 ?_
    refine lv_iload_n S.1 S.2.1 dX0_drop_21 rfl (lv_at hl 1 rfl) ?_
    refine x_ild S hC hn 2 (by decide) hr12 dX0_drop_22 ?_
    refine lv_bipush (v := nI 6) S.1 S.2.1 dX0_drop_23 rfl ?_
    refine lv_icmp_ne (tgt := 35) S.1 S.2.1 dX0_drop_25 (by decide) (fun c25 => ?_) (fun c25 => ?_)
    · have hB : dropB S0 r a b = true := by simp [dropB, c14, c25]
      refine lv_aload_n S.1 S.2.1 dX0_drop_35 rfl (lv_at hl 0 rfl) ?_
      refine lv_iload_n S.1 S.2.1 dX0_drop_36 rfl (lv_at hl 1 rfl) ?_
      refine lv_iload_n S.1 S.2.1 dX0_drop_37 rfl (lv_at hl 2 rfl) ?_
      refine lv_iload_n S.1 S.2.1 dX0_drop_38 rfl (lv_at hl 3 rfl) ?_
      refine o_callv oiX S hC (c_X0_part l hn hr12 ha hb) cw_RX0_X0_part ⟨rfl, rfl, by decide, by decide⟩ rfl hl.1 rfl (Nat.le_of_ble_eq_true rfl) dX0_drop_39 ⟨(Nat.le_of_ble_eq_true rfl), (Nat.le_of_ble_eq_true rfl)⟩ (fun S1 H locs hp hC1 => ?_)
      have e1 := hp
      rw [e1] at hC1; replace hC := hC1
      refine lv_aload_n S.1 S.2.1 dX0_drop_42 rfl (lv_at hl 0 rfl) ?_
      refine lv_iload_n S.1 S.2.1 dX0_drop_43 rfl (lv_at hl 1 rfl) ?_
      refine o_callv oiX S hC (c_X0_makeStale l hn hr12 ht12 (by rw [(partF_1 _ _ _ _ _).1]; exact ht)) cw_RX0_X0_makeStale ⟨rfl, rfl, by decide, by decide⟩ rfl hl.1 rfl (Nat.le_of_ble_eq_true rfl) dX0_drop_44 ⟨(Nat.le_of_ble_eq_true rfl), (Nat.le_of_ble_eq_true rfl)⟩ (fun S1 H locs hp hC1 => ?_)
      have e1 := hp
      rw [e1] at hC1; replace hC := hC1
      refine lv_iconst (v := 1) S.1 S.2.1 dX0_drop_47 rfl ?_
      exact vx_ret (o_iret S hr hlocks hC ⟨by rw [er, ea, eb, dropC, if_pos hB], h0, by rw [er, ea, eb, hB]; rfl⟩ rfl dX0_drop_48 (Nat.le_of_ble_eq_true rfl) (Nat.le_of_ble_eq_true rfl))
    · skip
      refine lv_iload_n S.1 S.2.1 dX0_drop_28 rfl (lv_at hl 2 rfl) ?_
      refine lv_iload_n S.1 S.2.1 dX0_drop_29 rfl (lv_at hl 3 rfl) ?_
      refine n_icmp_ne (tgt := 35) S.1 S.2.1 dX0_drop_30 (by decide) (by omega) (by omega) (fun c30 => ?_) (fun c30 => ?_)
      · have hB : dropB S0 r a b = true := by simp [dropB, c14, c30]
        refine lv_aload_n S.1 S.2.1 dX0_drop_35 rfl (lv_at hl 0 rfl) ?_
        refine lv_iload_n S.1 S.2.1 dX0_drop_36 rfl (lv_at hl 1 rfl) ?_
        refine lv_iload_n S.1 S.2.1 dX0_drop_37 rfl (lv_at hl 2 rfl) ?_
        refine lv_iload_n S.1 S.2.1 dX0_drop_38 rfl (lv_at hl 3 rfl) ?_
        refine o_callv oiX S hC (c_X0_part l hn hr12 ha hb) cw_RX0_X0_part ⟨rfl, rfl, by decide, by decide⟩ rfl hl.1 rfl (Nat.le_of_ble_eq_true rfl) dX0_drop_39 ⟨(Nat.le_of_ble_eq_true rfl), (Nat.le_of_ble_eq_true rfl)⟩ (fun S1 H locs hp hC1 => ?_)
        have e1 := hp
        rw [e1] at hC1; replace hC := hC1
        refine lv_aload_n S.1 S.2.1 dX0_drop_42 rfl (lv_at hl 0 rfl) ?_
        refine lv_iload_n S.1 S.2.1 dX0_drop_43 rfl (lv_at hl 1 rfl) ?_
        refine o_callv oiX S hC (c_X0_makeStale l hn hr12 ht12 (by rw [(partF_1 _ _ _ _ _).1]; exact ht)) cw_RX0_X0_makeStale ⟨rfl, rfl, by decide, by decide⟩ rfl hl.1 rfl (Nat.le_of_ble_eq_true rfl) dX0_drop_44 ⟨(Nat.le_of_ble_eq_true rfl), (Nat.le_of_ble_eq_true rfl)⟩ (fun S1 H locs hp hC1 => ?_)
        have e1 := hp
        rw [e1] at hC1; replace hC := hC1
        refine lv_iconst (v := 1) S.1 S.2.1 dX0_drop_47 rfl ?_
        exact vx_ret (o_iret S hr hlocks hC ⟨by rw [er, ea, eb, dropC, if_pos hB], h0, by rw [er, ea, eb, hB]; rfl⟩ rfl dX0_drop_48 (Nat.le_of_ble_eq_true rfl) (Nat.le_of_ble_eq_true rfl))
      · have hB : dropB S0 r a b = false := by simp [dropB, c25, c30]
        refine lv_iconst (v := 0) S.1 S.2.1 dX0_drop_33 rfl ?_
        exact vx_ret (o_iret S hr hlocks hC ⟨by rw [er, ea, eb, dropC, if_neg (by rw [hB]; decide)], h0, by rw [er, ea, eb, hB]; rfl⟩ rfl dX0_drop_34 (Nat.le_of_ble_eq_true rfl) (Nat.le_of_ble_eq_true rfl))
def emptW (S : RS) (x : Int32) : Option String := if inI x (S.1 0) = false then some iaeS else if byC S (ixN x) = true then some iseS else none
theorem startF_1 (S : RS) (r : Nat) : ∀ k, (startF S r k).1 = S.1 ∧ (startF S r k).2.1 = S.2.1
  | 0 => ⟨rfl, rfl⟩
  | k + 1 => startF_1 S r k
def emptC (S : RS) (n t r : Nat) : RS := sI (startF S r n) 1 (nI (min t (r + 1)))
set_option maxRecDepth 100000 in
set_option maxHeartbeats 4000000 in
theorem c_X0_empty (l : Launch) (hs0 : l.stackTraces = false) {loc : Nat → Nat} {n : Nat} {g : Gc} (hn : n ≤ 40) {S0 : RS} {R : Nat} (hR : R ≤ 12) (hrel : S0.1 0 = nI R) {t : Nat} (ht12 : t ≤ 12) (ht : S0.1 1 = nI t) (x : Int32) : TXi l yX0_empty cX0_empty 3 (some .int) (rmL 9 8 48) loc n g S0 [.int x] (fun v S' => S' = emptC S0 n t (ixN x) ∧ emptW S0 x = none ∧ v = pairsF S0 (ixN x) n - pairsF S' (ixN x) n) (fun E => emptW S0 x = some E) := by
  refine o_enterx (by decide) (Nat.le_of_ble_eq_true rfl) ?_
  intro p e s m below meth c ls S hr hlocks hnt hC hl
  refine lv_aload_n S.1 S.2.1 dX0_empty_0 rfl (lv_at hl 0 rfl) ?_
  refine lv_iload_n S.1 S.2.1 dX0_empty_1 rfl (lv_at hl 1 rfl) ?_
  refine o_xcallv oiX S hC (c_X0_needRelation l hs0 hn x) cw_RX0_X0_needRelation ⟨rfl, rfl, by decide, by decide⟩ rfl hl.1 rfl (Nat.le_of_ble_eq_true rfl) dX0_empty_2 ⟨(Nat.le_of_ble_eq_true rfl), (Nat.le_of_ble_eq_true rfl)⟩ hnt hlocks ⟨(Nat.le_of_ble_eq_true rfl), (Nat.le_of_ble_eq_true rfl)⟩ (fun E h => by simp [emptW, h.1, h.2]) (fun S1 H locs hp hC1 => ?_)
  obtain ⟨e1, hp⟩ := hp
  rw [e1] at hC1; replace hC := hC1
  have h1 := hp
  rw [hrel] at hp
  obtain ⟨r, hrR, rfl⟩ := inI_t (by omega) hp
  have er : ixN (nI r) = r := ixN_nI (by omega)
  have hr12 : r < 12 := by omega
  refine lv_aload_n S.1 S.2.1 dX0_empty_5 rfl (lv_at hl 0 rfl) ?_
  refine lv_iload_n S.1 S.2.1 dX0_empty_6 rfl (lv_at hl 1 rfl) ?_
  refine o_xcallv oiX S hC (c_X0_needForm l hs0 hn hr12) cw_RX0_X0_needForm ⟨rfl, rfl, by decide, by decide⟩ rfl hl.1 rfl (Nat.le_of_ble_eq_true rfl) dX0_empty_7 ⟨(Nat.le_of_ble_eq_true rfl), (Nat.le_of_ble_eq_true rfl)⟩ hnt hlocks ⟨(Nat.le_of_ble_eq_true rfl), (Nat.le_of_ble_eq_true rfl)⟩ (fun E h => by simp [emptW, h1, er, h.1, h.2]) (fun S1 H locs hp hC1 => ?_)
  obtain ⟨e1, hp⟩ := hp
  rw [e1] at hC1; replace hC := hC1
  have h2 := hp
  refine lv_aload_n S.1 S.2.1 dX0_empty_10 rfl (lv_at hl 0 rfl) ?_
  refine lv_iload_n S.1 S.2.1 dX0_empty_11 rfl (lv_at hl 1 rfl) ?_
  refine o_calli oiX S hC (c_X0_pairsOf l hn hr12) cw_RX0_X0_pairsOf ⟨rfl, rfl, by decide, by decide⟩ rfl hl.1 rfl (Nat.le_of_ble_eq_true rfl) dX0_empty_12 ⟨(Nat.le_of_ble_eq_true rfl), (Nat.le_of_ble_eq_true rfl)⟩ (fun r12 S1 H locs hp hC1 => ?_)
  obtain ⟨e1, hp⟩ := hp
  rw [e1] at hC1; replace hC := hC1
  subst hp
  refine lv_istore_n S.1 S.2.1 dX0_empty_15 rfl hl (by decide) rfl (fun ls hl => ?_)
  refine lv_aload_n S.1 S.2.1 dX0_empty_16 rfl (lv_at hl 1 rfl) ?_
  refine lv_iload_n S.1 S.2.1 dX0_empty_17 rfl (lv_at hl 2 rfl) ?_
  refine o_callv oiX S hC (c_X0_startRows l hn hr12) cw_RX0_X0_startRows ⟨rfl, rfl, by decide, by decide⟩ rfl hl.1 rfl (Nat.le_of_ble_eq_true rfl) dX0_empty_18 ⟨(Nat.le_of_ble_eq_true rfl), (Nat.le_of_ble_eq_true rfl)⟩ (fun S1 H locs hp hC1 => ?_)
  have e1 := hp
  rw [e1] at hC1; replace hC := hC1
  refine lv_aload_n S.1 S.2.1 dX0_empty_21 rfl (lv_at hl 1 rfl) ?_
  refine lv_iload_n S.1 S.2.1 dX0_empty_22 rfl (lv_at hl 2 rfl) ?_
  refine o_callv oiX S hC (c_X0_makeStale l hn hr12 ht12 (by rw [(startF_1 _ _ _).1]; exact ht)) cw_RX0_X0_makeStale ⟨rfl, rfl, by decide, by decide⟩ rfl hl.1 rfl (Nat.le_of_ble_eq_true rfl) dX0_empty_23 ⟨(Nat.le_of_ble_eq_true rfl), (Nat.le_of_ble_eq_true rfl)⟩ (fun S1 H locs hp hC1 => ?_)
  have e1 := hp
  rw [e1] at hC1; replace hC := hC1
  refine lv_iload_n S.1 S.2.1 dX0_empty_26 rfl (lv_at hl 0 rfl) ?_
  refine lv_aload_n S.1 S.2.1 dX0_empty_27 rfl (lv_at hl 1 rfl) ?_
  refine lv_iload_n S.1 S.2.1 dX0_empty_28 rfl (lv_at hl 2 rfl) ?_
  refine o_calli oiX S hC (c_X0_pairsOf l hn hr12) cw_RX0_X0_pairsOf ⟨rfl, rfl, by decide, by decide⟩ rfl hl.1 rfl (Nat.le_of_ble_eq_true rfl) dX0_empty_29 ⟨(Nat.le_of_ble_eq_true rfl), (Nat.le_of_ble_eq_true rfl)⟩ (fun r29 S1 H locs hp hC1 => ?_)
  obtain ⟨e1, hp⟩ := hp
  rw [e1] at hC1; replace hC := hC1
  subst hp
  refine lv_isub S.1 S.2.1 dX0_empty_32 ?_
  exact vx_ret (o_iret S hr hlocks hC ⟨by rw [er]; rfl, by simp [emptW, h1, er, h2], by rw [er] <;> rfl⟩ rfl dX0_empty_33 (Nat.le_of_ble_eq_true rfl) (Nat.le_of_ble_eq_true rfl))
def pushW (S : RS) (i w : Int32) : Option String := if ¬ w = 0 ∧ ¬ w = nI 1 then some iaeS else if inI i (S.1 2) = false then some nseS else none
set_option maxRecDepth 100000 in
set_option maxHeartbeats 4000000 in
theorem c_X0_pushed (l : Launch) (hs0 : l.stackTraces = false) {loc : Nat → Nat} {n : Nat} {g : Gc} (hn : n ≤ 40) {S0 : RS} {q : Nat} (hq : q ≤ 2) (hpc : S0.1 2 = nI q) (i w : Int32) : TXi l yX0_pushed cX0_pushed 3 (some .int) (rmL 9 8 48) loc n g S0 [.int i, .int w] (fun v S' => S' = S0 ∧ pushW S0 i w = none ∧ v = (if w = 0 then S0.2.1 5 (ixN i) else S0.2.1 6 (ixN i))) (fun E => pushW S0 i w = some E) := by
  refine o_enterx (by decide) (Nat.le_of_ble_eq_true rfl) ?_
  intro p e s m below meth c ls S hr hlocks hnt hC hl
  refine lv_iload_n S.1 S.2.1 dX0_pushed_0 rfl (lv_at hl 2 rfl) ?_
  refine lv_if_eq (tgt := 19) S.1 S.2.1 dX0_pushed_1 (by decide) (fun c1 => ?_) (fun c1 => ?_)
  · skip
    refine lv_iload_n S.1 S.2.1 dX0_pushed_19 rfl (lv_at hl 1 rfl) ?_
    refine lv_if_lt (tgt := 31) S.1 S.2.1 dX0_pushed_20 (by decide) (fun c20 => ?_) (fun c20 => ?_)
    · skip
      exact x_throw_nse (tx := "no such pair was pushed out") hs0 S hC (by decide) hnt hlocks hl.1 (by simp [pushW, c1, inI, c20]) dX0_pushed_31 dX0_pushed_34 dX0_pushed_35 dX0_pushed_37 dX0_pushed_40 ⟨(Nat.le_of_ble_eq_true rfl), (Nat.le_of_ble_eq_true rfl), (Nat.le_of_ble_eq_true rfl), (Nat.le_of_ble_eq_true rfl)⟩ ⟨(Nat.le_of_ble_eq_true rfl), (Nat.le_of_ble_eq_true rfl)⟩
    · skip
      refine lv_iload_n S.1 S.2.1 dX0_pushed_23 rfl (lv_at hl 1 rfl) ?_
      refine lv_aload_n S.1 S.2.1 dX0_pushed_24 rfl (lv_at hl 0 rfl) ?_
      refine x_get_pushedCount S hC dX0_pushed_25 ?_
      refine lv_icmp_lt (tgt := 41) S.1 S.2.1 dX0_pushed_28 (by decide) (fun c28 => ?_) (fun c28 => ?_)
      · have h2 : inI i (S0.1 2) = true := by simp [inI, c20, c28]
        have h3 := h2
        rw [hpc] at h3
        obtain ⟨j, hj, e0⟩ := inI_t (by omega) h3
        have ei : ixN i = j := by rw [e0]; exact ixN_nI (by omega)
        rw [e0] at hl
        refine lv_iload_n S.1 S.2.1 dX0_pushed_41 rfl (lv_at hl 2 rfl) ?_
        refine lv_if_ne (tgt := 54) S.1 S.2.1 dX0_pushed_42 (by decide) (fun c42 => ?_) (fun c42 => ?_)
        · skip
          refine lv_aload_n S.1 S.2.1 dX0_pushed_54 rfl (lv_at hl 0 rfl) ?_
          refine x_get_pushedSeconds S hC dX0_pushed_55 ?_
          refine lv_iload_n S.1 S.2.1 dX0_pushed_58 rfl (lv_at hl 1 rfl) ?_
          refine x_ild S hC hn 6 (by decide) (show j < 2 by omega) dX0_pushed_59 ?_
          exact vx_ret (o_iret S hr hlocks hC ⟨rfl, by simp [pushW, c1, h2], by rw [if_neg c42, ei]⟩ rfl dX0_pushed_60 (Nat.le_of_ble_eq_true rfl) (Nat.le_of_ble_eq_true rfl))
        · skip
          refine lv_aload_n S.1 S.2.1 dX0_pushed_45 rfl (lv_at hl 0 rfl) ?_
          refine x_get_pushedFirsts S hC dX0_pushed_46 ?_
          refine lv_iload_n S.1 S.2.1 dX0_pushed_49 rfl (lv_at hl 1 rfl) ?_
          refine x_ild S hC hn 5 (by decide) (show j < 2 by omega) dX0_pushed_50 ?_
          refine lv_goto (tgt := 60) S.1 S.2.1 dX0_pushed_51 (by decide) ?_
          exact vx_ret (o_iret S hr hlocks hC ⟨rfl, by simp [pushW, c1, h2], by rw [if_pos c42, ei]⟩ rfl dX0_pushed_60 (Nat.le_of_ble_eq_true rfl) (Nat.le_of_ble_eq_true rfl))
      · skip
        exact x_throw_nse (tx := "no such pair was pushed out") hs0 S hC (by decide) hnt hlocks hl.1 (by simp [pushW, c1, inI, c28]) dX0_pushed_31 dX0_pushed_34 dX0_pushed_35 dX0_pushed_37 dX0_pushed_40 ⟨(Nat.le_of_ble_eq_true rfl), (Nat.le_of_ble_eq_true rfl), (Nat.le_of_ble_eq_true rfl), (Nat.le_of_ble_eq_true rfl)⟩ ⟨(Nat.le_of_ble_eq_true rfl), (Nat.le_of_ble_eq_true rfl)⟩
  · skip
    refine lv_iload_n S.1 S.2.1 dX0_pushed_4 rfl (lv_at hl 2 rfl) ?_
    refine lv_iconst (v := nI 1) S.1 S.2.1 dX0_pushed_5 rfl ?_
    refine lv_icmp_eq (tgt := 19) S.1 S.2.1 dX0_pushed_6 (by decide) (fun c6 => ?_) (fun c6 => ?_)
    · skip
      refine lv_iload_n S.1 S.2.1 dX0_pushed_19 rfl (lv_at hl 1 rfl) ?_
      refine lv_if_lt (tgt := 31) S.1 S.2.1 dX0_pushed_20 (by decide) (fun c20 => ?_) (fun c20 => ?_)
      · skip
        exact x_throw_nse (tx := "no such pair was pushed out") hs0 S hC (by decide) hnt hlocks hl.1 (by simp [pushW, c6, inI, c20]) dX0_pushed_31 dX0_pushed_34 dX0_pushed_35 dX0_pushed_37 dX0_pushed_40 ⟨(Nat.le_of_ble_eq_true rfl), (Nat.le_of_ble_eq_true rfl), (Nat.le_of_ble_eq_true rfl), (Nat.le_of_ble_eq_true rfl)⟩ ⟨(Nat.le_of_ble_eq_true rfl), (Nat.le_of_ble_eq_true rfl)⟩
      · skip
        refine lv_iload_n S.1 S.2.1 dX0_pushed_23 rfl (lv_at hl 1 rfl) ?_
        refine lv_aload_n S.1 S.2.1 dX0_pushed_24 rfl (lv_at hl 0 rfl) ?_
        refine x_get_pushedCount S hC dX0_pushed_25 ?_
        refine lv_icmp_lt (tgt := 41) S.1 S.2.1 dX0_pushed_28 (by decide) (fun c28 => ?_) (fun c28 => ?_)
        · have h2 : inI i (S0.1 2) = true := by simp [inI, c20, c28]
          have h3 := h2
          rw [hpc] at h3
          obtain ⟨j, hj, e0⟩ := inI_t (by omega) h3
          have ei : ixN i = j := by rw [e0]; exact ixN_nI (by omega)
          rw [e0] at hl
          refine lv_iload_n S.1 S.2.1 dX0_pushed_41 rfl (lv_at hl 2 rfl) ?_
          refine lv_if_ne (tgt := 54) S.1 S.2.1 dX0_pushed_42 (by decide) (fun c42 => ?_) (fun c42 => ?_)
          · skip
            refine lv_aload_n S.1 S.2.1 dX0_pushed_54 rfl (lv_at hl 0 rfl) ?_
            refine x_get_pushedSeconds S hC dX0_pushed_55 ?_
            refine lv_iload_n S.1 S.2.1 dX0_pushed_58 rfl (lv_at hl 1 rfl) ?_
            refine x_ild S hC hn 6 (by decide) (show j < 2 by omega) dX0_pushed_59 ?_
            exact vx_ret (o_iret S hr hlocks hC ⟨rfl, by simp [pushW, c6, h2], by rw [if_neg c42, ei]⟩ rfl dX0_pushed_60 (Nat.le_of_ble_eq_true rfl) (Nat.le_of_ble_eq_true rfl))
          · skip
            refine lv_aload_n S.1 S.2.1 dX0_pushed_45 rfl (lv_at hl 0 rfl) ?_
            refine x_get_pushedFirsts S hC dX0_pushed_46 ?_
            refine lv_iload_n S.1 S.2.1 dX0_pushed_49 rfl (lv_at hl 1 rfl) ?_
            refine x_ild S hC hn 5 (by decide) (show j < 2 by omega) dX0_pushed_50 ?_
            refine lv_goto (tgt := 60) S.1 S.2.1 dX0_pushed_51 (by decide) ?_
            exact vx_ret (o_iret S hr hlocks hC ⟨rfl, by simp [pushW, c6, h2], by rw [if_pos c42, ei]⟩ rfl dX0_pushed_60 (Nat.le_of_ble_eq_true rfl) (Nat.le_of_ble_eq_true rfl))
        · skip
          exact x_throw_nse (tx := "no such pair was pushed out") hs0 S hC (by decide) hnt hlocks hl.1 (by simp [pushW, c6, inI, c28]) dX0_pushed_31 dX0_pushed_34 dX0_pushed_35 dX0_pushed_37 dX0_pushed_40 ⟨(Nat.le_of_ble_eq_true rfl), (Nat.le_of_ble_eq_true rfl), (Nat.le_of_ble_eq_true rfl), (Nat.le_of_ble_eq_true rfl)⟩ ⟨(Nat.le_of_ble_eq_true rfl), (Nat.le_of_ble_eq_true rfl)⟩
    · skip
      exact x_throw_iae (tx := "which is 0 or 1") hs0 S hC (by decide) hnt hlocks hl.1 (by simp [pushW, c1, c6]) dX0_pushed_9 dX0_pushed_12 dX0_pushed_13 dX0_pushed_15 dX0_pushed_18 ⟨(Nat.le_of_ble_eq_true rfl), (Nat.le_of_ble_eq_true rfl), (Nat.le_of_ble_eq_true rfl), (Nat.le_of_ble_eq_true rfl)⟩ ⟨(Nat.le_of_ble_eq_true rfl), (Nat.le_of_ble_eq_true rfl)⟩
def stlF (S : RS) (n t r : Nat) : RS := sI (setF S n t (max t (r + 1) - t)) 1 (nI (max t (r + 1)))
def raW (S : RS) (n : Nat) (x a : Int32) : Option String := if inI x (S.1 0) = false then some iaeS else if inI a (nI n) = false then some iaeS else none
def rabW (S : RS) (n : Nat) (x a b : Int32) : Option String := if inI x (S.1 0) = false then some iaeS else if inI a (nI n) = false then some iaeS else if inI b (nI n) = false then some iaeS else none
set_option maxRecDepth 100000 in
set_option maxHeartbeats 4000000 in
theorem c_X0_has (l : Launch) (hs0 : l.stackTraces = false) {loc : Nat → Nat} {n : Nat} {g : Gc} (hn : n ≤ 40) {S0 : RS} {R : Nat} (hR : R ≤ 12) (hrel : S0.1 0 = nI R) {t : Nat} (ht12 : t ≤ 12) (ht : S0.1 1 = nI t) (hw : ∀ q, q < R → byC S0 q = true → wfR S0 q) (x a b : Int32) : TXi l yX0_has cX0_has 4 (some .boolean) (rmL 9 8 48) loc n g S0 [.int x, .int a, .int b] (fun v S' => S' = stlF S0 n t (ixN x) ∧ rabW S0 n x a b = none ∧ v = bI (hX S' (ixN x) (ixN a) (ixN b))) (fun E => rabW S0 n x a b = some E) := by
  refine o_enterx (by decide) (Nat.le_of_ble_eq_true rfl) ?_
  intro p e s m below meth c ls S hr hlocks hnt hC hl
  refine lv_aload_n S.1 S.2.1 dX0_has_0 rfl (lv_at hl 0 rfl) ?_
  refine lv_iload_n S.1 S.2.1 dX0_has_1 rfl (lv_at hl 1 rfl) ?_
  refine o_xcallv oiX S hC (c_X0_needRelation l hs0 hn x) cw_RX0_X0_needRelation ⟨rfl, rfl, by decide, by decide⟩ rfl hl.1 rfl (Nat.le_of_ble_eq_true rfl) dX0_has_2 ⟨(Nat.le_of_ble_eq_true rfl), (Nat.le_of_ble_eq_true rfl)⟩ hnt hlocks ⟨(Nat.le_of_ble_eq_true rfl), (Nat.le_of_ble_eq_true rfl)⟩ (fun E h => by simp [rabW, h.1, h.2]) (fun S1 H locs hp hC1 => ?_)
  obtain ⟨e1, hp⟩ := hp
  rw [e1] at hC1; replace hC := hC1
  have h1 := hp
  rw [hrel] at hp
  obtain ⟨r, hrR, rfl⟩ := inI_t (by omega) hp
  have er : ixN (nI r) = r := ixN_nI (by omega)
  have hr12 : r < 12 := by omega
  refine lv_aload_n S.1 S.2.1 dX0_has_5 rfl (lv_at hl 0 rfl) ?_
  refine lv_iload_n S.1 S.2.1 dX0_has_6 rfl (lv_at hl 2 rfl) ?_
  refine o_xcallv oiX S hC (c_X0_needThing l hs0 hn a) cw_RX0_X0_needThing ⟨rfl, rfl, by decide, by decide⟩ rfl hl.1 rfl (Nat.le_of_ble_eq_true rfl) dX0_has_7 ⟨(Nat.le_of_ble_eq_true rfl), (Nat.le_of_ble_eq_true rfl)⟩ hnt hlocks ⟨(Nat.le_of_ble_eq_true rfl), (Nat.le_of_ble_eq_true rfl)⟩ (fun E h => by simp [rabW, h1, h.1, h.2]) (fun S1 H locs hp hC1 => ?_)
  obtain ⟨e1, hp⟩ := hp
  rw [e1] at hC1; replace hC := hC1
  have h2 := hp
  obtain ⟨a, ha, rfl⟩ := inI_t (by omega) h2
  have ea : ixN (nI a) = a := ixN_nI (by omega)
  refine lv_aload_n S.1 S.2.1 dX0_has_10 rfl (lv_at hl 0 rfl) ?_
  refine lv_iload_n S.1 S.2.1 dX0_has_11 rfl (lv_at hl 3 rfl) ?_
  refine o_xcallv oiX S hC (c_X0_needThing l hs0 hn b) cw_RX0_X0_needThing ⟨rfl, rfl, by decide, by decide⟩ rfl hl.1 rfl (Nat.le_of_ble_eq_true rfl) dX0_has_12 ⟨(Nat.le_of_ble_eq_true rfl), (Nat.le_of_ble_eq_true rfl)⟩ hnt hlocks ⟨(Nat.le_of_ble_eq_true rfl), (Nat.le_of_ble_eq_true rfl)⟩ (fun E h => by simp [rabW, h1, h2, h.1, h.2]) (fun S1 H locs hp hC1 => ?_)
  obtain ⟨e1, hp⟩ := hp
  rw [e1] at hC1; replace hC := hC1
  have h3 := hp
  obtain ⟨b, hb, rfl⟩ := inI_t (by omega) h3
  have eb : ixN (nI b) = b := ixN_nI (by omega)
  refine lv_aload_n S.1 S.2.1 dX0_has_15 rfl (lv_at hl 0 rfl) ?_
  refine lv_iload_n S.1 S.2.1 dX0_has_16 rfl (lv_at hl 1 rfl) ?_
  refine o_callv oiX S hC (c_X0_settle l hn hr12 ht12 ht (fun q hq => hw q (by omega))) cw_RX0_X0_settle ⟨rfl, rfl, by decide, by decide⟩ rfl hl.1 rfl (Nat.le_of_ble_eq_true rfl) dX0_has_17 ⟨(Nat.le_of_ble_eq_true rfl), (Nat.le_of_ble_eq_true rfl)⟩ (fun S1 H locs hp hC1 => ?_)
  have e1 := hp
  rw [e1] at hC1; replace hC := hC1
  refine lv_aload_n S.1 S.2.1 dX0_has_20 rfl (lv_at hl 0 rfl) ?_
  refine lv_iload_n S.1 S.2.1 dX0_has_21 rfl (lv_at hl 1 rfl) ?_
  refine lv_iload_n S.1 S.2.1 dX0_has_22 rfl (lv_at hl 2 rfl) ?_
  refine lv_iload_n S.1 S.2.1 dX0_has_23 rfl (lv_at hl 3 rfl) ?_
  refine o_calli oiX S hC (c_X0_holds l hn hr12 ha hb) cw_RX0_X0_holds ⟨rfl, rfl, by decide, by decide⟩ rfl hl.1 rfl (Nat.le_of_ble_eq_true rfl) dX0_has_24 ⟨(Nat.le_of_ble_eq_true rfl), (Nat.le_of_ble_eq_true rfl)⟩ (fun r24 S1 H locs hp hC1 => ?_)
  obtain ⟨e1, hp⟩ := hp
  rw [e1] at hC1; replace hC := hC1
  subst hp
  exact vx_ret (o_iret S hr hlocks hC ⟨by rw [er]; rfl, by simp [rabW, h1, h2, h3], by rw [er, ea, eb] <;> rfl⟩ (bI_nar _) dX0_has_27 (Nat.le_of_ble_eq_true rfl) (Nat.le_of_ble_eq_true rfl))
def rW (S : RS) (x : Int32) : Option String := if inI x (S.1 0) = false then some iaeS else none
set_option maxRecDepth 100000 in
set_option maxHeartbeats 4000000 in
theorem c_X0_count (l : Launch) (hs0 : l.stackTraces = false) {loc : Nat → Nat} {n : Nat} {g : Gc} (hn : n ≤ 40) {S0 : RS} {R : Nat} (hR : R ≤ 12) (hrel : S0.1 0 = nI R) {t : Nat} (ht12 : t ≤ 12) (ht : S0.1 1 = nI t) (hw : ∀ q, q < R → byC S0 q = true → wfR S0 q) (x : Int32) : TXi l yX0_count cX0_count 2 (some .int) (rmL 9 8 48) loc n g S0 [.int x] (fun v S' => S' = stlF S0 n t (ixN x) ∧ rW S0 x = none ∧ v = pairsF S' (ixN x) n) (fun E => rW S0 x = some E) := by
  refine o_enterx (by decide) (Nat.le_of_ble_eq_true rfl) ?_
  intro p e s m below meth c ls S hr hlocks hnt hC hl
  refine lv_aload_n S.1 S.2.1 dX0_count_0 rfl (lv_at hl 0 rfl) ?_
  refine lv_iload_n S.1 S.2.1 dX0_count_1 rfl (lv_at hl 1 rfl) ?_
  refine o_xcallv oiX S hC (c_X0_needRelation l hs0 hn x) cw_RX0_X0_needRelation ⟨rfl, rfl, by decide, by decide⟩ rfl hl.1 rfl (Nat.le_of_ble_eq_true rfl) dX0_count_2 ⟨(Nat.le_of_ble_eq_true rfl), (Nat.le_of_ble_eq_true rfl)⟩ hnt hlocks ⟨(Nat.le_of_ble_eq_true rfl), (Nat.le_of_ble_eq_true rfl)⟩ (fun E h => by simp [rW, h.1, h.2]) (fun S1 H locs hp hC1 => ?_)
  obtain ⟨e1, hp⟩ := hp
  rw [e1] at hC1; replace hC := hC1
  have h1 := hp
  rw [hrel] at hp
  obtain ⟨r, hrR, rfl⟩ := inI_t (by omega) hp
  have er : ixN (nI r) = r := ixN_nI (by omega)
  have hr12 : r < 12 := by omega
  refine lv_aload_n S.1 S.2.1 dX0_count_5 rfl (lv_at hl 0 rfl) ?_
  refine lv_iload_n S.1 S.2.1 dX0_count_6 rfl (lv_at hl 1 rfl) ?_
  refine o_callv oiX S hC (c_X0_settle l hn hr12 ht12 ht (fun q hq => hw q (by omega))) cw_RX0_X0_settle ⟨rfl, rfl, by decide, by decide⟩ rfl hl.1 rfl (Nat.le_of_ble_eq_true rfl) dX0_count_7 ⟨(Nat.le_of_ble_eq_true rfl), (Nat.le_of_ble_eq_true rfl)⟩ (fun S1 H locs hp hC1 => ?_)
  have e1 := hp
  rw [e1] at hC1; replace hC := hC1
  refine lv_aload_n S.1 S.2.1 dX0_count_10 rfl (lv_at hl 0 rfl) ?_
  refine lv_iload_n S.1 S.2.1 dX0_count_11 rfl (lv_at hl 1 rfl) ?_
  refine o_calli oiX S hC (c_X0_pairsOf l hn hr12) cw_RX0_X0_pairsOf ⟨rfl, rfl, by decide, by decide⟩ rfl hl.1 rfl (Nat.le_of_ble_eq_true rfl) dX0_count_12 ⟨(Nat.le_of_ble_eq_true rfl), (Nat.le_of_ble_eq_true rfl)⟩ (fun r12 S1 H locs hp hC1 => ?_)
  obtain ⟨e1, hp⟩ := hp
  rw [e1] at hC1; replace hC := hC1
  subst hp
  exact vx_ret (o_iret S hr hlocks hC ⟨by rw [er]; rfl, by simp [rW, h1], by rw [er] <;> rfl⟩ rfl dX0_count_15 (Nat.le_of_ble_eq_true rfl) (Nat.le_of_ble_eq_true rfl))
set_option maxRecDepth 100000 in
set_option maxHeartbeats 4000000 in
theorem c_X0_length (l : Launch) (hs0 : l.stackTraces = false) {loc : Nat → Nat} {n : Nat} {g : Gc} (hn : n ≤ 40) {S0 : RS} {R : Nat} (hR : R ≤ 12) (hrel : S0.1 0 = nI R) {t : Nat} (ht12 : t ≤ 12) (ht : S0.1 1 = nI t) (hw : ∀ q, q < R → byC S0 q = true → wfR S0 q) (x a b : Int32) : TXi l yX0_length cX0_length 4 (some .int) (rmL 9 8 48) loc n g S0 [.int x, .int a, .int b] (fun v S' => S' = measF (stlF S0 n t (ixN x)) n (ixN x) (ixN b) ∧ rabW S0 n x a b = none ∧ v = S'.2.1 7 (ixN a)) (fun E => rabW S0 n x a b = some E) := by
  refine o_enterx (by decide) (Nat.le_of_ble_eq_true rfl) ?_
  intro p e s m below meth c ls S hr hlocks hnt hC hl
  refine lv_aload_n S.1 S.2.1 dX0_length_0 rfl (lv_at hl 0 rfl) ?_
  refine lv_iload_n S.1 S.2.1 dX0_length_1 rfl (lv_at hl 1 rfl) ?_
  refine o_xcallv oiX S hC (c_X0_needRelation l hs0 hn x) cw_RX0_X0_needRelation ⟨rfl, rfl, by decide, by decide⟩ rfl hl.1 rfl (Nat.le_of_ble_eq_true rfl) dX0_length_2 ⟨(Nat.le_of_ble_eq_true rfl), (Nat.le_of_ble_eq_true rfl)⟩ hnt hlocks ⟨(Nat.le_of_ble_eq_true rfl), (Nat.le_of_ble_eq_true rfl)⟩ (fun E h => by simp [rabW, h.1, h.2]) (fun S1 H locs hp hC1 => ?_)
  obtain ⟨e1, hp⟩ := hp
  rw [e1] at hC1; replace hC := hC1
  have h1 := hp
  rw [hrel] at hp
  obtain ⟨r, hrR, rfl⟩ := inI_t (by omega) hp
  have er : ixN (nI r) = r := ixN_nI (by omega)
  have hr12 : r < 12 := by omega
  refine lv_aload_n S.1 S.2.1 dX0_length_5 rfl (lv_at hl 0 rfl) ?_
  refine lv_iload_n S.1 S.2.1 dX0_length_6 rfl (lv_at hl 2 rfl) ?_
  refine o_xcallv oiX S hC (c_X0_needThing l hs0 hn a) cw_RX0_X0_needThing ⟨rfl, rfl, by decide, by decide⟩ rfl hl.1 rfl (Nat.le_of_ble_eq_true rfl) dX0_length_7 ⟨(Nat.le_of_ble_eq_true rfl), (Nat.le_of_ble_eq_true rfl)⟩ hnt hlocks ⟨(Nat.le_of_ble_eq_true rfl), (Nat.le_of_ble_eq_true rfl)⟩ (fun E h => by simp [rabW, h1, h.1, h.2]) (fun S1 H locs hp hC1 => ?_)
  obtain ⟨e1, hp⟩ := hp
  rw [e1] at hC1; replace hC := hC1
  have h2 := hp
  obtain ⟨a, ha, rfl⟩ := inI_t (by omega) h2
  have ea : ixN (nI a) = a := ixN_nI (by omega)
  refine lv_aload_n S.1 S.2.1 dX0_length_10 rfl (lv_at hl 0 rfl) ?_
  refine lv_iload_n S.1 S.2.1 dX0_length_11 rfl (lv_at hl 3 rfl) ?_
  refine o_xcallv oiX S hC (c_X0_needThing l hs0 hn b) cw_RX0_X0_needThing ⟨rfl, rfl, by decide, by decide⟩ rfl hl.1 rfl (Nat.le_of_ble_eq_true rfl) dX0_length_12 ⟨(Nat.le_of_ble_eq_true rfl), (Nat.le_of_ble_eq_true rfl)⟩ hnt hlocks ⟨(Nat.le_of_ble_eq_true rfl), (Nat.le_of_ble_eq_true rfl)⟩ (fun E h => by simp [rabW, h1, h2, h.1, h.2]) (fun S1 H locs hp hC1 => ?_)
  obtain ⟨e1, hp⟩ := hp
  rw [e1] at hC1; replace hC := hC1
  have h3 := hp
  obtain ⟨b, hb, rfl⟩ := inI_t (by omega) h3
  have eb : ixN (nI b) = b := ixN_nI (by omega)
  refine lv_aload_n S.1 S.2.1 dX0_length_15 rfl (lv_at hl 0 rfl) ?_
  refine lv_iload_n S.1 S.2.1 dX0_length_16 rfl (lv_at hl 1 rfl) ?_
  refine o_callv oiX S hC (c_X0_settle l hn hr12 ht12 ht (fun q hq => hw q (by omega))) cw_RX0_X0_settle ⟨rfl, rfl, by decide, by decide⟩ rfl hl.1 rfl (Nat.le_of_ble_eq_true rfl) dX0_length_17 ⟨(Nat.le_of_ble_eq_true rfl), (Nat.le_of_ble_eq_true rfl)⟩ (fun S1 H locs hp hC1 => ?_)
  have e1 := hp
  rw [e1] at hC1; replace hC := hC1
  refine lv_aload_n S.1 S.2.1 dX0_length_20 rfl (lv_at hl 0 rfl) ?_
  refine lv_iload_n S.1 S.2.1 dX0_length_21 rfl (lv_at hl 1 rfl) ?_
  refine lv_iload_n S.1 S.2.1 dX0_length_22 rfl (lv_at hl 3 rfl) ?_
  refine o_callv oiX S hC (c_X0_measureSteps l hn hr12 hb) cw_RX0_X0_measureSteps ⟨rfl, rfl, by decide, by decide⟩ rfl hl.1 rfl (Nat.le_of_ble_eq_true rfl) dX0_length_23 ⟨(Nat.le_of_ble_eq_true rfl), (Nat.le_of_ble_eq_true rfl)⟩ (fun S1 H locs hp hC1 => ?_)
  have e1 := hp
  rw [e1] at hC1; replace hC := hC1
  refine lv_aload_n S.1 S.2.1 dX0_length_26 rfl (lv_at hl 0 rfl) ?_
  refine x_get_steps S hC dX0_length_27 ?_
  refine lv_iload_n S.1 S.2.1 dX0_length_30 rfl (lv_at hl 2 rfl) ?_
  refine x_ild S hC hn 7 (by decide) ha dX0_length_31 ?_
  exact vx_ret (o_iret S hr hlocks hC ⟨by rw [er, eb]; rfl, by simp [rabW, h1, h2, h3], by rw [ea] <;> rfl⟩ rfl dX0_length_32 (Nat.le_of_ble_eq_true rfl) (Nat.le_of_ble_eq_true rfl))
def leadW (S : RS) (n : Nat) (x a : Int32) : Option String := if inI x (S.1 0) = false then some iaeS else if inI a (nI n) = false then some iaeS else if ¬ S.2.1 2 (ixN x) = nI 6 then some iseS else if ofK S (ixN a) (S.2.1 3 (ixN x)) = false then some iaeS else none
set_option maxRecDepth 100000 in
set_option maxHeartbeats 4000000 in
theorem c_X0_leader (l : Launch) (hs0 : l.stackTraces = false) {loc : Nat → Nat} {n : Nat} {g : Gc} (hn : n ≤ 40) {S0 : RS} {R : Nat} (hR : R ≤ 12) (hrel : S0.1 0 = nI R) (x a : Int32) : TXi l yX0_leader cX0_leader 3 (some .int) (rmL 9 8 48) loc n g S0 [.int x, .int a] (fun v S' => S' = S0 ∧ leadW S0 n x a = none ∧ v = ntzL (S0.2.2 (ixN x) (ixN a))) (fun E => leadW S0 n x a = some E) := by
  refine o_enterx (by decide) (Nat.le_of_ble_eq_true rfl) ?_
  intro p e s m below meth c ls S hr hlocks hnt hC hl
  refine lv_aload_n S.1 S.2.1 dX0_leader_0 rfl (lv_at hl 0 rfl) ?_
  refine lv_iload_n S.1 S.2.1 dX0_leader_1 rfl (lv_at hl 1 rfl) ?_
  refine o_xcallv oiX S hC (c_X0_needRelation l hs0 hn x) cw_RX0_X0_needRelation ⟨rfl, rfl, by decide, by decide⟩ rfl hl.1 rfl (Nat.le_of_ble_eq_true rfl) dX0_leader_2 ⟨(Nat.le_of_ble_eq_true rfl), (Nat.le_of_ble_eq_true rfl)⟩ hnt hlocks ⟨(Nat.le_of_ble_eq_true rfl), (Nat.le_of_ble_eq_true rfl)⟩ (fun E h => by simp [leadW, h.1, h.2]) (fun S1 H locs hp hC1 => ?_)
  obtain ⟨e1, hp⟩ := hp
  rw [e1] at hC1; replace hC := hC1
  have h1 := hp
  rw [hrel] at hp
  obtain ⟨r, hrR, rfl⟩ := inI_t (by omega) hp
  have er : ixN (nI r) = r := ixN_nI (by omega)
  have hr12 : r < 12 := by omega
  refine lv_aload_n S.1 S.2.1 dX0_leader_5 rfl (lv_at hl 0 rfl) ?_
  refine lv_iload_n S.1 S.2.1 dX0_leader_6 rfl (lv_at hl 2 rfl) ?_
  refine o_xcallv oiX S hC (c_X0_needThing l hs0 hn a) cw_RX0_X0_needThing ⟨rfl, rfl, by decide, by decide⟩ rfl hl.1 rfl (Nat.le_of_ble_eq_true rfl) dX0_leader_7 ⟨(Nat.le_of_ble_eq_true rfl), (Nat.le_of_ble_eq_true rfl)⟩ hnt hlocks ⟨(Nat.le_of_ble_eq_true rfl), (Nat.le_of_ble_eq_true rfl)⟩ (fun E h => by simp [leadW, h1, h.1, h.2]) (fun S1 H locs hp hC1 => ?_)
  obtain ⟨e1, hp⟩ := hp
  rw [e1] at hC1; replace hC := hC1
  have h2 := hp
  obtain ⟨a, ha, rfl⟩ := inI_t (by omega) h2
  have ea : ixN (nI a) = a := ixN_nI (by omega)
  refine lv_aload_n S.1 S.2.1 dX0_leader_10 rfl (lv_at hl 0 rfl) ?_
  refine x_get_forms S hC dX0_leader_11 ?_
  refine lv_iload_n S.1 S.2.1 dX0_leader_14 rfl (lv_at hl 1 rfl) ?_
  refine x_ild S hC hn 2 (by decide) hr12 dX0_leader_15 ?_
  refine lv_bipush (v := nI 6) S.1 S.2.1 dX0_leader_16 rfl ?_
  refine lv_icmp_eq (tgt := 31) S.1 S.2.1 dX0_leader_18 (by decide) (fun c18 => ?_) (fun c18 => ?_)
  · skip
    refine lv_aload_n S.1 S.2.1 dX0_leader_31 rfl (lv_at hl 0 rfl) ?_
    refine lv_iload_n S.1 S.2.1 dX0_leader_32 rfl (lv_at hl 2 rfl) ?_
    refine lv_aload_n S.1 S.2.1 dX0_leader_33 rfl (lv_at hl 0 rfl) ?_
    refine x_get_firsts S hC dX0_leader_34 ?_
    refine lv_iload_n S.1 S.2.1 dX0_leader_37 rfl (lv_at hl 1 rfl) ?_
    refine x_ild S hC hn 3 (by decide) hr12 dX0_leader_38 ?_
    refine o_calli oiX S hC (c_X0_isOfKind l hn ha _) cw_RX0_X0_isOfKind ⟨rfl, rfl, by decide, by decide⟩ rfl hl.1 rfl (Nat.le_of_ble_eq_true rfl) dX0_leader_39 ⟨(Nat.le_of_ble_eq_true rfl), (Nat.le_of_ble_eq_true rfl)⟩ (fun r39 S1 H locs hp hC1 => ?_)
    obtain ⟨e1, hp⟩ := hp
    rw [e1] at hC1; replace hC := hC1
    subst hp
    refine b_if_ne (tgt := 55) S.1 S.2.1 dX0_leader_42 (by decide) (fun c42 => ?_) (fun c42 => ?_)
    · skip
      refine lv_aload_n S.1 S.2.1 dX0_leader_55 rfl (lv_at hl 0 rfl) ?_
      refine x_get_rows S hC dX0_leader_56 ?_
      refine lv_iload_n S.1 S.2.1 dX0_leader_59 rfl (lv_at hl 1 rfl) ?_
      refine x_aald S hC hr12 dX0_leader_60 ?_
      refine lv_iload_n S.1 S.2.1 dX0_leader_61 rfl (lv_at hl 2 rfl) ?_
      refine x_lld S hC hn hr12 ha dX0_leader_62 ?_
      refine s_calli S (c_J13_numberOfTrailingZeros_95d88 l _) cw_RX0_J13_numberOfTrailingZeros_95d88 ⟨rfl, rfl, by decide, by decide⟩ rfl hl.1 rfl (Nat.le_of_ble_eq_true rfl) dX0_leader_63 ⟨(Nat.le_of_ble_eq_true rfl), (Nat.le_of_ble_eq_true rfl)⟩ (fun r63 hp => ?_)
      subst hp
      exact vx_ret (o_iret S hr hlocks hC ⟨rfl, by simp [leadW, h1, h2, er, ea, c18, c42], by rw [er, ea]⟩ rfl dX0_leader_66 (Nat.le_of_ble_eq_true rfl) (Nat.le_of_ble_eq_true rfl))
    · skip
      exact x_throw_iae (tx := "the thing is of another kind") hs0 S hC (by decide) hnt hlocks hl.1 (by simp [leadW, h1, h2, er, ea, c18, c42]) dX0_leader_45 dX0_leader_48 dX0_leader_49 dX0_leader_51 dX0_leader_54 ⟨(Nat.le_of_ble_eq_true rfl), (Nat.le_of_ble_eq_true rfl), (Nat.le_of_ble_eq_true rfl), (Nat.le_of_ble_eq_true rfl)⟩ ⟨(Nat.le_of_ble_eq_true rfl), (Nat.le_of_ble_eq_true rfl)⟩
  · skip
    exact x_throw_ise (tx := "the relation has no classes") hs0 S hC (by decide) hnt hlocks hl.1 (by simp [leadW, h1, h2, er, c18]) dX0_leader_21 dX0_leader_24 dX0_leader_25 dX0_leader_27 dX0_leader_30 ⟨(Nat.le_of_ble_eq_true rfl), (Nat.le_of_ble_eq_true rfl), (Nat.le_of_ble_eq_true rfl), (Nat.le_of_ble_eq_true rfl)⟩ ⟨(Nat.le_of_ble_eq_true rfl), (Nat.le_of_ble_eq_true rfl)⟩
def rsW (S : RS) (x y : Int32) : Option String := if inI x (S.1 0) = false then some iaeS else if inI y (S.1 0) = false then some iaeS else none
def difG (S : RS) (r q : Nat) : Nat → Nat → Int32
  | 0, _ => -1
  | k + 1, a => if S.2.2 r a ^^^ S.2.2 q a = 0 then difG S r q k (a + 1) else nI (a * 40) + ntzL (S.2.2 r a ^^^ S.2.2 q a)
set_option maxRecDepth 100000 in
set_option maxHeartbeats 4000000 in
theorem c_X0_differ (l : Launch) (hs0 : l.stackTraces = false) {loc : Nat → Nat} {n : Nat} {g : Gc} (hn : n ≤ 40) {S0 : RS} {R : Nat} (hR : R ≤ 12) (hrel : S0.1 0 = nI R) {t : Nat} (ht12 : t ≤ 12) (ht : S0.1 1 = nI t) (hw : ∀ q, q < R → byC S0 q = true → wfR S0 q) (x y : Int32) : TXi l yX0_differ cX0_differ 6 (some .int) (rmL 9 8 48) loc n g S0 [.int x, .int y] (fun v S' => S' = stlF S0 n t (max (ixN x) (ixN y)) ∧ rsW S0 x y = none ∧ v = difG S' (ixN x) (ixN y) n 0) (fun E => rsW S0 x y = some E) := by
  refine o_enterx (by decide) (Nat.le_of_ble_eq_true rfl) ?_
  intro p e s m below meth c ls S hr hlocks hnt hC hl
  refine lv_aload_n S.1 S.2.1 dX0_differ_0 rfl (lv_at hl 0 rfl) ?_
  refine lv_iload_n S.1 S.2.1 dX0_differ_1 rfl (lv_at hl 1 rfl) ?_
  refine o_xcallv oiX S hC (c_X0_needRelation l hs0 hn x) cw_RX0_X0_needRelation ⟨rfl, rfl, by decide, by decide⟩ rfl hl.1 rfl (Nat.le_of_ble_eq_true rfl) dX0_differ_2 ⟨(Nat.le_of_ble_eq_true rfl), (Nat.le_of_ble_eq_true rfl)⟩ hnt hlocks ⟨(Nat.le_of_ble_eq_true rfl), (Nat.le_of_ble_eq_true rfl)⟩ (fun E h => by simp [rsW, h.1, h.2]) (fun S1 H locs hp hC1 => ?_)
  obtain ⟨e1, hp⟩ := hp
  rw [e1] at hC1; replace hC := hC1
  have h1 := hp
  rw [hrel] at hp
  obtain ⟨r, hrR, e0x⟩ := inI_t (by omega) hp
  have er : ixN x = r := by rw [e0x]; exact ixN_nI (by omega)
  have hr12 : r < 12 := by omega
  rw [e0x] at hl
  refine lv_aload_n S.1 S.2.1 dX0_differ_5 rfl (lv_at hl 0 rfl) ?_
  refine lv_iload_n S.1 S.2.1 dX0_differ_6 rfl (lv_at hl 2 rfl) ?_
  refine o_xcallv oiX S hC (c_X0_needRelation l hs0 hn y) cw_RX0_X0_needRelation ⟨rfl, rfl, by decide, by decide⟩ rfl hl.1 rfl (Nat.le_of_ble_eq_true rfl) dX0_differ_7 ⟨(Nat.le_of_ble_eq_true rfl), (Nat.le_of_ble_eq_true rfl)⟩ hnt hlocks ⟨(Nat.le_of_ble_eq_true rfl), (Nat.le_of_ble_eq_true rfl)⟩ (fun E h => by simp [rsW, h1, h.1, h.2]) (fun S1 H locs hp hC1 => ?_)
  obtain ⟨e1, hp⟩ := hp
  rw [e1] at hC1; replace hC := hC1
  have h2 := hp
  rw [hrel] at hp
  obtain ⟨q, hqR, e0y⟩ := inI_t (by omega) hp
  have eq : ixN y = q := by rw [e0y]; exact ixN_nI (by omega)
  have hq12 : q < 12 := by omega
  rw [e0y] at hl
  refine lv_aload_n S.1 S.2.1 dX0_differ_10 rfl (lv_at hl 0 rfl) ?_
  refine lv_iload_n S.1 S.2.1 dX0_differ_11 rfl (lv_at hl 1 rfl) ?_
  refine lv_iload_n S.1 S.2.1 dX0_differ_12 rfl (lv_at hl 2 rfl) ?_
  refine x_max S hl.1 (by omega) (by omega) ⟨(Nat.le_of_ble_eq_true rfl), (Nat.le_of_ble_eq_true rfl), (Nat.le_of_ble_eq_true rfl), (Nat.le_of_ble_eq_true rfl)⟩ dX0_differ_13 ?_
  refine o_callv oiX S hC (c_X0_settle l hn (r := max r q) (by omega) ht12 ht (fun q' hq => hw q' (by omega))) cw_RX0_X0_settle ⟨rfl, rfl, by decide, by decide⟩ rfl hl.1 rfl (Nat.le_of_ble_eq_true rfl) dX0_differ_16 ⟨(Nat.le_of_ble_eq_true rfl), (Nat.le_of_ble_eq_true rfl)⟩ (fun S1 H locs hp hC1 => ?_)
  have e1 := hp
  rw [e1] at hC1; replace hC := hC1
  replace hC : CX loc n g (stlF S0 n t (max r q)) s H locs := hC
  refine W.widen (k := 8) (n := 48) (Nat.le_of_ble_eq_true rfl) (Nat.le_of_ble_eq_true rfl) ?_
  refine lv_iconst (v := nI 0) S.1 S.2.1 dX0_differ_19 rfl ?_
  refine lv_istore_n S.1 S.2.1 dX0_differ_20 rfl hl (by decide) rfl (fun ls hl => ?_)
  have loop : ∀ (k i : Nat), n - i < k → i ≤ n → ∀ (hT : difG (stlF S0 n t (max r q)) r q n 0 = difG (stlF S0 n t (max r q)) r q (n - i) i), ∀ (H : Heap) (locs : List Loc) (ls : Array Slot), CX loc n g ((stlF S0 n t (max r q))) s H locs → lv_has ls 6 [(0, .ref (loc 0)), (1, .int (nI r)), (2, .int (nI q)), (3, .int (nI i))] → W p l e (rmL 9 8 48) s m ([.ref (loc 0), .int x, .int y] : List Value).toArray below meth c H locs 8 48 (vx_MQ below (va_Qi (fun v S' => S' = stlF S0 n t (max (ixN x) (ixN y)) ∧ rsW S0 x y = none ∧ v = difG S' (ixN x) (ixN y) n 0) (fun S' t => HX loc n g S' t.heap) (ZA loc 21)) (Xc (HX loc n g) S0 (ZA loc 21) (fun E => rsW S0 x y = some E)) ([.ref (loc 0), .int x, .int y] : List Value).toArray s (rmL 9 8 48).cells (rmL 9 8 48).slots (ZA loc 21)) (F0 m 21 ls []) := by
    intro k
    induction k with
    | zero => intro i hk; omega
    | succ k ih =>
      intro i hk hi hT H locs ls hC hl
      refine lv_iload_n S.1 S.2.1 dX0_differ_21 rfl (lv_at hl 3 rfl) ?_
      refine lv_aload_n S.1 S.2.1 dX0_differ_22 rfl (lv_at hl 0 rfl) ?_
      refine x_get_things S hC dX0_differ_23 ?_
      refine n_icmp_ge (tgt := 72) S.1 S.2.1 dX0_differ_26 (by decide) (by omega) (by omega) (fun c26 => ?_) (fun c26 => ?_)
      · skip
        refine lv_iconst (v := -1) S.1 S.2.1 dX0_differ_72 rfl ?_
        exact vx_ret (o_iret S hr hlocks hC ⟨by rw [er, eq], by simp [rsW, h1, h2], by rw [er, eq, hT, show n - i = 0 by omega, difG]⟩ rfl dX0_differ_73 (Nat.le_of_ble_eq_true rfl) (Nat.le_of_ble_eq_true rfl))
      · skip
        refine lv_aload_n S.1 S.2.1 dX0_differ_29 rfl (lv_at hl 0 rfl) ?_
        refine x_get_rows S hC dX0_differ_30 ?_
        refine lv_iload_n S.1 S.2.1 dX0_differ_33 rfl (lv_at hl 1 rfl) ?_
        refine x_aald S hC hr12 dX0_differ_34 ?_
        refine lv_iload_n S.1 S.2.1 dX0_differ_35 rfl (lv_at hl 3 rfl) ?_
        refine x_lld S hC hn hr12 (show i < n by omega) dX0_differ_36 ?_
        refine lv_aload_n S.1 S.2.1 dX0_differ_37 rfl (lv_at hl 0 rfl) ?_
        refine x_get_rows S hC dX0_differ_38 ?_
        refine lv_iload_n S.1 S.2.1 dX0_differ_41 rfl (lv_at hl 2 rfl) ?_
        refine x_aald S hC hq12 dX0_differ_42 ?_
        refine lv_iload_n S.1 S.2.1 dX0_differ_43 rfl (lv_at hl 3 rfl) ?_
        refine x_lld S hC hn hq12 (show i < n by omega) dX0_differ_44 ?_
        refine lv_lxor S.1 S.2.1 dX0_differ_45 ?_
        refine lv_lstore S.1 S.2.1 dX0_differ_46 hl (by decide) rfl (fun ls hl => ?_)
        refine lv_lload S.1 S.2.1 dX0_differ_48 (lv_at hl 0 rfl) ?_
        refine lv_lconst (v := 0) S.1 S.2.1 dX0_differ_50 rfl ?_
        refine W.lcmp S.1 S.2.1 dX0_differ_51 ?_
        refine lv_if_eq (tgt := 66) S.1 S.2.1 dX0_differ_52 (by decide) (fun c52 => ?_) (fun c52 => ?_)
        · skip
          refine lv_iinc (k := 4) S.1 S.2.1 dX0_differ_66 hl rfl (n_inc _) (by decide) rfl (fun ls hl => ?_)
          refine lv_goto (tgt := 21) S.1 S.2.1 dX0_differ_69 (by decide) ?_
          exact ih (i + 1) (by omega) (by omega) (by rw [hT, show n - i = (n - (i + 1)) + 1 by omega, difG, if_pos ((lg_cmp_eq _ _).mp c52)]) _ _ _ hC (lv_sub hl [2, 3, 4, 0] rfl)
        · skip
          refine lv_iload_n S.1 S.2.1 dX0_differ_55 rfl (lv_at hl 4 rfl) ?_
          refine lv_bipush (v := nI 40) S.1 S.2.1 dX0_differ_56 rfl ?_
          refine t_imul S.1 S.2.1 dX0_differ_58 (pk_mul _ _) ?_
          refine lv_lload S.1 S.2.1 dX0_differ_59 (lv_at hl 0 rfl) ?_
          refine s_calli S (c_J13_numberOfTrailingZeros_95d88 l _) cw_RX0_J13_numberOfTrailingZeros_95d88 ⟨rfl, rfl, by decide, by decide⟩ rfl hl.1 rfl (Nat.le_of_ble_eq_true rfl) dX0_differ_61 ⟨(Nat.le_of_ble_eq_true rfl), (Nat.le_of_ble_eq_true rfl)⟩ (fun r61 hp => ?_)
          subst hp
          refine lv_iadd S.1 S.2.1 dX0_differ_64 ?_
          exact vx_ret (o_iret S hr hlocks hC ⟨by rw [er, eq], by simp [rsW, h1, h2], by rw [er, eq, hT, show n - i = (n - (i + 1)) + 1 by omega, difG, if_neg (fun q => c52 ((lg_cmp_eq _ _).mpr q))]⟩ rfl dX0_differ_65 (Nat.le_of_ble_eq_true rfl) (Nat.le_of_ble_eq_true rfl))
  exact loop (n + 1) 0 (by omega) (by omega) rfl _ _ _ hC (lv_sub hl [1, 2, 3, 0] rfl)
def talW (n : Nat) (a b : Int32) : Option String := if inI a (nI n) = false ∨ inI b (nI n) = false then some aioS else none
set_option maxRecDepth 100000 in
set_option maxHeartbeats 4000000 in
theorem c_X0_tally (l : Launch) (hs0 : l.stackTraces = false) {loc : Nat → Nat} {n : Nat} {g : Gc} (hn : n ≤ 40) {S0 : RS} (a b : Int32) : TXi l yX0_tally cX0_tally 3 (some .int) (rmL 9 8 48) loc n g S0 [.int a, .int b] (fun v S' => S' = S0 ∧ talW n a b = none ∧ v = S0.2.1 1 (ixN a * n + ixN b)) (fun E => talW n a b = some E) := by
  refine o_enterx (by decide) (Nat.le_of_ble_eq_true rfl) ?_
  intro p e s m below meth c ls S hr hlocks hnt hC hl
  refine lv_aload_n S.1 S.2.1 dX0_tally_0 rfl (lv_at hl 0 rfl) ?_
  refine lv_iload_n S.1 S.2.1 dX0_tally_1 rfl (lv_at hl 1 rfl) ?_
  refine o_calli oiX S hC (c_X0_isThing l hn a) cw_RX0_X0_isThing ⟨rfl, rfl, by decide, by decide⟩ rfl hl.1 rfl (Nat.le_of_ble_eq_true rfl) dX0_tally_2 ⟨(Nat.le_of_ble_eq_true rfl), (Nat.le_of_ble_eq_true rfl)⟩ (fun r2 S1 H locs hp hC1 => ?_)
  obtain ⟨e1, hp⟩ := hp
  rw [e1] at hC1; replace hC := hC1
  subst hp
  refine b_if_eq (tgt := 16) S.1 S.2.1 dX0_tally_5 (by decide) (fun c5 => ?_) (fun c5 => ?_)
  · skip
    exact x_throw_aio (tx := "no such thing") hs0 S hC (by decide) hnt hlocks hl.1 (by simp [talW, c5]) dX0_tally_16 dX0_tally_19 dX0_tally_20 dX0_tally_22 dX0_tally_25 ⟨(Nat.le_of_ble_eq_true rfl), (Nat.le_of_ble_eq_true rfl), (Nat.le_of_ble_eq_true rfl), (Nat.le_of_ble_eq_true rfl)⟩ ⟨(Nat.le_of_ble_eq_true rfl), (Nat.le_of_ble_eq_true rfl)⟩
  · skip
    refine lv_aload_n S.1 S.2.1 dX0_tally_8 rfl (lv_at hl 0 rfl) ?_
    refine lv_iload_n S.1 S.2.1 dX0_tally_9 rfl (lv_at hl 2 rfl) ?_
    refine o_calli oiX S hC (c_X0_isThing l hn b) cw_RX0_X0_isThing ⟨rfl, rfl, by decide, by decide⟩ rfl hl.1 rfl (Nat.le_of_ble_eq_true rfl) dX0_tally_10 ⟨(Nat.le_of_ble_eq_true rfl), (Nat.le_of_ble_eq_true rfl)⟩ (fun r10 S1 H locs hp hC1 => ?_)
    obtain ⟨e1, hp⟩ := hp
    rw [e1] at hC1; replace hC := hC1
    subst hp
    refine b_if_ne (tgt := 26) S.1 S.2.1 dX0_tally_13 (by decide) (fun c13 => ?_) (fun c13 => ?_)
    · obtain ⟨a, ha, rfl⟩ := inI_t (by omega) c5
      obtain ⟨b, hb, rfl⟩ := inI_t (by omega) c13
      have ea : ixN (nI a) = a := ixN_nI (by omega)
      have eb : ixN (nI b) = b := ixN_nI (by omega)
      refine lv_aload_n S.1 S.2.1 dX0_tally_26 rfl (lv_at hl 0 rfl) ?_
      refine x_get_tallies S hC dX0_tally_27 ?_
      refine lv_iload_n S.1 S.2.1 dX0_tally_30 rfl (lv_at hl 1 rfl) ?_
      refine lv_aload_n S.1 S.2.1 dX0_tally_31 rfl (lv_at hl 0 rfl) ?_
      refine x_get_things S hC dX0_tally_32 ?_
      refine t_imul S.1 S.2.1 dX0_tally_35 (pk_mul _ _) ?_
      refine lv_iload_n S.1 S.2.1 dX0_tally_36 rfl (lv_at hl 2 rfl) ?_
      refine t_iadd S.1 S.2.1 dX0_tally_37 (nI_add _ _) ?_
      refine x_ild S hC hn 1 (by decide) (show a * n + b < n * n from idx_lt ha hb) dX0_tally_38 ?_
      exact vx_ret (o_iret S hr hlocks hC ⟨rfl, by simp [talW, c5, c13], by rw [ea, eb]⟩ rfl dX0_tally_39 (Nat.le_of_ble_eq_true rfl) (Nat.le_of_ble_eq_true rfl))
    · skip
      exact x_throw_aio (tx := "no such thing") hs0 S hC (by decide) hnt hlocks hl.1 (by simp [talW, c13]) dX0_tally_16 dX0_tally_19 dX0_tally_20 dX0_tally_22 dX0_tally_25 ⟨(Nat.le_of_ble_eq_true rfl), (Nat.le_of_ble_eq_true rfl), (Nat.le_of_ble_eq_true rfl), (Nat.le_of_ble_eq_true rfl)⟩ ⟨(Nat.le_of_ble_eq_true rfl), (Nat.le_of_ble_eq_true rfl)⟩
def ofW (w : Int32) : Option String := if ¬ w = nI 0 ∧ ¬ w = nI 1 ∧ ¬ w = nI 2 then some iaeS else none
set_option maxRecDepth 100000 in
set_option maxHeartbeats 4000000 in
theorem c_X0_of (l : Launch) (hs0 : l.stackTraces = false) {loc : Nat → Nat} {n : Nat} {g : Gc} (hn : n ≤ 40) {S0 : RS} (w : Int32) : TXi l yX0_of cX0_of 2 (some .int) (rmL 9 8 48) loc n g S0 [.int w] (fun v S' => S' = S0 ∧ ofW w = none ∧ v = (if w = nI 0 then nI n else if w = nI 1 then S0.1 0 else S0.1 2)) (fun E => ofW w = some E) := by
  refine o_enterx (by decide) (Nat.le_of_ble_eq_true rfl) ?_
  intro p e s m below meth c ls S hr hlocks hnt hC hl
  refine lv_iload_n S.1 S.2.1 dX0_of_0 rfl (lv_at hl 1 rfl) ?_
  have hsw1 := trivial
  by_cases h1_0 : w = nI 0
  · refine lv_tableIn (off := 27) (tgt := 28) S.1 S.2.1 dX0_of_1 (by rw [h1_0]; decide) (by rw [h1_0]; decide) (by rw [h1_0]; rfl) (by decide) ?_
    refine lv_aload_n S.1 S.2.1 dX0_of_28 rfl (lv_at hl 0 rfl) ?_
    refine x_get_things S hC dX0_of_29 ?_
    exact vx_ret (o_iret S hr hlocks hC ⟨rfl, by simp [ofW, h1_0], by rw [if_pos h1_0]⟩ rfl dX0_of_32 (Nat.le_of_ble_eq_true rfl) (Nat.le_of_ble_eq_true rfl))
  · skip
    by_cases h1_1 : w = nI 1
    · refine lv_tableIn (off := 32) (tgt := 33) S.1 S.2.1 dX0_of_1 (by rw [h1_1]; decide) (by rw [h1_1]; decide) (by rw [h1_1]; rfl) (by decide) ?_
      refine lv_aload_n S.1 S.2.1 dX0_of_33 rfl (lv_at hl 0 rfl) ?_
      refine x_get_relations S hC dX0_of_34 ?_
      exact vx_ret (o_iret S hr hlocks hC ⟨rfl, by simp [ofW, h1_1], by rw [if_neg h1_0, if_pos h1_1]⟩ rfl dX0_of_37 (Nat.le_of_ble_eq_true rfl) (Nat.le_of_ble_eq_true rfl))
    · skip
      by_cases h1_2 : w = nI 2
      · refine lv_tableIn (off := 37) (tgt := 38) S.1 S.2.1 dX0_of_1 (by rw [h1_2]; decide) (by rw [h1_2]; decide) (by rw [h1_2]; rfl) (by decide) ?_
        refine lv_aload_n S.1 S.2.1 dX0_of_38 rfl (lv_at hl 0 rfl) ?_
        refine x_get_pushedCount S hC dX0_of_39 ?_
        exact vx_ret (o_iret S hr hlocks hC ⟨rfl, by simp [ofW, h1_2], by rw [if_neg h1_0, if_neg h1_1]⟩ rfl dX0_of_42 (Nat.le_of_ble_eq_true rfl) (Nat.le_of_ble_eq_true rfl))
      · skip
        refine lv_tableOut (tgt := 43) S.1 S.2.1 dX0_of_1 (tsw_out 2 (fun j hj => by rcases (show j = 0 ∨ j = 1 ∨ j = 2 by omega) with rfl | rfl | rfl <;> assumption)) (by decide) ?_
        exact x_throw_iae (tx := "what is 0, 1 or 2") hs0 S hC (by decide) hnt hlocks hl.1 (by simp [ofW, h1_0, h1_1, h1_2]) dX0_of_43 dX0_of_46 dX0_of_47 dX0_of_49 dX0_of_52 ⟨(Nat.le_of_ble_eq_true rfl), (Nat.le_of_ble_eq_true rfl), (Nat.le_of_ble_eq_true rfl), (Nat.le_of_ble_eq_true rfl)⟩ ⟨(Nat.le_of_ble_eq_true rfl), (Nat.le_of_ble_eq_true rfl)⟩
def toldW (S : RS) (x w : Int32) : Option String := if inI x (S.1 0) = false then some iaeS else if ¬ w = nI 0 ∧ ¬ w = nI 1 ∧ ¬ w = nI 2 then some iaeS else none
set_option maxRecDepth 100000 in
set_option maxHeartbeats 4000000 in
theorem c_X0_told (l : Launch) (hs0 : l.stackTraces = false) {loc : Nat → Nat} {n : Nat} {g : Gc} (hn : n ≤ 40) {S0 : RS} {R : Nat} (hR : R ≤ 12) (hrel : S0.1 0 = nI R) (x w : Int32) : TXi l yX0_told cX0_told 3 (some .int) (rmL 9 8 48) loc n g S0 [.int x, .int w] (fun v S' => S' = S0 ∧ toldW S0 x w = none ∧ v = (if w = nI 0 then S0.2.1 2 (ixN x) else if w = nI 1 then S0.2.1 3 (ixN x) else S0.2.1 4 (ixN x))) (fun E => toldW S0 x w = some E) := by
  refine o_enterx (by decide) (Nat.le_of_ble_eq_true rfl) ?_
  intro p e s m below meth c ls S hr hlocks hnt hC hl
  refine lv_aload_n S.1 S.2.1 dX0_told_0 rfl (lv_at hl 0 rfl) ?_
  refine lv_iload_n S.1 S.2.1 dX0_told_1 rfl (lv_at hl 1 rfl) ?_
  refine o_xcallv oiX S hC (c_X0_needRelation l hs0 hn x) cw_RX0_X0_needRelation ⟨rfl, rfl, by decide, by decide⟩ rfl hl.1 rfl (Nat.le_of_ble_eq_true rfl) dX0_told_2 ⟨(Nat.le_of_ble_eq_true rfl), (Nat.le_of_ble_eq_true rfl)⟩ hnt hlocks ⟨(Nat.le_of_ble_eq_true rfl), (Nat.le_of_ble_eq_true rfl)⟩ (fun E h => by simp [toldW, h.1, h.2]) (fun S1 H locs hp hC1 => ?_)
  obtain ⟨e1, hp⟩ := hp
  rw [e1] at hC1; replace hC := hC1
  have h1 := hp
  rw [hrel] at hp
  obtain ⟨r, hrR, rfl⟩ := inI_t (by omega) hp
  have er : ixN (nI r) = r := ixN_nI (by omega)
  have hr12 : r < 12 := by omega
  refine lv_iload_n S.1 S.2.1 dX0_told_5 rfl (lv_at hl 2 rfl) ?_
  have hsw6 := trivial
  by_cases h6_0 : w = nI 0
  · refine lv_tableIn (off := 26) (tgt := 32) S.1 S.2.1 dX0_told_6 (by rw [h6_0]; decide) (by rw [h6_0]; decide) (by rw [h6_0]; rfl) (by decide) ?_
    refine lv_aload_n S.1 S.2.1 dX0_told_32 rfl (lv_at hl 0 rfl) ?_
    refine x_get_forms S hC dX0_told_33 ?_
    refine lv_iload_n S.1 S.2.1 dX0_told_36 rfl (lv_at hl 1 rfl) ?_
    refine x_ild S hC hn 2 (by decide) hr12 dX0_told_37 ?_
    exact vx_ret (o_iret S hr hlocks hC ⟨rfl, by simp [toldW, h1, h6_0], by rw [if_pos h6_0, er]⟩ rfl dX0_told_38 (Nat.le_of_ble_eq_true rfl) (Nat.le_of_ble_eq_true rfl))
  · skip
    by_cases h6_1 : w = nI 1
    · refine lv_tableIn (off := 33) (tgt := 39) S.1 S.2.1 dX0_told_6 (by rw [h6_1]; decide) (by rw [h6_1]; decide) (by rw [h6_1]; rfl) (by decide) ?_
      refine lv_aload_n S.1 S.2.1 dX0_told_39 rfl (lv_at hl 0 rfl) ?_
      refine x_get_firsts S hC dX0_told_40 ?_
      refine lv_iload_n S.1 S.2.1 dX0_told_43 rfl (lv_at hl 1 rfl) ?_
      refine x_ild S hC hn 3 (by decide) hr12 dX0_told_44 ?_
      exact vx_ret (o_iret S hr hlocks hC ⟨rfl, by simp [toldW, h1, h6_1], by rw [if_neg h6_0, if_pos h6_1, er]⟩ rfl dX0_told_45 (Nat.le_of_ble_eq_true rfl) (Nat.le_of_ble_eq_true rfl))
    · skip
      by_cases h6_2 : w = nI 2
      · refine lv_tableIn (off := 40) (tgt := 46) S.1 S.2.1 dX0_told_6 (by rw [h6_2]; decide) (by rw [h6_2]; decide) (by rw [h6_2]; rfl) (by decide) ?_
        refine lv_aload_n S.1 S.2.1 dX0_told_46 rfl (lv_at hl 0 rfl) ?_
        refine x_get_seconds S hC dX0_told_47 ?_
        refine lv_iload_n S.1 S.2.1 dX0_told_50 rfl (lv_at hl 1 rfl) ?_
        refine x_ild S hC hn 4 (by decide) hr12 dX0_told_51 ?_
        exact vx_ret (o_iret S hr hlocks hC ⟨rfl, by simp [toldW, h1, h6_2], by rw [if_neg h6_0, if_neg h6_1, er]⟩ rfl dX0_told_52 (Nat.le_of_ble_eq_true rfl) (Nat.le_of_ble_eq_true rfl))
      · skip
        refine lv_tableOut (tgt := 53) S.1 S.2.1 dX0_told_6 (tsw_out 2 (fun j hj => by rcases (show j = 0 ∨ j = 1 ∨ j = 2 by omega) with rfl | rfl | rfl <;> assumption)) (by decide) ?_
        exact x_throw_iae (tx := "what is 0, 1 or 2") hs0 S hC (by decide) hnt hlocks hl.1 (by simp [toldW, h1, h6_0, h6_1, h6_2]) dX0_told_53 dX0_told_56 dX0_told_57 dX0_told_59 dX0_told_62 ⟨(Nat.le_of_ble_eq_true rfl), (Nat.le_of_ble_eq_true rfl), (Nat.le_of_ble_eq_true rfl), (Nat.le_of_ble_eq_true rfl)⟩ ⟨(Nat.le_of_ble_eq_true rfl), (Nat.le_of_ble_eq_true rfl)⟩
def clrF (S : RS) : RS := fillF (fillF (sI (sI (sI S 0 (nI 0)) 1 (nI 0)) 2 (nI 0)) 0 (nI 0)) 1 (nI 0)
set_option maxRecDepth 100000 in
set_option maxHeartbeats 4000000 in
theorem c_X0_clear (l : Launch) {loc : Nat → Nat} {n : Nat} {g : Gc} (hn : n ≤ 40) {S0 : RS} : MXi l yX0_clear cX0_clear 2 (some .int) (rmL 2 0 0) loc n g S0 [] (fun v S' => S' = clrF S0 ∧ v = S0.1 0) := by
  refine o_enter (by decide) (Nat.le_of_ble_eq_true rfl) ?_
  intro p e s m below meth c ls S hr hlocks hC hl
  refine lv_aload_n S.1 S.2.1 dX0_clear_0 rfl (lv_at hl 0 rfl) ?_
  refine x_get_relations S hC dX0_clear_1 ?_
  refine lv_istore_n S.1 S.2.1 dX0_clear_4 rfl hl (by decide) rfl (fun ls hl => ?_)
  refine lv_aload_n S.1 S.2.1 dX0_clear_5 rfl (lv_at hl 1 rfl) ?_
  refine lv_iconst (v := nI 0) S.1 S.2.1 dX0_clear_6 rfl ?_
  refine x_put_relations S hC dX0_clear_7 (fun H locs hC => ?_)
  refine lv_aload_n S.1 S.2.1 dX0_clear_10 rfl (lv_at hl 1 rfl) ?_
  refine lv_iconst (v := nI 0) S.1 S.2.1 dX0_clear_11 rfl ?_
  refine x_put_settled S hC dX0_clear_12 (fun H locs hC => ?_)
  refine lv_aload_n S.1 S.2.1 dX0_clear_15 rfl (lv_at hl 1 rfl) ?_
  refine lv_iconst (v := nI 0) S.1 S.2.1 dX0_clear_16 rfl ?_
  refine x_put_pushedCount S hC dX0_clear_17 (fun H locs hC => ?_)
  refine lv_aload_n S.1 S.2.1 dX0_clear_20 rfl (lv_at hl 1 rfl) ?_
  refine x_get_kinds S hC dX0_clear_21 ?_
  refine lv_iconst (v := nI 0) S.1 S.2.1 dX0_clear_24 rfl ?_
  refine x_fill S hC hn 0 (by decide) hl.1 (Nat.le_of_ble_eq_true rfl) ⟨(Nat.le_of_ble_eq_true rfl), (Nat.le_of_ble_eq_true rfl), (Nat.le_of_ble_eq_true rfl), (Nat.le_of_ble_eq_true rfl)⟩ dX0_clear_25 (fun H locs hC => ?_)
  refine lv_aload_n S.1 S.2.1 dX0_clear_28 rfl (lv_at hl 1 rfl) ?_
  refine x_get_tallies S hC dX0_clear_29 ?_
  refine lv_iconst (v := nI 0) S.1 S.2.1 dX0_clear_32 rfl ?_
  refine x_fill S hC hn 1 (by decide) hl.1 (Nat.le_of_ble_eq_true rfl) ⟨(Nat.le_of_ble_eq_true rfl), (Nat.le_of_ble_eq_true rfl), (Nat.le_of_ble_eq_true rfl), (Nat.le_of_ble_eq_true rfl)⟩ dX0_clear_33 (fun H locs hC => ?_)
  refine lv_iload_n S.1 S.2.1 dX0_clear_36 rfl (lv_at hl 0 rfl) ?_
  exact o_iret S hr hlocks hC ⟨rfl, rfl⟩ rfl dX0_clear_37 (Nat.le_of_ble_eq_true rfl) (Nat.le_of_ble_eq_true rfl)
