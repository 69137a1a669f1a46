set_option maxRecDepth 100000 in
set_option maxHeartbeats 4000000 in
theorem c_X0_next (l : Launch) (hs0 : l.stackTraces = false) {loc : Nat → Nat} {n : Nat} {g : Gc} (hn : n ≤ 40) {S0 : RS} {R : Nat} (hR : R ≤ 12) (hrel : S0.1 0 = nI R) {t : Nat} (ht12 : t ≤ 12) (ht : S0.1 1 = nI t) (hw : ∀ q, q < R → byC S0 q = true → wfR S0 q) (x a i : Int32) : GXi l yX0_next cX0_next 4 (some .int) (rmL 9 8 48) loc n g S0 [.int x, .int a, .int i] (fun v S' => S' = stlF S0 n t (ixN x) ∧ raW S0 n x a = none ∧ pickW (S'.2.2 (ixN x) (ixN a)) i = true ∧ v = ntzL (lowF (S'.2.2 (ixN x) (ixN a)) (ixN i))) (fun E u => (raW S0 n x a = some E ∧ u = S0) ∨ (raW S0 n x a = none ∧ E = nseS ∧ u = stlF S0 n t (ixN x) ∧ pickW (u.2.2 (ixN x) (ixN a)) i = false)) := by
  refine o_enterx (by decide) (Nat.le_of_ble_eq_true rfl) ?_
  intro p e s m below meth c ls S hr hlocks hnt hC hl
  refine lv_aload_n S.1 S.2.1 dX0_next_0 rfl (lv_at hl 0 rfl) ?_
  refine lv_iload_n S.1 S.2.1 dX0_next_1 rfl (lv_at hl 1 rfl) ?_
  refine o_ycallv oiX S hC (c_X0_needRelation l hs0 hn x) cw_RX0_X0_needRelation ⟨rfl, rfl, by decide, by decide⟩ rfl hl.1 rfl (Nat.le_of_ble_eq_true rfl) dX0_next_2 ⟨(Nat.le_of_ble_eq_true rfl), (Nat.le_of_ble_eq_true rfl)⟩ hnt hlocks ⟨(Nat.le_of_ble_eq_true rfl), (Nat.le_of_ble_eq_true rfl)⟩ (fun E h => Or.inl ⟨by simp [raW, h.1, h.2], rfl⟩) (fun S1 H locs hp hC1 => ?_)
  obtain ⟨e1, hp⟩ := hp
  rw [e1] at hC1; replace hC := hC1
  have h1 := hp
  rw [hrel] at hp
  obtain ⟨r, hrR, rfl⟩ := inI_t (by omega) hp
  have er : ixN (nI r) = r := ixN_nI (by omega)
  have hr12 : r < 12 := by omega
  refine lv_aload_n S.1 S.2.1 dX0_next_5 rfl (lv_at hl 0 rfl) ?_
  refine lv_iload_n S.1 S.2.1 dX0_next_6 rfl (lv_at hl 2 rfl) ?_
  refine o_ycallv oiX S hC (c_X0_needThing l hs0 hn a) cw_RX0_X0_needThing ⟨rfl, rfl, by decide, by decide⟩ rfl hl.1 rfl (Nat.le_of_ble_eq_true rfl) dX0_next_7 ⟨(Nat.le_of_ble_eq_true rfl), (Nat.le_of_ble_eq_true rfl)⟩ hnt hlocks ⟨(Nat.le_of_ble_eq_true rfl), (Nat.le_of_ble_eq_true rfl)⟩ (fun E h => Or.inl ⟨by simp [raW, h1, h.1, h.2], rfl⟩) (fun S1 H locs hp hC1 => ?_)
  obtain ⟨e1, hp⟩ := hp
  rw [e1] at hC1; replace hC := hC1
  have h2 := hp
  obtain ⟨a, ha, rfl⟩ := inI_t (by omega) h2
  have ea : ixN (nI a) = a := ixN_nI (by omega)
  refine lv_aload_n S.1 S.2.1 dX0_next_10 rfl (lv_at hl 0 rfl) ?_
  refine lv_iload_n S.1 S.2.1 dX0_next_11 rfl (lv_at hl 1 rfl) ?_
  refine o_callv oiX S hC (c_X0_settle l hn hr12 ht12 ht (fun q hq => hw q (by omega))) cw_RX0_X0_settle ⟨rfl, rfl, by decide, by decide⟩ rfl hl.1 rfl (Nat.le_of_ble_eq_true rfl) dX0_next_12 ⟨(Nat.le_of_ble_eq_true rfl), (Nat.le_of_ble_eq_true rfl)⟩ (fun S1 H locs hp hC1 => ?_)
  have e1 := hp
  rw [e1] at hC1; replace hC := hC1
  replace hC : CX loc n g (stlF S0 n t r) s H locs := hC
  refine lv_aload_n S.1 S.2.1 dX0_next_15 rfl (lv_at hl 0 rfl) ?_
  refine lv_aload_n S.1 S.2.1 dX0_next_16 rfl (lv_at hl 0 rfl) ?_
  refine x_get_rows S hC dX0_next_17 ?_
  refine lv_iload_n S.1 S.2.1 dX0_next_20 rfl (lv_at hl 1 rfl) ?_
  refine x_aald S hC hr12 dX0_next_21 ?_
  refine lv_iload_n S.1 S.2.1 dX0_next_22 rfl (lv_at hl 2 rfl) ?_
  refine x_lld S hC hn hr12 ha dX0_next_23 ?_
  refine lv_iload_n S.1 S.2.1 dX0_next_24 rfl (lv_at hl 3 rfl) ?_
  refine o_ycalli oiX S hC (c_X0_pick l hs0 hn _ i) cw_RX0_X0_pick ⟨rfl, rfl, by decide, by decide⟩ rfl hl.1 rfl (Nat.le_of_ble_eq_true rfl) dX0_next_25 ⟨(Nat.le_of_ble_eq_true rfl), (Nat.le_of_ble_eq_true rfl)⟩ hnt hlocks ⟨(Nat.le_of_ble_eq_true rfl), (Nat.le_of_ble_eq_true rfl)⟩ (fun E h => Or.inr ⟨by simp [raW, h1, h2], h.1, by rw [er], by rw [er, ea]; exact h.2⟩) (fun r25 S1 H locs hp hC1 => ?_)
  obtain ⟨e1, hp⟩ := hp
  rw [e1] at hC1; replace hC := hC1
  obtain ⟨h4, rfl⟩ := hp
  exact vx_ret (o_iret S hr hlocks hC ⟨by rw [er], by simp [raW, h1, h2], by rw [er, ea]; exact h4, by rw [er, ea]⟩ rfl dX0_next_28 (Nat.le_of_ble_eq_true rfl) (Nat.le_of_ble_eq_true rfl))
set_option maxRecDepth 100000 in
set_option maxHeartbeats 4000000 in
theorem c_X0_back (l : Launch) (hs0 : l.stackTraces = false) {loc : Nat → Nat} {n : Nat} {g : Gc} (hn : n ≤ 40) {S0 : RS} {R : Nat} (hR : R ≤ 12) (hrel : S0.1 0 = nI R) {t : Nat} (ht12 : t ≤ 12) (ht : S0.1 1 = nI t) (hw : ∀ q, q < R → byC S0 q = true → wfR S0 q) (x a i : Int32) : GXi l yX0_back cX0_back 4 (some .int) (rmL 9 8 48) loc n g S0 [.int x, .int a, .int i] (fun v S' => S' = stlF S0 n t (ixN x) ∧ raW S0 n x a = none ∧ pickW (colF S' (ixN x) (ixN a) n) i = true ∧ v = ntzL (lowF (colF S' (ixN x) (ixN a) n) (ixN i))) (fun E u => (raW S0 n x a = some E ∧ u = S0) ∨ (raW S0 n x a = none ∧ E = nseS ∧ u = stlF S0 n t (ixN x) ∧ pickW (colF u (ixN x) (ixN a) n) i = false)) := by
  refine o_enterx (by decide) (Nat.le_of_ble_eq_true rfl) ?_
  intro p e s m below meth c ls S hr hlocks hnt hC hl
  refine lv_aload_n S.1 S.2.1 dX0_back_0 rfl (lv_at hl 0 rfl) ?_
  refine lv_iload_n S.1 S.2.1 dX0_back_1 rfl (lv_at hl 1 rfl) ?_
  refine o_ycallv oiX S hC (c_X0_needRelation l hs0 hn x) cw_RX0_X0_needRelation ⟨rfl, rfl, by decide, by decide⟩ rfl hl.1 rfl (Nat.le_of_ble_eq_true rfl) dX0_back_2 ⟨(Nat.le_of_ble_eq_true rfl), (Nat.le_of_ble_eq_true rfl)⟩ hnt hlocks ⟨(Nat.le_of_ble_eq_true rfl), (Nat.le_of_ble_eq_true rfl)⟩ (fun E h => Or.inl ⟨by simp [raW, h.1, h.2], rfl⟩) (fun S1 H locs hp hC1 => ?_)
  obtain ⟨e1, hp⟩ := hp
  rw [e1] at hC1; replace hC := hC1
  have h1 := hp
  rw [hrel] at hp
  obtain ⟨r, hrR, rfl⟩ := inI_t (by omega) hp
  have er : ixN (nI r) = r := ixN_nI (by omega)
  have hr12 : r < 12 := by omega
  refine lv_aload_n S.1 S.2.1 dX0_back_5 rfl (lv_at hl 0 rfl) ?_
  refine lv_iload_n S.1 S.2.1 dX0_back_6 rfl (lv_at hl 2 rfl) ?_
  refine o_ycallv oiX S hC (c_X0_needThing l hs0 hn a) cw_RX0_X0_needThing ⟨rfl, rfl, by decide, by decide⟩ rfl hl.1 rfl (Nat.le_of_ble_eq_true rfl) dX0_back_7 ⟨(Nat.le_of_ble_eq_true rfl), (Nat.le_of_ble_eq_true rfl)⟩ hnt hlocks ⟨(Nat.le_of_ble_eq_true rfl), (Nat.le_of_ble_eq_true rfl)⟩ (fun E h => Or.inl ⟨by simp [raW, h1, h.1, h.2], rfl⟩) (fun S1 H locs hp hC1 => ?_)
  obtain ⟨e1, hp⟩ := hp
  rw [e1] at hC1; replace hC := hC1
  have h2 := hp
  obtain ⟨a, ha, rfl⟩ := inI_t (by omega) h2
  have ea : ixN (nI a) = a := ixN_nI (by omega)
  refine lv_aload_n S.1 S.2.1 dX0_back_10 rfl (lv_at hl 0 rfl) ?_
  refine lv_iload_n S.1 S.2.1 dX0_back_11 rfl (lv_at hl 1 rfl) ?_
  refine o_callv oiX S hC (c_X0_settle l hn hr12 ht12 ht (fun q hq => hw q (by omega))) cw_RX0_X0_settle ⟨rfl, rfl, by decide, by decide⟩ rfl hl.1 rfl (Nat.le_of_ble_eq_true rfl) dX0_back_12 ⟨(Nat.le_of_ble_eq_true rfl), (Nat.le_of_ble_eq_true rfl)⟩ (fun S1 H locs hp hC1 => ?_)
  have e1 := hp
  rw [e1] at hC1; replace hC := hC1
  replace hC : CX loc n g (stlF S0 n t r) s H locs := hC
  refine lv_aload_n S.1 S.2.1 dX0_back_15 rfl (lv_at hl 0 rfl) ?_
  refine lv_aload_n S.1 S.2.1 dX0_back_16 rfl (lv_at hl 0 rfl) ?_
  refine lv_iload_n S.1 S.2.1 dX0_back_17 rfl (lv_at hl 1 rfl) ?_
  refine lv_iload_n S.1 S.2.1 dX0_back_18 rfl (lv_at hl 2 rfl) ?_
  refine o_calll oiX S hC (c_X0_column l hn hr12 ha) cw_RX0_X0_column ⟨rfl, rfl, by decide, by decide⟩ rfl hl.1 rfl (Nat.le_of_ble_eq_true rfl) dX0_back_19 ⟨(Nat.le_of_ble_eq_true rfl), (Nat.le_of_ble_eq_true rfl)⟩ (fun r19 S1 H locs hp hC1 => ?_)
  obtain ⟨e1, hp⟩ := hp
  rw [e1] at hC1; replace hC := hC1
  subst hp
  refine lv_iload_n S.1 S.2.1 dX0_back_22 rfl (lv_at hl 3 rfl) ?_
  refine o_ycalli oiX S hC (c_X0_pick l hs0 hn _ i) cw_RX0_X0_pick ⟨rfl, rfl, by decide, by decide⟩ rfl hl.1 rfl (Nat.le_of_ble_eq_true rfl) dX0_back_23 ⟨(Nat.le_of_ble_eq_true rfl), (Nat.le_of_ble_eq_true rfl)⟩ hnt hlocks ⟨(Nat.le_of_ble_eq_true rfl), (Nat.le_of_ble_eq_true rfl)⟩ (fun E h => Or.inr ⟨by simp [raW, h1, h2], h.1, by rw [er], by rw [er, ea]; exact h.2⟩) (fun r23 S1 H locs hp hC1 => ?_)
  obtain ⟨e1, hp⟩ := hp
  rw [e1] at hC1; replace hC := hC1
  obtain ⟨h4, rfl⟩ := hp
  exact vx_ret (o_iret S hr hlocks hC ⟨by rw [er], by simp [raW, h1, h2], by rw [er, ea]; exact h4, by rw [er, ea]⟩ rfl dX0_back_26 (Nat.le_of_ble_eq_true rfl) (Nat.le_of_ble_eq_true rfl))
theorem nearG_lt {S : RS} {r a n : Nat} (ha : a < n) : ∀ k c, c + k ≤ n → nearG S r a k c < n
  | 0, _, _ => ha
  | k + 1, c, h => by
    unfold nearG
    split
    · omega
    · exact nearG_lt ha k (c + 1) (by omega)
def routF (S : RS) (r n a : Nat) : Nat → Nat
  | 0 => a
  | k + 1 => nearG S r (routF S r n a k) n 0
theorem routF_lt {S : RS} {r n a : Nat} (ha : a < n) : ∀ k, routF S r n a k < n
  | 0 => ha
  | k + 1 => nearG_lt (routF_lt ha k) n 0 (by omega)
def rouB (S : RS) (a : Nat) (i : Int32) : Bool := decide (¬ i < 0) && decide (i ≤ S.2.1 7 a)
set_option maxRecDepth 100000 in
set_option maxHeartbeats 4000000 in
theorem c_X0_route (l : Launch) (hs0 : l.stackTraces = false) {loc : Nat → Nat} {n : Nat} {g : Gc} (hn : n ≤ 40) {S0 : RS} {R : Nat} (hR : R ≤ 12) (hrel : S0.1 0 = nI R) {t : Nat} (ht12 : t ≤ 12) (ht : S0.1 1 = nI t) (hw : ∀ q, q < R → byC S0 q = true → wfR S0 q) (x a b i : Int32) : GXi l yX0_route cX0_route 7 (some .int) (rmL 9 8 48) loc n g S0 [.int x, .int a, .int b, .int i] (fun v S' => S' = measF (stlF S0 n t (ixN x)) n (ixN x) (ixN b) ∧ rabW S0 n x a b = none ∧ rouB S' (ixN a) i = true ∧ v = nI (routF S' (ixN x) n (ixN a) (ixN i))) (fun E u => (rabW S0 n x a b = some E ∧ u = S0) ∨ (rabW S0 n x a b = none ∧ E = nseS ∧ u = measF (stlF S0 n t (ixN x)) n (ixN x) (ixN b) ∧ rouB u (ixN a) i = false)) := by
  refine o_enterx (by decide) (Nat.le_of_ble_eq_true rfl) ?_
  intro p e s m below meth c ls S hr hlocks hnt hC hl
  refine lv_aload_n S.1 S.2.1 dX0_route_0 rfl (lv_at hl 0 rfl) ?_
  refine lv_iload_n S.1 S.2.1 dX0_route_1 rfl (lv_at hl 1 rfl) ?_
  refine o_ycallv oiX S hC (c_X0_needRelation l hs0 hn x) cw_RX0_X0_needRelation ⟨rfl, rfl, by decide, by decide⟩ rfl hl.1 rfl (Nat.le_of_ble_eq_true rfl) dX0_route_2 ⟨(Nat.le_of_ble_eq_true rfl), (Nat.le_of_ble_eq_true rfl)⟩ hnt hlocks ⟨(Nat.le_of_ble_eq_true rfl), (Nat.le_of_ble_eq_true rfl)⟩ (fun E h => Or.inl ⟨by simp [rabW, h.1, h.2], rfl⟩) (fun S1 H locs hp hC1 => ?_)
  obtain ⟨e1, hp⟩ := hp
  rw [e1] at hC1; replace hC := hC1
  have h1 := hp
  rw [hrel] at hp
  obtain ⟨r, hrR, e0x⟩ := inI_t (by omega) hp
  have er : ixN x = r := by rw [e0x]; exact ixN_nI (by omega)
  have hr12 : r < 12 := by omega
  rw [e0x] at hl
  refine lv_aload_n S.1 S.2.1 dX0_route_5 rfl (lv_at hl 0 rfl) ?_
  refine lv_iload_n S.1 S.2.1 dX0_route_6 rfl (lv_at hl 2 rfl) ?_
  refine o_ycallv oiX S hC (c_X0_needThing l hs0 hn a) cw_RX0_X0_needThing ⟨rfl, rfl, by decide, by decide⟩ rfl hl.1 rfl (Nat.le_of_ble_eq_true rfl) dX0_route_7 ⟨(Nat.le_of_ble_eq_true rfl), (Nat.le_of_ble_eq_true rfl)⟩ hnt hlocks ⟨(Nat.le_of_ble_eq_true rfl), (Nat.le_of_ble_eq_true rfl)⟩ (fun E h => Or.inl ⟨by simp [rabW, h1, h.1, h.2], rfl⟩) (fun S1 H locs hp hC1 => ?_)
  obtain ⟨e1, hp⟩ := hp
  rw [e1] at hC1; replace hC := hC1
  have h2 := hp
  obtain ⟨a', ha, e0a⟩ := inI_t (by omega) h2
  have ea : ixN a = a' := by rw [e0a]; exact ixN_nI (by omega)
  rw [e0a] at hl
  refine lv_aload_n S.1 S.2.1 dX0_route_10 rfl (lv_at hl 0 rfl) ?_
  refine lv_iload_n S.1 S.2.1 dX0_route_11 rfl (lv_at hl 3 rfl) ?_
  refine o_ycallv oiX S hC (c_X0_needThing l hs0 hn b) cw_RX0_X0_needThing ⟨rfl, rfl, by decide, by decide⟩ rfl hl.1 rfl (Nat.le_of_ble_eq_true rfl) dX0_route_12 ⟨(Nat.le_of_ble_eq_true rfl), (Nat.le_of_ble_eq_true rfl)⟩ hnt hlocks ⟨(Nat.le_of_ble_eq_true rfl), (Nat.le_of_ble_eq_true rfl)⟩ (fun E h => Or.inl ⟨by simp [rabW, h1, h2, h.1, h.2], rfl⟩) (fun S1 H locs hp hC1 => ?_)
  obtain ⟨e1, hp⟩ := hp
  rw [e1] at hC1; replace hC := hC1
  have h3 := hp
  obtain ⟨b', hb, e0b⟩ := inI_t (by omega) h3
  have eb : ixN b = b' := by rw [e0b]; exact ixN_nI (by omega)
  rw [e0b] at hl
  have h4 : rabW S0 n x a b = none := by simp [rabW, h1, h2, h3]
  refine lv_aload_n S.1 S.2.1 dX0_route_15 rfl (lv_at hl 0 rfl) ?_
  refine lv_iload_n S.1 S.2.1 dX0_route_16 rfl (lv_at hl 1 rfl) ?_
  refine o_callv oiX S hC (c_X0_settle l hn hr12 ht12 ht (fun q hq => hw q (by omega))) cw_RX0_X0_settle ⟨rfl, rfl, by decide, by decide⟩ rfl hl.1 rfl (Nat.le_of_ble_eq_true rfl) dX0_route_17 ⟨(Nat.le_of_ble_eq_true rfl), (Nat.le_of_ble_eq_true rfl)⟩ (fun S1 H locs hp hC1 => ?_)
  have e1 := hp
  rw [e1] at hC1; replace hC := hC1
  replace hC : CX loc n g (stlF S0 n t r) s H locs := hC
  refine lv_aload_n S.1 S.2.1 dX0_route_20 rfl (lv_at hl 0 rfl) ?_
  refine lv_iload_n S.1 S.2.1 dX0_route_21 rfl (lv_at hl 1 rfl) ?_
  refine lv_iload_n S.1 S.2.1 dX0_route_22 rfl (lv_at hl 3 rfl) ?_
  refine o_callv oiX S hC (c_X0_measureSteps l hn hr12 hb) cw_RX0_X0_measureSteps ⟨rfl, rfl, by decide, by decide⟩ rfl hl.1 rfl (Nat.le_of_ble_eq_true rfl) dX0_route_23 ⟨(Nat.le_of_ble_eq_true rfl), (Nat.le_of_ble_eq_true rfl)⟩ (fun S1 H locs hp hC1 => ?_)
  have e1 := hp
  rw [e1] at hC1; replace hC := hC1
  refine lv_iload S.1 S.2.1 dX0_route_26 (lv_at hl 4 rfl) ?_
  refine lv_if_lt (tgt := 42) S.1 S.2.1 dX0_route_28 (by decide) (fun c28 => ?_) (fun c28 => ?_)
  · skip
    exact x_throw_nseG (tx := "the route has no such thing") hs0 S hC (by decide) hnt hlocks hl.1 (Or.inr ⟨h4, rfl, by rw [er, eb], by rw [ea]; simp [rouB, c28]⟩) dX0_route_42 dX0_route_45 dX0_route_46 dX0_route_48 dX0_route_51 ⟨(Nat.le_of_ble_eq_true rfl), (Nat.le_of_ble_eq_true rfl), (Nat.le_of_ble_eq_true rfl), (Nat.le_of_ble_eq_true rfl)⟩ ⟨(Nat.le_of_ble_eq_true rfl), (Nat.le_of_ble_eq_true rfl)⟩
  · skip
    refine lv_iload S.1 S.2.1 dX0_route_31 (lv_at hl 4 rfl) ?_
    refine lv_aload_n S.1 S.2.1 dX0_route_33 rfl (lv_at hl 0 rfl) ?_
    refine x_get_steps S hC dX0_route_34 ?_
    refine lv_iload_n S.1 S.2.1 dX0_route_37 rfl (lv_at hl 2 rfl) ?_
    refine x_ild S hC hn 7 (by decide) ha dX0_route_38 ?_
    refine lv_icmp_le (tgt := 52) S.1 S.2.1 dX0_route_39 (by decide) (fun c39 => ?_) (fun c39 => ?_)
    · have hok : rouB (measF (stlF S0 n t r) n r b') a' i = true := by simp [rouB, c28, c39]
      obtain ⟨q, hq31, e0i⟩ := nI_of c28
      have ei : ixN i = q := by rw [e0i]; exact ixN_nI hq31
      rw [e0i] at hl
      refine W.widen (k := 8) (n := 48) (Nat.le_of_ble_eq_true rfl) (Nat.le_of_ble_eq_true rfl) ?_
      refine lv_iload_n S.1 S.2.1 dX0_route_52 rfl (lv_at hl 2 rfl) ?_
      refine lv_istore S.1 S.2.1 dX0_route_53 hl (by decide) rfl (fun ls hl => ?_)
      refine lv_iconst (v := nI 0) S.1 S.2.1 dX0_route_55 rfl ?_
      refine lv_istore S.1 S.2.1 dX0_route_56 hl (by decide) rfl (fun ls hl => ?_)
      have loop : ∀ (k j : Nat), q - j < k → j ≤ q → ∀ (H : Heap) (locs : List Loc) (ls : Array Slot), CX loc n g (measF (stlF S0 n t r) n r b') s H locs → lv_has ls 7 [(0, .ref (loc 0)), (1, .int (nI r)), (4, .int (nI q)), (5, (.int (nI (routF (measF (stlF S0 n t r) n r b') r n a' j)))), (6, .int (nI j))] → W p l e (rmL 9 8 48) s m ([.ref (loc 0), .int x, .int a, .int b, .int i] : List Value).toArray below meth c H locs 8 48 (vx_MQ below (va_Qi (fun v S' => S' = measF (stlF S0 n t (ixN x)) n (ixN x) (ixN b) ∧ rabW S0 n x a b = none ∧ rouB S' (ixN a) i = true ∧ v = nI (routF S' (ixN x) n (ixN a) (ixN i))) (fun S' t => HX loc n g S' t.heap) (ZA loc 21)) (Xg (HX loc n g) (ZA loc 21) (fun E u => (rabW S0 n x a b = some E ∧ u = S0) ∨ (rabW S0 n x a b = none ∧ E = nseS ∧ u = measF (stlF S0 n t (ixN x)) n (ixN x) (ixN b) ∧ rouB u (ixN a) i = false))) ([.ref (loc 0), .int x, .int a, .int b, .int i] : List Value).toArray s (rmL 9 8 48).cells (rmL 9 8 48).slots (ZA loc 21)) (F0 m 58 ls []) := by
        intro k
        induction k with
        | zero => intro j hk; omega
        | succ k ih =>
          intro j hk hi  H locs ls hC hl
          refine lv_iload S.1 S.2.1 dX0_route_58 (lv_at hl 4 rfl) ?_
          refine lv_iload S.1 S.2.1 dX0_route_60 (lv_at hl 2 rfl) ?_
          refine n_icmp_ge (tgt := 80) S.1 S.2.1 dX0_route_62 (by decide) (by omega) (by omega) (fun c62 => ?_) (fun c62 => ?_)
          · skip
            refine lv_iload S.1 S.2.1 dX0_route_80 (lv_at hl 3 rfl) ?_
            exact vx_ret (o_iret S hr hlocks hC ⟨by rw [er, eb], h4, by rw [ea]; exact hok, by rw [er, ea, ei, show q = j by omega]⟩ rfl dX0_route_82 (Nat.le_of_ble_eq_true rfl) (Nat.le_of_ble_eq_true rfl))
          · skip
            refine lv_aload_n S.1 S.2.1 dX0_route_65 rfl (lv_at hl 0 rfl) ?_
            refine lv_iload_n S.1 S.2.1 dX0_route_66 rfl (lv_at hl 1 rfl) ?_
            refine lv_iload S.1 S.2.1 dX0_route_67 (lv_at hl 3 rfl) ?_
            refine o_calli oiX S hC (c_X0_stepNearer l hn hr12 (routF_lt ha j)) cw_RX0_X0_stepNearer ⟨rfl, rfl, by decide, by decide⟩ rfl hl.1 rfl (Nat.le_of_ble_eq_true rfl) dX0_route_69 ⟨(Nat.le_of_ble_eq_true rfl), (Nat.le_of_ble_eq_true rfl)⟩ (fun r69 S1 H locs hp hC1 => ?_)
            obtain ⟨e1, hp⟩ := hp
            rw [e1] at hC1; replace hC := hC1
            subst hp
            refine lv_istore S.1 S.2.1 dX0_route_72 hl (by decide) rfl (fun ls hl => ?_)
            refine lv_iinc (k := 4) S.1 S.2.1 dX0_route_74 hl rfl (n_inc _) (by decide) rfl (fun ls hl => ?_)
            refine lv_goto (tgt := 58) S.1 S.2.1 dX0_route_77 (by decide) ?_
            exact ih (j + 1) (by omega) (by omega) _ _ _ hC (lv_sub hl [2, 3, 4, 1, 0] rfl)
      exact loop (q + 1) 0 (by omega) (by omega) _ _ _ hC (lv_sub hl [2, 3, 6, 1, 0] rfl)
    · skip
      exact x_throw_nseG (tx := "the route has no such thing") hs0 S hC (by decide) hnt hlocks hl.1 (Or.inr ⟨h4, rfl, by rw [er, eb], by rw [ea]; simp [rouB, c39]⟩) dX0_route_42 dX0_route_45 dX0_route_46 dX0_route_48 dX0_route_51 ⟨(Nat.le_of_ble_eq_true rfl), (Nat.le_of_ble_eq_true rfl), (Nat.le_of_ble_eq_true rfl), (Nat.le_of_ble_eq_true rfl)⟩ ⟨(Nat.le_of_ble_eq_true rfl), (Nat.le_of_ble_eq_true rfl)⟩
