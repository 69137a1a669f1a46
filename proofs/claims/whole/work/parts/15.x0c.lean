def ixN (x : Int32) : Nat := x.toNatClampNeg
theorem ixN_nI {j : Nat} (h : j < 2 ^ 31) : ixN (nI j) = j := nI_clamp h
theorem tsw_out {x : Int32} (k : Nat) (h : ∀ j, j < k + 1 → ¬ x = nI j) (hk : k < 2 ^ 30 := by decide) : x.toInt < 0 ∨ ((k : Nat) : Int) < x.toInt := by
  rcases pk_ix x (n := k + 1) (by omega) with q | q | ⟨j, hj, e⟩
  · exact Or.inl (by simpa using Int32.lt_iff_toInt_lt.mp q)
  · have := Int32.le_iff_toInt_le.mp q
    rw [nI_toInt (by omega)] at this
    exact Or.inr (by omega)
  · exact absurd e (h j hj)
/-- why a pair can't be set, or go -/
def settW (S : RS) (n : Nat) (x a b : Int32) : Option String :=
  if inI x (S.1 0) = false then some iaeS else if inI a (nI n) = false then some iaeS else if inI b (nI n) = false then some iaeS
  else if byC S (ixN x) = true then some iseS
  else if ofK S (ixN a) (S.2.1 3 (ixN x)) = false then some iaeS else if ofK S (ixN b) (S.2.1 4 (ixN x)) = false then some iaeS
  else if S.2.1 2 (ixN x) = nI 4 ∧ a = b then some iaeS else none
set_option maxRecDepth 100000 in
set_option maxHeartbeats 4000000 in
theorem c_X0_needSettable (l : Launch) (hs0 : l.stackTraces = false) {loc : Nat → Nat} {n : Nat} {g : Gc} (hn : n ≤ 40) {S0 : RS} {R : Nat} (hR : R ≤ 12) (hrel : S0.1 0 = nI R) (x a b : Int32) : TXv l yX0_needSettable cX0_needSettable 4 none (rmL 8 5 30) loc n g S0 [.int x, .int a, .int b] (fun S' => S' = S0 ∧ settW S0 n x a b = none) (fun E => settW S0 n x a b = some E) := by
  refine o_enterx (by decide) (Nat.le_of_ble_eq_true rfl) ?_
  intro p e s m below meth c ls S hr hlocks hnt hC hl
  refine lv_aload_n S.1 S.2.1 dX0_needSettable_0 rfl (lv_at hl 0 rfl) ?_
  refine lv_iload_n S.1 S.2.1 dX0_needSettable_1 rfl (lv_at hl 1 rfl) ?_
  refine o_xcallv oiX S hC (c_X0_needRelation l hs0 hn x) cw_RX0_X0_needRelation ⟨rfl, rfl, by decide, by decide⟩ rfl hl.1 rfl (Nat.le_of_ble_eq_true rfl) dX0_needSettable_2 ⟨(Nat.le_of_ble_eq_true rfl), (Nat.le_of_ble_eq_true rfl)⟩ hnt hlocks ⟨(Nat.le_of_ble_eq_true rfl), (Nat.le_of_ble_eq_true rfl)⟩ (fun E h => by simp [settW, h.1, h.2]) (fun S1 H locs hp hC1 => ?_)
  obtain ⟨e1, hp⟩ := hp
  rw [e1] at hC1; replace hC := hC1
  have h1 := hp
  rw [hrel] at h1
  obtain ⟨r, hrR, rfl⟩ := inI_t (by omega) h1
  clear h1
  have h1 := hp
  refine lv_aload_n S.1 S.2.1 dX0_needSettable_5 rfl (lv_at hl 0 rfl) ?_
  refine lv_iload_n S.1 S.2.1 dX0_needSettable_6 rfl (lv_at hl 2 rfl) ?_
  refine o_xcallv oiX S hC (c_X0_needThing l hs0 hn a) cw_RX0_X0_needThing ⟨rfl, rfl, by decide, by decide⟩ rfl hl.1 rfl (Nat.le_of_ble_eq_true rfl) dX0_needSettable_7 ⟨(Nat.le_of_ble_eq_true rfl), (Nat.le_of_ble_eq_true rfl)⟩ hnt hlocks ⟨(Nat.le_of_ble_eq_true rfl), (Nat.le_of_ble_eq_true rfl)⟩ (fun E h => by simp [settW, h.1, h.2, h1]) (fun S1 H locs hp hC1 => ?_)
  obtain ⟨e1, hp⟩ := hp
  rw [e1] at hC1; replace hC := hC1
  have h2 := hp
  obtain ⟨a, ha, rfl⟩ := inI_t (by omega) h2
  refine lv_aload_n S.1 S.2.1 dX0_needSettable_10 rfl (lv_at hl 0 rfl) ?_
  refine lv_iload_n S.1 S.2.1 dX0_needSettable_11 rfl (lv_at hl 3 rfl) ?_
  refine o_xcallv oiX S hC (c_X0_needThing l hs0 hn b) cw_RX0_X0_needThing ⟨rfl, rfl, by decide, by decide⟩ rfl hl.1 rfl (Nat.le_of_ble_eq_true rfl) dX0_needSettable_12 ⟨(Nat.le_of_ble_eq_true rfl), (Nat.le_of_ble_eq_true rfl)⟩ hnt hlocks ⟨(Nat.le_of_ble_eq_true rfl), (Nat.le_of_ble_eq_true rfl)⟩ (fun E h => by simp [settW, h.1, h.2, h1, h2]) (fun S1 H locs hp hC1 => ?_)
  obtain ⟨e1, hp⟩ := hp
  rw [e1] at hC1; replace hC := hC1
  have h3 := hp
  obtain ⟨b, hb, rfl⟩ := inI_t (by omega) h3
  have er : ixN (nI r) = r := ixN_nI (by omega)
  have ea : ixN (nI a) = a := ixN_nI (by omega)
  have eb : ixN (nI b) = b := ixN_nI (by omega)
  have hr12 : r < 12 := by omega
  refine lv_aload_n S.1 S.2.1 dX0_needSettable_15 rfl (lv_at hl 0 rfl) ?_
  refine lv_iload_n S.1 S.2.1 dX0_needSettable_16 rfl (lv_at hl 1 rfl) ?_
  refine o_xcallv oiX S hC (c_X0_needForm l hs0 hn hr12) cw_RX0_X0_needForm ⟨rfl, rfl, by decide, by decide⟩ rfl hl.1 rfl (Nat.le_of_ble_eq_true rfl) dX0_needSettable_17 ⟨(Nat.le_of_ble_eq_true rfl), (Nat.le_of_ble_eq_true rfl)⟩ hnt hlocks ⟨(Nat.le_of_ble_eq_true rfl), (Nat.le_of_ble_eq_true rfl)⟩ (fun E h => by simp [settW, h.1, h.2, h1, h2, h3, er]) (fun S1 H locs hp hC1 => ?_)
  obtain ⟨e1, hp⟩ := hp
  rw [e1] at hC1; replace hC := hC1
  have h4 := hp
  refine lv_aload_n S.1 S.2.1 dX0_needSettable_20 rfl (lv_at hl 0 rfl) ?_
  refine lv_iload_n S.1 S.2.1 dX0_needSettable_21 rfl (lv_at hl 2 rfl) ?_
  refine lv_aload_n S.1 S.2.1 dX0_needSettable_22 rfl (lv_at hl 0 rfl) ?_
  refine x_get_firsts S hC dX0_needSettable_23 ?_
  refine lv_iload_n S.1 S.2.1 dX0_needSettable_26 rfl (lv_at hl 1 rfl) ?_
  refine x_ild S hC hn 3 (by decide) hr12 dX0_needSettable_27 ?_
  refine o_calli oiX S hC (c_X0_isOfKind l hn ha _) cw_RX0_X0_isOfKind ⟨rfl, rfl, by decide, by decide⟩ rfl hl.1 rfl (Nat.le_of_ble_eq_true rfl) dX0_needSettable_28 ⟨(Nat.le_of_ble_eq_true rfl), (Nat.le_of_ble_eq_true rfl)⟩ (fun r28 S1 H locs hp hC1 => ?_)
  obtain ⟨e1, hp⟩ := hp
  rw [e1] at hC1; replace hC := hC1
  subst hp
  refine b_if_eq (tgt := 48) S.1 S.2.1 dX0_needSettable_31 (by decide) (fun c31 => ?_) (fun c31 => ?_)
  · skip
    exact x_throw_iae (tx := "the pair does not fit") hs0 S hC (by decide) hnt hlocks hl.1 (by simp [settW, h1, h2, h3, h4, er, ea, eb, c31]) dX0_needSettable_48 dX0_needSettable_51 dX0_needSettable_52 dX0_needSettable_54 dX0_needSettable_57 ⟨(Nat.le_of_ble_eq_true rfl), (Nat.le_of_ble_eq_true rfl), (Nat.le_of_ble_eq_true rfl), (Nat.le_of_ble_eq_true rfl)⟩ ⟨(Nat.le_of_ble_eq_true rfl), (Nat.le_of_ble_eq_true rfl)⟩
  · skip
    refine lv_aload_n S.1 S.2.1 dX0_needSettable_34 rfl (lv_at hl 0 rfl) ?_
    refine lv_iload_n S.1 S.2.1 dX0_needSettable_35 rfl (lv_at hl 3 rfl) ?_
    refine lv_aload_n S.1 S.2.1 dX0_needSettable_36 rfl (lv_at hl 0 rfl) ?_
    refine x_get_seconds S hC dX0_needSettable_37 ?_
    refine lv_iload_n S.1 S.2.1 dX0_needSettable_40 rfl (lv_at hl 1 rfl) ?_
    refine x_ild S hC hn 4 (by decide) hr12 dX0_needSettable_41 ?_
    refine o_calli oiX S hC (c_X0_isOfKind l hn hb _) cw_RX0_X0_isOfKind ⟨rfl, rfl, by decide, by decide⟩ rfl hl.1 rfl (Nat.le_of_ble_eq_true rfl) dX0_needSettable_42 ⟨(Nat.le_of_ble_eq_true rfl), (Nat.le_of_ble_eq_true rfl)⟩ (fun r42 S1 H locs hp hC1 => ?_)
    obtain ⟨e1, hp⟩ := hp
    rw [e1] at hC1; replace hC := hC1
    subst hp
    refine b_if_ne (tgt := 58) S.1 S.2.1 dX0_needSettable_45 (by decide) (fun c45 => ?_) (fun c45 => ?_)
    · skip
      refine lv_aload_n S.1 S.2.1 dX0_needSettable_58 rfl (lv_at hl 0 rfl) ?_
      refine x_get_forms S hC dX0_needSettable_59 ?_
      refine lv_iload_n S.1 S.2.1 dX0_needSettable_62 rfl (lv_at hl 1 rfl) ?_
      refine x_ild S hC hn 2 (by decide) hr12 dX0_needSettable_63 ?_
      refine lv_iconst (v := nI 4) S.1 S.2.1 dX0_needSettable_64 rfl ?_
      refine lv_icmp_ne (tgt := 83) S.1 S.2.1 dX0_needSettable_65 (by decide) (fun c65 => ?_) (fun c65 => ?_)
      · skip
        exact vx_ret (o_vret S hr hlocks hC ⟨rfl, by simp [settW, h1, h2, h3, h4, er, ea, eb, c31, c45, c65]⟩ dX0_needSettable_83 (Nat.le_of_ble_eq_true rfl) (Nat.le_of_ble_eq_true rfl))
      · skip
        refine lv_iload_n S.1 S.2.1 dX0_needSettable_68 rfl (lv_at hl 2 rfl) ?_
        refine lv_iload_n S.1 S.2.1 dX0_needSettable_69 rfl (lv_at hl 3 rfl) ?_
        refine lv_icmp_ne (tgt := 83) S.1 S.2.1 dX0_needSettable_70 (by decide) (fun c70 => ?_) (fun c70 => ?_)
        · skip
          exact vx_ret (o_vret S hr hlocks hC ⟨rfl, by simp [settW, h1, h2, h3, h4, er, ea, eb, c31, c45, c65, c70]⟩ dX0_needSettable_83 (Nat.le_of_ble_eq_true rfl) (Nat.le_of_ble_eq_true rfl))
        · skip
          exact x_throw_iae (tx := "no thing is its own twin") hs0 S hC (by decide) hnt hlocks hl.1 (by simp [settW, h1, h2, h3, h4, er, ea, eb, c31, c45, c65, c70]) dX0_needSettable_73 dX0_needSettable_76 dX0_needSettable_77 dX0_needSettable_79 dX0_needSettable_82 ⟨(Nat.le_of_ble_eq_true rfl), (Nat.le_of_ble_eq_true rfl), (Nat.le_of_ble_eq_true rfl), (Nat.le_of_ble_eq_true rfl)⟩ ⟨(Nat.le_of_ble_eq_true rfl), (Nat.le_of_ble_eq_true rfl)⟩
    · skip
      exact x_throw_iae (tx := "the pair does not fit") hs0 S hC (by decide) hnt hlocks hl.1 (by simp [settW, h1, h2, h3, h4, er, ea, eb, c31, c45]) dX0_needSettable_48 dX0_needSettable_51 dX0_needSettable_52 dX0_needSettable_54 dX0_needSettable_57 ⟨(Nat.le_of_ble_eq_true rfl), (Nat.le_of_ble_eq_true rfl), (Nat.le_of_ble_eq_true rfl), (Nat.le_of_ble_eq_true rfl)⟩ ⟨(Nat.le_of_ble_eq_true rfl), (Nat.le_of_ble_eq_true rfl)⟩
def colF (S : RS) (r b : Nat) : Nat → Int64
  | 0 => 0
  | k + 1 => if hX S r k b then colF S r b k ||| bitN k else colF S r b k
set_option maxRecDepth 100000 in
set_option maxHeartbeats 4000000 in
theorem c_X0_column (l : Launch) {loc : Nat → Nat} {n : Nat} {g : Gc} (hn : n ≤ 40) {S0 : RS} {r b : Nat} (hr12 : r < 12) (hb : b < n) : MXl l yX0_column cX0_column 6 (some .long) (rmL 3 0 0) loc n g S0 [.int (nI r), .int (nI b)] (fun v S' => S' = S0 ∧ v = colF S0 r b n) := by
  refine o_enter (by decide) (Nat.le_of_ble_eq_true rfl) ?_
  intro p e s m below meth c ls S hr hlocks hC hl
  refine lv_lconst (v := 0) S.1 S.2.1 dX0_column_0 rfl ?_
  refine lv_lstore_n S.1 S.2.1 dX0_column_1 rfl hl (by decide) rfl (fun ls hl => ?_)
  refine lv_iconst (v := nI 0) S.1 S.2.1 dX0_column_2 rfl ?_
  refine lv_istore S.1 S.2.1 dX0_column_3 hl (by decide) rfl (fun ls hl => ?_)
  have loop : ∀ (k i : Nat), n - i < k → i ≤ n → ∀ (H : Heap) (locs : List Loc) (ls : Array Slot), CX loc n g (S0) s H locs → lv_has ls 6 [(0, .ref (loc 0)), (1, .int (nI r)), (2, .int (nI b)), (3, .long (colF S0 r b i)), (5, .int (nI i))] → W p l e (rmL 3 0 0) s m ([.ref (loc 0), .int (nI r), .int (nI b)] : List Value).toArray below meth c H locs 0 0 (MQ below (va_Ql (fun v S' => S' = S0 ∧ v = colF S0 r b n) (fun S' t => HX loc n g S' t.heap) (ZA loc 21)) ([.ref (loc 0), .int (nI r), .int (nI b)] : List Value).toArray s (rmL 3 0 0).cells (rmL 3 0 0).slots (ZA loc 21)) (F0 m 5 ls []) := by
    intro k
    induction k with
    | zero => intro i hk; omega
    | succ k ih =>
      intro i hk hi  H locs ls hC hl
      refine lv_iload S.1 S.2.1 dX0_column_5 (lv_at hl 4 rfl) ?_
      refine lv_aload_n S.1 S.2.1 dX0_column_7 rfl (lv_at hl 0 rfl) ?_
      refine x_get_things S hC dX0_column_8 ?_
      refine n_icmp_ge (tgt := 39) S.1 S.2.1 dX0_column_11 (by decide) (by omega) (by omega) (fun c11 => ?_) (fun c11 => ?_)
      · skip
        refine lv_lload_n S.1 S.2.1 dX0_column_39 rfl (lv_at hl 3 rfl) ?_
        exact o_lret S hr hlocks hC ⟨rfl, by rw [show n = i by omega]⟩ dX0_column_40 (Nat.le_of_ble_eq_true rfl) (Nat.le_of_ble_eq_true rfl)
      · skip
        refine lv_aload_n S.1 S.2.1 dX0_column_14 rfl (lv_at hl 0 rfl) ?_
        refine lv_iload_n S.1 S.2.1 dX0_column_15 rfl (lv_at hl 1 rfl) ?_
        refine lv_iload S.1 S.2.1 dX0_column_16 (lv_at hl 4 rfl) ?_
        refine lv_iload_n S.1 S.2.1 dX0_column_18 rfl (lv_at hl 2 rfl) ?_
        refine o_calli oiX S hC (c_X0_holds l hn hr12 (a := i) (by omega) hb) cw_RX0_X0_holds ⟨rfl, rfl, by decide, by decide⟩ rfl hl.1 rfl (Nat.le_of_ble_eq_true rfl) dX0_column_19 ⟨(Nat.le_of_ble_eq_true rfl), (Nat.le_of_ble_eq_true rfl)⟩ (fun r19 S1 H locs hp hC1 => ?_)
        obtain ⟨e1, hp⟩ := hp
        rw [e1] at hC1; replace hC := hC1
        subst hp
        refine b_if_eq (tgt := 33) S.1 S.2.1 dX0_column_22 (by decide) (fun c22 => ?_) (fun c22 => ?_)
        · skip
          refine lv_iinc (k := 4) S.1 S.2.1 dX0_column_33 hl rfl (n_inc _) (by decide) rfl (fun ls hl => ?_)
          refine lv_goto (tgt := 5) S.1 S.2.1 dX0_column_36 (by decide) ?_
          exact ih (i + 1) (by omega) (by omega) _ _ _ hC (by rw [colF, if_neg (by simp [c22])]; exact lv_sub hl [1, 2, 3, 4, 0] rfl)
        · skip
          refine lv_lload_n S.1 S.2.1 dX0_column_25 rfl (lv_at hl 3 rfl) ?_
          refine lv_iload S.1 S.2.1 dX0_column_26 (lv_at hl 4 rfl) ?_
          refine s_calll S (c_X0_bit l (nI i)) cw_RX0_X0_bit ⟨rfl, rfl, by decide, by decide⟩ rfl hl.1 rfl (Nat.le_of_ble_eq_true rfl) dX0_column_28 ⟨(Nat.le_of_ble_eq_true rfl), (Nat.le_of_ble_eq_true rfl)⟩ (fun r28 hp => ?_)
          subst hp
          refine lv_lor S.1 S.2.1 dX0_column_31 ?_
          refine lv_lstore_n S.1 S.2.1 dX0_column_32 rfl hl (by decide) rfl (fun ls hl => ?_)
          refine lv_iinc (k := 4) S.1 S.2.1 dX0_column_33 hl rfl (n_inc _) (by decide) rfl (fun ls hl => ?_)
          refine lv_goto (tgt := 5) S.1 S.2.1 dX0_column_36 (by decide) ?_
          exact ih (i + 1) (by omega) (by omega) _ _ _ hC (by rw [colF, if_pos c22]; exact lv_sub hl [2, 3, 4, 1, 0] rfl)
  exact loop (n + 1) 0 (by omega) (by omega) _ _ _ hC (lv_sub hl [2, 3, 4, 1, 0] rfl)
def makeF (S : RS) (r : Nat) (v : Int64) : Nat → RS
  | 0 => S
  | k + 1 => if tb v k then sW (makeF S r v k) r k v else makeF S r v k
set_option maxRecDepth 100000 in
set_option maxHeartbeats 4000000 in
theorem c_X0_makeClass (l : Launch) {loc : Nat → Nat} {n : Nat} {g : Gc} (hn : n ≤ 40) {S0 : RS} {r : Nat} (hr12 : r < 12) (v : Int64) : MXv l yX0_makeClass cX0_makeClass 5 none (rmL 2 0 0) loc n g S0 [.int (nI r), .long v] (fun S' => S' = makeF S0 r v n) := by
  refine o_enter (by decide) (Nat.le_of_ble_eq_true rfl) ?_
  intro p e s m below meth c ls S hr hlocks hC hl
  refine lv_iconst (v := nI 0) S.1 S.2.1 dX0_makeClass_0 rfl ?_
  refine lv_istore S.1 S.2.1 dX0_makeClass_1 hl (by decide) rfl (fun ls hl => ?_)
  have loop : ∀ (k i : Nat), n - i < k → i ≤ n → ∀ (H : Heap) (locs : List Loc) (ls : Array Slot), CX loc n g (makeF S0 r v i) s H locs → lv_has ls 5 [(0, .ref (loc 0)), (1, .int (nI r)), (2, .long v), (4, .int (nI i))] → W p l e (rmL 2 0 0) s m ([.ref (loc 0), .int (nI r), .long v] : List Value).toArray below meth c H locs 0 0 (MQ below (va_Qv (fun S' => S' = makeF S0 r v n) (fun S' t => HX loc n g S' t.heap) (ZA loc 21)) ([.ref (loc 0), .int (nI r), .long v] : List Value).toArray s (rmL 2 0 0).cells (rmL 2 0 0).slots (ZA loc 21)) (F0 m 3 ls []) := by
    intro k
    induction k with
    | zero => intro i hk; omega
    | succ k ih =>
      intro i hk hi  H locs ls hC hl
      refine lv_iload S.1 S.2.1 dX0_makeClass_3 (lv_at hl 3 rfl) ?_
      refine lv_aload_n S.1 S.2.1 dX0_makeClass_5 rfl (lv_at hl 0 rfl) ?_
      refine x_get_things S hC dX0_makeClass_6 ?_
      refine n_icmp_ge (tgt := 40) S.1 S.2.1 dX0_makeClass_9 (by decide) (by omega) (by omega) (fun c9 => ?_) (fun c9 => ?_)
      · skip
        exact o_vret S hr hlocks hC (by rw [show n = i by omega]) dX0_makeClass_40 (Nat.le_of_ble_eq_true rfl) (Nat.le_of_ble_eq_true rfl)
      · skip
        refine lv_lload_n S.1 S.2.1 dX0_makeClass_12 rfl (lv_at hl 2 rfl) ?_
        refine lv_iload S.1 S.2.1 dX0_makeClass_13 (lv_at hl 3 rfl) ?_
        refine s_calll S (c_X0_bit l (nI i)) cw_RX0_X0_bit ⟨rfl, rfl, by decide, by decide⟩ rfl hl.1 rfl (Nat.le_of_ble_eq_true rfl) dX0_makeClass_15 ⟨(Nat.le_of_ble_eq_true rfl), (Nat.le_of_ble_eq_true rfl)⟩ (fun r15 hp => ?_)
        subst hp
        refine lv_land S.1 S.2.1 dX0_makeClass_18 ?_
        refine lv_lconst (v := 0) S.1 S.2.1 dX0_makeClass_19 rfl ?_
        refine W.lcmp S.1 S.2.1 dX0_makeClass_20 ?_
        refine lv_if_eq (tgt := 34) S.1 S.2.1 dX0_makeClass_21 (by decide) (fun c21 => ?_) (fun c21 => ?_)
        · skip
          refine lv_iinc (k := 3) S.1 S.2.1 dX0_makeClass_34 hl rfl (n_inc _) (by decide) rfl (fun ls hl => ?_)
          refine lv_goto (tgt := 3) S.1 S.2.1 dX0_makeClass_37 (by decide) ?_
          have e9 := (tb_test (by omega)).mp ((lg_cmp_eq _ _).mp c21)
          exact ih (i + 1) (by omega) (by omega) _ _ _ (by rw [makeF, if_neg (by simp [e9])]; exact hC) (lv_sub hl [1, 2, 3, 0] rfl)
        · skip
          refine lv_aload_n S.1 S.2.1 dX0_makeClass_24 rfl (lv_at hl 0 rfl) ?_
          refine x_get_rows S hC dX0_makeClass_25 ?_
          refine lv_iload_n S.1 S.2.1 dX0_makeClass_28 rfl (lv_at hl 1 rfl) ?_
          refine x_aald S hC hr12 dX0_makeClass_29 ?_
          refine lv_iload S.1 S.2.1 dX0_makeClass_30 (lv_at hl 3 rfl) ?_
          refine lv_lload_n S.1 S.2.1 dX0_makeClass_32 rfl (lv_at hl 2 rfl) ?_
          refine x_lst S hC hn hr12 (by omega) dX0_makeClass_33 (fun H locs hC => ?_)
          refine lv_iinc (k := 3) S.1 S.2.1 dX0_makeClass_34 hl rfl (n_inc _) (by decide) rfl (fun ls hl => ?_)
          refine lv_goto (tgt := 3) S.1 S.2.1 dX0_makeClass_37 (by decide) ?_
          have e9 := Bool.of_not_eq_false (fun q => c21 ((lg_cmp_eq _ _).mpr ((tb_test (b := i) (by omega)).mpr q)))
          exact ih (i + 1) (by omega) (by omega) _ _ _ (by rw [makeF, if_pos e9]; exact hC) (lv_sub hl [1, 2, 3, 0] rfl)
  exact loop (n + 1) 0 (by omega) (by omega) _ _ _ hC (lv_sub hl [1, 2, 3, 0] rfl)
/-- a pair goes -/
def nbit (v : Int64) (b : Nat) : Int64 := v &&& (bitN b ^^^ (-1))
def partF (S : RS) (n r a b : Nat) : RS :=
  if S.2.1 2 r = nI 6 then makeF (makeF S r (nbit (S.2.2 r a) a) n) r (bitN a) n
  else if bothW S r then sW (sW S r a (nbit (S.2.2 r a) b)) r b (nbit ((sW S r a (nbit (S.2.2 r a) b)).2.2 r b) a) else sW S r a (nbit (S.2.2 r a) b)
def joinF (S : RS) (n r a b : Nat) : RS :=
  if S.2.1 2 r = nI 6 then makeF S r (S.2.2 r a ||| S.2.2 r b) n
  else if bothW S r then sW (sW S r a (S.2.2 r a ||| bitN b)) r b ((sW S r a (S.2.2 r a ||| bitN b)).2.2 r b ||| bitN a) else sW S r a (S.2.2 r a ||| bitN b)
set_option maxRecDepth 100000 in
set_option maxHeartbeats 4000000 in
theorem c_X0_part (l : Launch) {loc : Nat → Nat} {n : Nat} {g : Gc} (hn : n ≤ 40) {S0 : RS} {r a b : Nat} (hr12 : r < 12) (ha : a < n) (hb : b < n) : MXv l yX0_part cX0_part 4 none (rmL 3 0 0) loc n g S0 [.int (nI r), .int (nI a), .int (nI b)] (fun S' => S' = partF S0 n r a b) := by
  refine o_enter (by decide) (Nat.le_of_ble_eq_true rfl) ?_
  intro p e s m below meth c ls S hr hlocks hC hl
  refine lv_aload_n S.1 S.2.1 dX0_part_0 rfl (lv_at hl 0 rfl) ?_
  refine x_get_forms S hC dX0_part_1 ?_
  refine lv_iload_n S.1 S.2.1 dX0_part_4 rfl (lv_at hl 1 rfl) ?_
  refine x_ild S hC hn 2 (by decide) hr12 dX0_part_5 ?_
  refine lv_bipush (v := nI 6) S.1 S.2.1 dX0_part_6 rfl ?_
  refine lv_icmp_ne (tgt := 43) S.1 S.2.1 dX0_part_8 (by decide) (fun c8 => ?_) (fun c8 => ?_)
  · skip
    refine lv_aload_n S.1 S.2.1 dX0_part_43 rfl (lv_at hl 0 rfl) ?_
    refine x_get_rows S hC dX0_part_44 ?_
    refine lv_iload_n S.1 S.2.1 dX0_part_47 rfl (lv_at hl 1 rfl) ?_
    refine x_aald S hC hr12 dX0_part_48 ?_
    refine lv_iload_n S.1 S.2.1 dX0_part_49 rfl (lv_at hl 2 rfl) ?_
    refine lv_dup2_11 S.1 S.2.1 dX0_part_50 rfl rfl ?_
    refine x_lld S hC hn hr12 ha dX0_part_51 ?_
    refine lv_iload_n S.1 S.2.1 dX0_part_52 rfl (lv_at hl 3 rfl) ?_
    refine s_calll S (c_X0_bit l (nI b)) cw_RX0_X0_bit ⟨rfl, rfl, by decide, by decide⟩ rfl hl.1 rfl (Nat.le_of_ble_eq_true rfl) dX0_part_53 ⟨(Nat.le_of_ble_eq_true rfl), (Nat.le_of_ble_eq_true rfl)⟩ (fun r53 hp => ?_)
    subst hp
    refine lv_ldc2 S.1 S.2.1 S.2.2.2.1 (S.2.2.2.2 _ w_92) dX0_part_56 ?_
    refine lv_lxor S.1 S.2.1 dX0_part_59 ?_
    refine lv_land S.1 S.2.1 dX0_part_60 ?_
    refine x_lst S hC hn hr12 ha dX0_part_61 (fun H locs hC => ?_)
    refine lv_aload_n S.1 S.2.1 dX0_part_62 rfl (lv_at hl 0 rfl) ?_
    refine lv_iload_n S.1 S.2.1 dX0_part_63 rfl (lv_at hl 1 rfl) ?_
    refine o_calli oiX S hC (c_X0_goesBothWays l hn hr12) cw_RX0_X0_goesBothWays ⟨rfl, rfl, by decide, by decide⟩ rfl hl.1 rfl (Nat.le_of_ble_eq_true rfl) dX0_part_64 ⟨(Nat.le_of_ble_eq_true rfl), (Nat.le_of_ble_eq_true rfl)⟩ (fun r64 S1 H locs hp hC1 => ?_)
    obtain ⟨e1, hp⟩ := hp
    rw [e1] at hC1; replace hC := hC1
    subst hp
    refine b_if_eq (tgt := 89) S.1 S.2.1 dX0_part_67 (by decide) (fun c67 => ?_) (fun c67 => ?_)
    · skip
      exact o_vret S hr hlocks hC (by rw [partF, if_neg c8, if_neg (by rw [show bothW S0 r = false from c67]; decide)]; rfl) dX0_part_89 (Nat.le_of_ble_eq_true rfl) (Nat.le_of_ble_eq_true rfl)
    · skip
      refine lv_aload_n S.1 S.2.1 dX0_part_70 rfl (lv_at hl 0 rfl) ?_
      refine x_get_rows S hC dX0_part_71 ?_
      refine lv_iload_n S.1 S.2.1 dX0_part_74 rfl (lv_at hl 1 rfl) ?_
      refine x_aald S hC hr12 dX0_part_75 ?_
      refine lv_iload_n S.1 S.2.1 dX0_part_76 rfl (lv_at hl 3 rfl) ?_
      refine lv_dup2_11 S.1 S.2.1 dX0_part_77 rfl rfl ?_
      refine x_lld S hC hn hr12 hb dX0_part_78 ?_
      refine lv_iload_n S.1 S.2.1 dX0_part_79 rfl (lv_at hl 2 rfl) ?_
      refine s_calll S (c_X0_bit l (nI a)) cw_RX0_X0_bit ⟨rfl, rfl, by decide, by decide⟩ rfl hl.1 rfl (Nat.le_of_ble_eq_true rfl) dX0_part_80 ⟨(Nat.le_of_ble_eq_true rfl), (Nat.le_of_ble_eq_true rfl)⟩ (fun r80 hp => ?_)
      subst hp
      refine lv_ldc2 S.1 S.2.1 S.2.2.2.1 (S.2.2.2.2 _ w_92) dX0_part_83 ?_
      refine lv_lxor S.1 S.2.1 dX0_part_86 ?_
      refine lv_land S.1 S.2.1 dX0_part_87 ?_
      refine x_lst S hC hn hr12 hb dX0_part_88 (fun H locs hC => ?_)
      exact o_vret S hr hlocks hC (by rw [partF, if_neg c8, if_pos (show bothW S0 r = true from c67)]; rfl) dX0_part_89 (Nat.le_of_ble_eq_true rfl) (Nat.le_of_ble_eq_true rfl)
  · skip
    refine lv_aload_n S.1 S.2.1 dX0_part_11 rfl (lv_at hl 0 rfl) ?_
    refine lv_iload_n S.1 S.2.1 dX0_part_12 rfl (lv_at hl 1 rfl) ?_
    refine lv_aload_n S.1 S.2.1 dX0_part_13 rfl (lv_at hl 0 rfl) ?_
    refine x_get_rows S hC dX0_part_14 ?_
    refine lv_iload_n S.1 S.2.1 dX0_part_17 rfl (lv_at hl 1 rfl) ?_
    refine x_aald S hC hr12 dX0_part_18 ?_
    refine lv_iload_n S.1 S.2.1 dX0_part_19 rfl (lv_at hl 2 rfl) ?_
    refine x_lld S hC hn hr12 ha dX0_part_20 ?_
    refine lv_iload_n S.1 S.2.1 dX0_part_21 rfl (lv_at hl 2 rfl) ?_
    refine s_calll S (c_X0_bit l (nI a)) cw_RX0_X0_bit ⟨rfl, rfl, by decide, by decide⟩ rfl hl.1 rfl (Nat.le_of_ble_eq_true rfl) dX0_part_22 ⟨(Nat.le_of_ble_eq_true rfl), (Nat.le_of_ble_eq_true rfl)⟩ (fun r22 hp => ?_)
    subst hp
    refine lv_ldc2 S.1 S.2.1 S.2.2.2.1 (S.2.2.2.2 _ w_92) dX0_part_25 ?_
    refine lv_lxor S.1 S.2.1 dX0_part_28 ?_
    refine lv_land S.1 S.2.1 dX0_part_29 ?_
    refine o_callv oiX S hC (c_X0_makeClass l hn hr12 _) cw_RX0_X0_makeClass ⟨rfl, rfl, by decide, by decide⟩ rfl hl.1 rfl (Nat.le_of_ble_eq_true rfl) dX0_part_30 ⟨(Nat.le_of_ble_eq_true rfl), (Nat.le_of_ble_eq_true rfl)⟩ (fun S1 H locs hp hC1 => ?_)
    have e1 := hp
    rw [e1] at hC1; replace hC := hC1
    refine lv_aload_n S.1 S.2.1 dX0_part_33 rfl (lv_at hl 0 rfl) ?_
    refine lv_iload_n S.1 S.2.1 dX0_part_34 rfl (lv_at hl 1 rfl) ?_
    refine lv_iload_n S.1 S.2.1 dX0_part_35 rfl (lv_at hl 2 rfl) ?_
    refine s_calll S (c_X0_bit l (nI a)) cw_RX0_X0_bit ⟨rfl, rfl, by decide, by decide⟩ rfl hl.1 rfl (Nat.le_of_ble_eq_true rfl) dX0_part_36 ⟨(Nat.le_of_ble_eq_true rfl), (Nat.le_of_ble_eq_true rfl)⟩ (fun r36 hp => ?_)
    subst hp
    refine o_callv oiX S hC (c_X0_makeClass l hn hr12 _) cw_RX0_X0_makeClass ⟨rfl, rfl, by decide, by decide⟩ rfl hl.1 rfl (Nat.le_of_ble_eq_true rfl) dX0_part_39 ⟨(Nat.le_of_ble_eq_true rfl), (Nat.le_of_ble_eq_true rfl)⟩ (fun S1 H locs hp hC1 => ?_)
    have e1 := hp
    rw [e1] at hC1; replace hC := hC1
    exact o_vret S hr hlocks hC (by rw [partF, if_pos c8]; rfl) dX0_part_42 (Nat.le_of_ble_eq_true rfl) (Nat.le_of_ble_eq_true rfl)
set_option maxRecDepth 100000 in
set_option maxHeartbeats 4000000 in
theorem c_X0_join (l : Launch) {loc : Nat → Nat} {n : Nat} {g : Gc} (hn : n ≤ 40) {S0 : RS} {r a b : Nat} (hr12 : r < 12) (ha : a < n) (hb : b < n) : MXv l yX0_join cX0_join 4 none (rmL 3 0 0) loc n g S0 [.int (nI r), .int (nI a), .int (nI b)] (fun S' => S' = joinF S0 n r a b) := by
  refine o_enter (by decide) (Nat.le_of_ble_eq_true rfl) ?_
  intro p e s m below meth c ls S hr hlocks hC hl
  refine lv_aload_n S.1 S.2.1 dX0_join_0 rfl (lv_at hl 0 rfl) ?_
  refine x_get_forms S hC dX0_join_1 ?_
  refine lv_iload_n S.1 S.2.1 dX0_join_4 rfl (lv_at hl 1 rfl) ?_
  refine x_ild S hC hn 2 (by decide) hr12 dX0_join_5 ?_
  refine lv_bipush (v := nI 6) S.1 S.2.1 dX0_join_6 rfl ?_
  refine lv_icmp_ne (tgt := 34) S.1 S.2.1 dX0_join_8 (by decide) (fun c8 => ?_) (fun c8 => ?_)
  · skip
    refine lv_aload_n S.1 S.2.1 dX0_join_34 rfl (lv_at hl 0 rfl) ?_
    refine x_get_rows S hC dX0_join_35 ?_
    refine lv_iload_n S.1 S.2.1 dX0_join_38 rfl (lv_at hl 1 rfl) ?_
    refine x_aald S hC hr12 dX0_join_39 ?_
    refine lv_iload_n S.1 S.2.1 dX0_join_40 rfl (lv_at hl 2 rfl) ?_
    refine lv_dup2_11 S.1 S.2.1 dX0_join_41 rfl rfl ?_
    refine x_lld S hC hn hr12 ha dX0_join_42 ?_
    refine lv_iload_n S.1 S.2.1 dX0_join_43 rfl (lv_at hl 3 rfl) ?_
    refine s_calll S (c_X0_bit l (nI b)) cw_RX0_X0_bit ⟨rfl, rfl, by decide, by decide⟩ rfl hl.1 rfl (Nat.le_of_ble_eq_true rfl) dX0_join_44 ⟨(Nat.le_of_ble_eq_true rfl), (Nat.le_of_ble_eq_true rfl)⟩ (fun r44 hp => ?_)
    subst hp
    refine lv_lor S.1 S.2.1 dX0_join_47 ?_
    refine x_lst S hC hn hr12 ha dX0_join_48 (fun H locs hC => ?_)
    refine lv_aload_n S.1 S.2.1 dX0_join_49 rfl (lv_at hl 0 rfl) ?_
    refine lv_iload_n S.1 S.2.1 dX0_join_50 rfl (lv_at hl 1 rfl) ?_
    refine o_calli oiX S hC (c_X0_goesBothWays l hn hr12) cw_RX0_X0_goesBothWays ⟨rfl, rfl, by decide, by decide⟩ rfl hl.1 rfl (Nat.le_of_ble_eq_true rfl) dX0_join_51 ⟨(Nat.le_of_ble_eq_true rfl), (Nat.le_of_ble_eq_true rfl)⟩ (fun r51 S1 H locs hp hC1 => ?_)
    obtain ⟨e1, hp⟩ := hp
    rw [e1] at hC1; replace hC := hC1
    subst hp
    refine b_if_eq (tgt := 72) S.1 S.2.1 dX0_join_54 (by decide) (fun c54 => ?_) (fun c54 => ?_)
    · skip
      exact o_vret S hr hlocks hC (by rw [joinF, if_neg c8, if_neg (by rw [show bothW S0 r = false from c54]; decide)]; rfl) dX0_join_72 (Nat.le_of_ble_eq_true rfl) (Nat.le_of_ble_eq_true rfl)
    · skip
      refine lv_aload_n S.1 S.2.1 dX0_join_57 rfl (lv_at hl 0 rfl) ?_
      refine x_get_rows S hC dX0_join_58 ?_
      refine lv_iload_n S.1 S.2.1 dX0_join_61 rfl (lv_at hl 1 rfl) ?_
      refine x_aald S hC hr12 dX0_join_62 ?_
      refine lv_iload_n S.1 S.2.1 dX0_join_63 rfl (lv_at hl 3 rfl) ?_
      refine lv_dup2_11 S.1 S.2.1 dX0_join_64 rfl rfl ?_
      refine x_lld S hC hn hr12 hb dX0_join_65 ?_
      refine lv_iload_n S.1 S.2.1 dX0_join_66 rfl (lv_at hl 2 rfl) ?_
      refine s_calll S (c_X0_bit l (nI a)) cw_RX0_X0_bit ⟨rfl, rfl, by decide, by decide⟩ rfl hl.1 rfl (Nat.le_of_ble_eq_true rfl) dX0_join_67 ⟨(Nat.le_of_ble_eq_true rfl), (Nat.le_of_ble_eq_true rfl)⟩ (fun r67 hp => ?_)
      subst hp
      refine lv_lor S.1 S.2.1 dX0_join_70 ?_
      refine x_lst S hC hn hr12 hb dX0_join_71 (fun H locs hC => ?_)
      exact o_vret S hr hlocks hC (by rw [joinF, if_neg c8, if_pos (show bothW S0 r = true from c54)]; rfl) dX0_join_72 (Nat.le_of_ble_eq_true rfl) (Nat.le_of_ble_eq_true rfl)
  · skip
    refine lv_aload_n S.1 S.2.1 dX0_join_11 rfl (lv_at hl 0 rfl) ?_
    refine lv_iload_n S.1 S.2.1 dX0_join_12 rfl (lv_at hl 1 rfl) ?_
    refine lv_aload_n S.1 S.2.1 dX0_join_13 rfl (lv_at hl 0 rfl) ?_
    refine x_get_rows S hC dX0_join_14 ?_
    refine lv_iload_n S.1 S.2.1 dX0_join_17 rfl (lv_at hl 1 rfl) ?_
    refine x_aald S hC hr12 dX0_join_18 ?_
    refine lv_iload_n S.1 S.2.1 dX0_join_19 rfl (lv_at hl 2 rfl) ?_
    refine x_lld S hC hn hr12 ha dX0_join_20 ?_
    refine lv_aload_n S.1 S.2.1 dX0_join_21 rfl (lv_at hl 0 rfl) ?_
    refine x_get_rows S hC dX0_join_22 ?_
    refine lv_iload_n S.1 S.2.1 dX0_join_25 rfl (lv_at hl 1 rfl) ?_
    refine x_aald S hC hr12 dX0_join_26 ?_
    refine lv_iload_n S.1 S.2.1 dX0_join_27 rfl (lv_at hl 3 rfl) ?_
    refine x_lld S hC hn hr12 hb dX0_join_28 ?_
    refine lv_lor S.1 S.2.1 dX0_join_29 ?_
    refine o_callv oiX S hC (c_X0_makeClass l hn hr12 _) cw_RX0_X0_makeClass ⟨rfl, rfl, by decide, by decide⟩ rfl hl.1 rfl (Nat.le_of_ble_eq_true rfl) dX0_join_30 ⟨(Nat.le_of_ble_eq_true rfl), (Nat.le_of_ble_eq_true rfl)⟩ (fun S1 H locs hp hC1 => ?_)
    have e1 := hp
    rw [e1] at hC1; replace hC := hC1
    exact o_vret S hr hlocks hC (by rw [joinF, if_pos c8]) dX0_join_33 (Nat.le_of_ble_eq_true rfl) (Nat.le_of_ble_eq_true rfl)
def pushPF (S : RS) (n r a b : Nat) : RS :=
  if nI 2 ≤ S.1 2 then partF S n r a b
  else sI (sA (sA (partF S n r a b) 5 (ixN (S.1 2)) (nI a)) 6 (ixN (S.1 2)) (nI b)) 2 (nI (ixN (S.1 2) + 1))
theorem makeF_1 (S : RS) (r : Nat) (v : Int64) : ∀ k, (makeF S r v k).1 = S.1 ∧ (makeF S r v k).2.1 = S.2.1
  | 0 => ⟨rfl, rfl⟩
  | k + 1 => by
    have ih := makeF_1 S r v k
    unfold makeF
    split
    · exact ih
    · exact ih
theorem partF_1 (S : RS) (n r a b : Nat) : (partF S n r a b).1 = S.1 ∧ (partF S n r a b).2.1 = S.2.1 := by
  unfold partF
  split
  · have h1 := makeF_1 (makeF S r (nbit (S.2.2 r a) a) n) r (bitN a) n
    have h2 := makeF_1 S r (nbit (S.2.2 r a) a) n
    exact ⟨h1.1.trans h2.1, h1.2.trans h2.2⟩
  · split
    · exact ⟨rfl, rfl⟩
    · exact ⟨rfl, rfl⟩
set_option maxRecDepth 100000 in
set_option maxHeartbeats 4000000 in
theorem c_X0_pushPair (l : Launch) {loc : Nat → Nat} {n : Nat} {g : Gc} (hn : n ≤ 40) {S0 : RS} {r a b : Nat} (hr12 : r < 12) (ha : a < n) (hb : b < n) {q : Nat} (hq : q ≤ 2) (hpc : S0.1 2 = nI q) : MXv l yX0_pushPair cX0_pushPair 4 none (rmL 4 0 0) loc n g S0 [.int (nI r), .int (nI a), .int (nI b)] (fun S' => S' = pushPF S0 n r a b) := by
  refine o_enter (by decide) (Nat.le_of_ble_eq_true rfl) ?_
  intro p e s m below meth c ls S hr hlocks hC hl
  refine lv_aload_n S.1 S.2.1 dX0_pushPair_0 rfl (lv_at hl 0 rfl) ?_
  refine lv_iload_n S.1 S.2.1 dX0_pushPair_1 rfl (lv_at hl 1 rfl) ?_
  refine lv_iload_n S.1 S.2.1 dX0_pushPair_2 rfl (lv_at hl 2 rfl) ?_
  refine lv_iload_n S.1 S.2.1 dX0_pushPair_3 rfl (lv_at hl 3 rfl) ?_
  refine o_callv oiX S hC (c_X0_part l hn hr12 ha hb) cw_RX0_X0_part ⟨rfl, rfl, by decide, by decide⟩ rfl hl.1 rfl (Nat.le_of_ble_eq_true rfl) dX0_pushPair_4 ⟨(Nat.le_of_ble_eq_true rfl), (Nat.le_of_ble_eq_true rfl)⟩ (fun S1 H locs hp hC1 => ?_)
  have e1 := hp
  rw [e1] at hC1; replace hC := hC1
  have eq2 : (partF S0 n r a b).1 2 = nI q := by rw [(partF_1 S0 n r a b).1, hpc]
  have eix : ixN (S0.1 2) = q := by rw [hpc]; exact ixN_nI (by omega)
  refine lv_aload_n S.1 S.2.1 dX0_pushPair_7 rfl (lv_at hl 0 rfl) ?_
  refine x_get_pushedCount S hC dX0_pushPair_8 ?_
  rw [eq2]
  refine lv_iconst (v := nI 2) S.1 S.2.1 dX0_pushPair_11 rfl ?_
  refine n_icmp_ge (tgt := 45) S.1 S.2.1 dX0_pushPair_12 (by decide) (by omega) (by omega) (fun c12 => ?_) (fun c12 => ?_)
  · skip
    exact o_vret S hr hlocks hC (by rw [pushPF, hpc, if_pos ((nI_leI (by omega) (by omega)).mpr c12)]) dX0_pushPair_45 (Nat.le_of_ble_eq_true rfl) (Nat.le_of_ble_eq_true rfl)
  · skip
    refine lv_aload_n S.1 S.2.1 dX0_pushPair_15 rfl (lv_at hl 0 rfl) ?_
    refine x_get_pushedFirsts S hC dX0_pushPair_16 ?_
    refine lv_aload_n S.1 S.2.1 dX0_pushPair_19 rfl (lv_at hl 0 rfl) ?_
    refine x_get_pushedCount S hC dX0_pushPair_20 ?_
    rw [eq2]
    refine lv_iload_n S.1 S.2.1 dX0_pushPair_23 rfl (lv_at hl 2 rfl) ?_
    refine x_ist S hC hn 5 (by decide) (show q < 2 by omega) dX0_pushPair_24 (fun H locs hC => ?_)
    refine lv_aload_n S.1 S.2.1 dX0_pushPair_25 rfl (lv_at hl 0 rfl) ?_
    refine x_get_pushedSeconds S hC dX0_pushPair_26 ?_
    refine lv_aload_n S.1 S.2.1 dX0_pushPair_29 rfl (lv_at hl 0 rfl) ?_
    refine x_get_pushedCount S hC dX0_pushPair_30 ?_
    rw [show (sA (partF S0 n r a b) 5 q (nI a)).1 2 = nI q from eq2]
    refine lv_iload_n S.1 S.2.1 dX0_pushPair_33 rfl (lv_at hl 3 rfl) ?_
    refine x_ist S hC hn 6 (by decide) (show q < 2 by omega) dX0_pushPair_34 (fun H locs hC => ?_)
    refine lv_aload_n S.1 S.2.1 dX0_pushPair_35 rfl (lv_at hl 0 rfl) ?_
    refine lv_dup S.1 S.2.1 dX0_pushPair_36 rfl ?_
    refine x_get_pushedCount S hC dX0_pushPair_37 ?_
    rw [show (sA (sA (partF S0 n r a b) 5 q (nI a)) 6 q (nI b)).1 2 = nI q from eq2]
    refine lv_iconst (v := nI 1) S.1 S.2.1 dX0_pushPair_40 rfl ?_
    refine t_iadd S.1 S.2.1 dX0_pushPair_41 (nI_add _ _) ?_
    refine x_put_pushedCount S hC dX0_pushPair_42 (fun H locs hC => ?_)
    exact o_vret S hr hlocks hC (by rw [pushPF, if_neg (by rw [hpc]; exact fun h => absurd ((nI_leI (by omega) (by omega)).mp h) (by omega)), eix]) dX0_pushPair_45 (Nat.le_of_ble_eq_true rfl) (Nat.le_of_ble_eq_true rfl)
