def fI (S : RS) (r u : Nat) : Nat → RS
  | 0 => S
  | k + 1 => if hX (fI S r u k) r k u then sW (fI S r u k) r k ((fI S r u k).2.2 r k ||| (fI S r u k).2.2 r u) else fI S r u k
def fO (S : RS) (r n : Nat) : Nat → RS
  | 0 => S
  | k + 1 => fI (fO S r n k) r k n
def farF (S : RS) (n r : Nat) : RS := fO (cpF S r (ixN (S.2.1 3 r))) r n n
def wOF (S : RS) (n r : Nat) : Nat → RS
  | 0 => S
  | k + 1 => sW (wOF S n r k) r k (rowF (wOF S n r k) n (S.2.1 2 r - nI 10) (ixN (S.2.1 3 r)) (ixN (S.2.1 4 r)) k)
def workF (S : RS) (n r : Nat) : RS := if S.2.1 2 r = nI 15 then farF S n r else wOF S n r n
def setF (S : RS) (n t : Nat) : Nat → RS
  | 0 => S
  | k + 1 => if byC (setF S n t k) (t + k) then workF (setF S n t k) n (t + k) else setF S n t k
theorem fI_1 (S : RS) (r u : Nat) : ∀ k, (fI S r u k).1 = S.1 ∧ (fI S r u k).2.1 = S.2.1
  | 0 => ⟨rfl, rfl⟩
  | k + 1 => by
    unfold fI
    split
    · exact fI_1 S r u k
    · exact fI_1 S r u k
theorem fO_1 (S : RS) (r n : Nat) : ∀ k, (fO S r n k).1 = S.1 ∧ (fO S r n k).2.1 = S.2.1
  | 0 => ⟨rfl, rfl⟩
  | k + 1 => ⟨(fI_1 (fO S r n k) r k n).1.trans (fO_1 S r n k).1, (fI_1 (fO S r n k) r k n).2.trans (fO_1 S r n k).2⟩
theorem wOF_1 (S : RS) (n r : Nat) : ∀ k, (wOF S n r k).1 = S.1 ∧ (wOF S n r k).2.1 = S.2.1
  | 0 => ⟨rfl, rfl⟩
  | k + 1 => wOF_1 S n r k
theorem workF_1 (S : RS) (n r : Nat) : (workF S n r).1 = S.1 ∧ (workF S n r).2.1 = S.2.1 := by
  unfold workF
  split
  · exact fO_1 _ _ _ _
  · exact wOF_1 _ _ _ _
theorem setF_1 (S : RS) (n t : Nat) : ∀ k, (setF S n t k).1 = S.1 ∧ (setF S n t k).2.1 = S.2.1
  | 0 => ⟨rfl, rfl⟩
  | k + 1 => by
    have ih := setF_1 S n t k
    unfold setF
    split
    · exact ⟨(workF_1 _ n (t + k)).1.trans ih.1, (workF_1 _ n (t + k)).2.trans ih.2⟩
    · exact ih
/-- a relation by a condition, as it must be -/
def wfR (S : RS) (q : Nat) : Prop := ∃ cn j, cn < 6 ∧ S.2.1 2 q = nI (10 + cn) ∧ j < 12 ∧ S.2.1 3 q = nI j ∧ (2 ≤ cn → cn ≤ 4 → ∃ t, t < 12 ∧ S.2.1 4 q = nI t)
set_option maxRecDepth 100000 in
set_option maxHeartbeats 4000000 in
theorem c_X0_workOutFar (l : Launch) {loc : Nat → Nat} {n : Nat} {g : Gc} (hn : n ≤ 40) {S0 : RS} {r j : Nat} (hr12 : r < 12) (hj : j < 12) (h1 : S0.2.1 3 r = nI j) : MXv l yX0_workOutFar cX0_workOutFar 4 none (rmL 3 0 0) loc n g S0 [.int (nI r)] (fun S' => S' = farF S0 n r) := by
  refine o_enter (by decide) (Nat.le_of_ble_eq_true rfl) ?_
  intro p e s m below meth c ls S hr hlocks hC hl
  refine lv_aload_n S.1 S.2.1 dX0_workOutFar_0 rfl (lv_at hl 0 rfl) ?_
  refine x_get_rows S hC dX0_workOutFar_1 ?_
  refine lv_aload_n S.1 S.2.1 dX0_workOutFar_4 rfl (lv_at hl 0 rfl) ?_
  refine x_get_firsts S hC dX0_workOutFar_5 ?_
  refine lv_iload_n S.1 S.2.1 dX0_workOutFar_8 rfl (lv_at hl 1 rfl) ?_
  refine x_ild S hC hn 3 (by decide) hr12 dX0_workOutFar_9 ?_
  rw [h1]
  refine x_aald S hC hj dX0_workOutFar_10 ?_
  refine lv_iconst (v := nI 0) S.1 S.2.1 dX0_workOutFar_11 rfl ?_
  refine lv_aload_n S.1 S.2.1 dX0_workOutFar_12 rfl (lv_at hl 0 rfl) ?_
  refine x_get_rows S hC dX0_workOutFar_13 ?_
  refine lv_iload_n S.1 S.2.1 dX0_workOutFar_16 rfl (lv_at hl 1 rfl) ?_
  refine x_aald S hC hr12 dX0_workOutFar_17 ?_
  refine lv_iconst (v := nI 0) S.1 S.2.1 dX0_workOutFar_18 rfl ?_
  refine lv_aload_n S.1 S.2.1 dX0_workOutFar_19 rfl (lv_at hl 0 rfl) ?_
  refine x_get_things S hC dX0_workOutFar_20 ?_
  refine x_copy S hC hn hj hr12 hl.1 ⟨(Nat.le_of_ble_eq_true rfl), (Nat.le_of_ble_eq_true rfl)⟩ dX0_workOutFar_23 (fun H locs hC => ?_)
  refine lv_iconst (v := nI 0) S.1 S.2.1 dX0_workOutFar_26 rfl ?_
  refine lv_istore_n S.1 S.2.1 dX0_workOutFar_27 rfl hl (by decide) rfl (fun ls hl => ?_)
  have loopO : ∀ (k u : Nat), n - u < k → u ≤ n → ∀ (H : Heap) (locs : List Loc) (ls : Array Slot), CX loc n g (fO (cpF S0 r j) r n u) s H locs → lv_has ls 4 [(0, .ref (loc 0)), (1, .int (nI r)), (2, .int (nI u))] → W p l e (rmL 3 0 0) s m ([.ref (loc 0), .int (nI r)] : List Value).toArray below meth c H locs 0 0 (MQ below (va_Qv (fun S' => S' = farF S0 n r) (fun S' t => HX loc n g S' t.heap) (ZA loc 21)) ([.ref (loc 0), .int (nI r)] : List Value).toArray s (rmL 3 0 0).cells (rmL 3 0 0).slots (ZA loc 21)) (F0 m 28 ls []) := by
    intro k
    induction k with
    | zero => intro u hk; omega
    | succ k ihO =>
      intro u hkO hiO  H locs ls hC hl
      refine lv_iload_n S.1 S.2.1 dX0_workOutFar_28 rfl (lv_at hl 2 rfl) ?_
      refine lv_aload_n S.1 S.2.1 dX0_workOutFar_29 rfl (lv_at hl 0 rfl) ?_
      refine x_get_things S hC dX0_workOutFar_30 ?_
      refine n_icmp_ge (tgt := 87) S.1 S.2.1 dX0_workOutFar_33 (by decide) (by omega) (by omega) (fun c33 => ?_) (fun c33 => ?_)
      · skip
        exact o_vret S hr hlocks hC (by rw [farF, h1, ixN_nI (by omega), show n = u by omega]) dX0_workOutFar_87 (Nat.le_of_ble_eq_true rfl) (Nat.le_of_ble_eq_true rfl)
      · skip
        refine lv_iconst (v := nI 0) S.1 S.2.1 dX0_workOutFar_36 rfl ?_
        refine lv_istore_n S.1 S.2.1 dX0_workOutFar_37 rfl hl (by decide) rfl (fun ls hl => ?_)
        have loop : ∀ (k i : Nat), n - i < k → i ≤ n → ∀ (H : Heap) (locs : List Loc) (ls : Array Slot), CX loc n g (fI (fO (cpF S0 r j) r n u) r u i) s H locs → lv_has ls 4 [(0, .ref (loc 0)), (1, .int (nI r)), (2, .int (nI u)), (3, .int (nI i))] → W p l e (rmL 3 0 0) s m ([.ref (loc 0), .int (nI r)] : List Value).toArray below meth c H locs 0 0 (MQ below (va_Qv (fun S' => S' = farF S0 n r) (fun S' t => HX loc n g S' t.heap) (ZA loc 21)) ([.ref (loc 0), .int (nI r)] : List Value).toArray s (rmL 3 0 0).cells (rmL 3 0 0).slots (ZA loc 21)) (F0 m 38 ls []) := by
          intro k
          induction k with
          | zero => intro i hk; omega
          | succ k ih =>
            intro i hk hi  H locs ls hC hl
            refine lv_iload_n S.1 S.2.1 dX0_workOutFar_38 rfl (lv_at hl 3 rfl) ?_
            refine lv_aload_n S.1 S.2.1 dX0_workOutFar_39 rfl (lv_at hl 0 rfl) ?_
            refine x_get_things S hC dX0_workOutFar_40 ?_
            refine n_icmp_ge (tgt := 81) S.1 S.2.1 dX0_workOutFar_43 (by decide) (by omega) (by omega) (fun c43 => ?_) (fun c43 => ?_)
            · skip
              refine lv_iinc (k := 2) S.1 S.2.1 dX0_workOutFar_81 hl rfl (n_inc _) (by decide) rfl (fun ls hl => ?_)
              refine lv_goto (tgt := 28) S.1 S.2.1 dX0_workOutFar_84 (by decide) ?_
              exact ihO (u + 1) (by omega) (by omega) _ _ _ (by rw [show fO (cpF S0 r j) r n (u + 1) = fI (fO (cpF S0 r j) r n u) r u i by rw [show i = n by omega]; rfl]; exact hC) (lv_sub hl [1, 2, 0] rfl)
            · skip
              refine lv_aload_n S.1 S.2.1 dX0_workOutFar_46 rfl (lv_at hl 0 rfl) ?_
              refine lv_iload_n S.1 S.2.1 dX0_workOutFar_47 rfl (lv_at hl 1 rfl) ?_
              refine lv_iload_n S.1 S.2.1 dX0_workOutFar_48 rfl (lv_at hl 3 rfl) ?_
              refine lv_iload_n S.1 S.2.1 dX0_workOutFar_49 rfl (lv_at hl 2 rfl) ?_
              refine o_calli oiX S hC (c_X0_holds l hn hr12 (a := i) (b := u) (by omega) (by omega)) cw_RX0_X0_holds ⟨rfl, rfl, by decide, by decide⟩ rfl hl.1 rfl (Nat.le_of_ble_eq_true rfl) dX0_workOutFar_50 ⟨(Nat.le_of_ble_eq_true rfl), (Nat.le_of_ble_eq_true rfl)⟩ (fun r50 S1 H locs hp hC1 => ?_)
              obtain ⟨e1, hp⟩ := hp
              rw [e1] at hC1; replace hC := hC1
              subst hp
              refine b_if_eq (tgt := 75) S.1 S.2.1 dX0_workOutFar_53 (by decide) (fun c53 => ?_) (fun c53 => ?_)
              · skip
                refine lv_iinc (k := 3) S.1 S.2.1 dX0_workOutFar_75 hl rfl (n_inc _) (by decide) rfl (fun ls hl => ?_)
                refine lv_goto (tgt := 38) S.1 S.2.1 dX0_workOutFar_78 (by decide) ?_
                exact ih (i + 1) (by omega) (by omega) _ _ _ (by rw [fI, if_neg (by simp [c53])]; exact hC) (lv_sub hl [1, 2, 3, 0] rfl)
              · skip
                refine lv_aload_n S.1 S.2.1 dX0_workOutFar_56 rfl (lv_at hl 0 rfl) ?_
                refine x_get_rows S hC dX0_workOutFar_57 ?_
                refine lv_iload_n S.1 S.2.1 dX0_workOutFar_60 rfl (lv_at hl 1 rfl) ?_
                refine x_aald S hC hr12 dX0_workOutFar_61 ?_
                refine lv_iload_n S.1 S.2.1 dX0_workOutFar_62 rfl (lv_at hl 3 rfl) ?_
                refine lv_dup2_11 S.1 S.2.1 dX0_workOutFar_63 rfl rfl ?_
                refine x_lld S hC hn hr12 (show i < n by omega) dX0_workOutFar_64 ?_
                refine lv_aload_n S.1 S.2.1 dX0_workOutFar_65 rfl (lv_at hl 0 rfl) ?_
                refine x_get_rows S hC dX0_workOutFar_66 ?_
                refine lv_iload_n S.1 S.2.1 dX0_workOutFar_69 rfl (lv_at hl 1 rfl) ?_
                refine x_aald S hC hr12 dX0_workOutFar_70 ?_
                refine lv_iload_n S.1 S.2.1 dX0_workOutFar_71 rfl (lv_at hl 2 rfl) ?_
                refine x_lld S hC hn hr12 (show u < n by omega) dX0_workOutFar_72 ?_
                refine lv_lor S.1 S.2.1 dX0_workOutFar_73 ?_
                refine x_lst S hC hn hr12 (show i < n by omega) dX0_workOutFar_74 (fun H locs hC => ?_)
                refine lv_iinc (k := 3) S.1 S.2.1 dX0_workOutFar_75 hl rfl (n_inc _) (by decide) rfl (fun ls hl => ?_)
                refine lv_goto (tgt := 38) S.1 S.2.1 dX0_workOutFar_78 (by decide) ?_
                exact ih (i + 1) (by omega) (by omega) _ _ _ (by rw [fI, if_pos c53]; exact hC) (lv_sub hl [1, 2, 3, 0] rfl)
        exact loop (n + 1) 0 (by omega) (by omega) _ _ _ hC (lv_sub hl [1, 2, 3, 0] rfl)
  exact loopO (n + 1) 0 (by omega) (by omega) _ _ _ hC (lv_sub hl [1, 2, 0] rfl)
set_option maxRecDepth 100000 in
set_option maxHeartbeats 4000000 in
theorem c_X0_workOut (l : Launch) {loc : Nat → Nat} {n : Nat} {g : Gc} (hn : n ≤ 40) {S0 : RS} {r cn j : Nat} (hr12 : r < 12) (hcn : cn < 6) (hf : S0.2.1 2 r = nI (10 + cn)) (hj : j < 12) (h1 : S0.2.1 3 r = nI j) (h2 : 2 ≤ cn → cn ≤ 4 → ∃ t, t < 12 ∧ S0.2.1 4 r = nI t) : MXv l yX0_workOut cX0_workOut 4 none (rmL 5 0 0) loc n g S0 [.int (nI r)] (fun S' => S' = workF S0 n r) := by
  refine o_enter (by decide) (Nat.le_of_ble_eq_true rfl) ?_
  intro p e s m below meth c ls S hr hlocks hC hl
  refine lv_aload_n S.1 S.2.1 dX0_workOut_0 rfl (lv_at hl 0 rfl) ?_
  refine x_get_forms S hC dX0_workOut_1 ?_
  refine lv_iload_n S.1 S.2.1 dX0_workOut_4 rfl (lv_at hl 1 rfl) ?_
  refine x_ild S hC hn 2 (by decide) hr12 dX0_workOut_5 ?_
  rw [hf]
  refine lv_bipush (v := nI 10) S.1 S.2.1 dX0_workOut_6 rfl ?_
  refine t_isub S.1 S.2.1 dX0_workOut_8 (show nI (10 + cn) - nI 10 = nI cn by rw [pk_sub (by omega), Nat.add_sub_cancel_left]) ?_
  refine lv_istore_n S.1 S.2.1 dX0_workOut_9 rfl hl (by decide) rfl (fun ls hl => ?_)
  refine lv_iload_n S.1 S.2.1 dX0_workOut_10 rfl (lv_at hl 0 rfl) ?_
  refine lv_iconst (v := nI 5) S.1 S.2.1 dX0_workOut_11 rfl ?_
  refine n_icmp_ne (tgt := 21) S.1 S.2.1 dX0_workOut_12 (by decide) (by omega) (by omega) (fun c12 => ?_) (fun c12 => ?_)
  · skip
    refine lv_iconst (v := nI 0) S.1 S.2.1 dX0_workOut_21 rfl ?_
    refine lv_istore_n S.1 S.2.1 dX0_workOut_22 rfl hl (by decide) rfl (fun ls hl => ?_)
    have loop : ∀ (k i : Nat), n - i < k → i ≤ n → ∀ (H : Heap) (locs : List Loc) (ls : Array Slot), CX loc n g (wOF S0 n r i) s H locs → lv_has ls 4 [(0, .ref (loc 0)), (1, .int (nI r)), (2, .int (nI cn)), (3, .int (nI i))] → W p l e (rmL 5 0 0) s m ([.ref (loc 0), .int (nI r)] : List Value).toArray below meth c H locs 0 0 (MQ below (va_Qv (fun S' => S' = workF S0 n r) (fun S' t => HX loc n g S' t.heap) (ZA loc 21)) ([.ref (loc 0), .int (nI r)] : List Value).toArray s (rmL 5 0 0).cells (rmL 5 0 0).slots (ZA loc 21)) (F0 m 23 ls []) := by
      intro k
      induction k with
      | zero => intro i hk; omega
      | succ k ih =>
        intro i hk hi  H locs ls hC hl
        refine lv_iload_n S.1 S.2.1 dX0_workOut_23 rfl (lv_at hl 3 rfl) ?_
        refine lv_aload_n S.1 S.2.1 dX0_workOut_24 rfl (lv_at hl 0 rfl) ?_
        refine x_get_things S hC dX0_workOut_25 ?_
        refine n_icmp_ge (tgt := 63) S.1 S.2.1 dX0_workOut_28 (by decide) (by omega) (by omega) (fun c28 => ?_) (fun c28 => ?_)
        · skip
          exact o_vret S hr hlocks hC (by rw [workF, if_neg (by rw [hf]; exact fun q => c12 (by have := (nI_eq (by omega) (by omega)).mp q; omega)), show n = i by omega]) dX0_workOut_63 (Nat.le_of_ble_eq_true rfl) (Nat.le_of_ble_eq_true rfl)
        · skip
          refine lv_aload_n S.1 S.2.1 dX0_workOut_31 rfl (lv_at hl 0 rfl) ?_
          refine x_get_rows S hC dX0_workOut_32 ?_
          refine lv_iload_n S.1 S.2.1 dX0_workOut_35 rfl (lv_at hl 1 rfl) ?_
          refine x_aald S hC hr12 dX0_workOut_36 ?_
          refine lv_iload_n S.1 S.2.1 dX0_workOut_37 rfl (lv_at hl 3 rfl) ?_
          refine lv_aload_n S.1 S.2.1 dX0_workOut_38 rfl (lv_at hl 0 rfl) ?_
          refine lv_iload_n S.1 S.2.1 dX0_workOut_39 rfl (lv_at hl 2 rfl) ?_
          refine lv_aload_n S.1 S.2.1 dX0_workOut_40 rfl (lv_at hl 0 rfl) ?_
          refine x_get_firsts S hC dX0_workOut_41 ?_
          refine lv_iload_n S.1 S.2.1 dX0_workOut_44 rfl (lv_at hl 1 rfl) ?_
          refine x_ild S hC hn 3 (by decide) hr12 dX0_workOut_45 ?_
          rw [show (wOF S0 n r i).2.1 3 r = nI j by rw [(wOF_1 S0 n r i).2]; exact h1]
          refine lv_aload_n S.1 S.2.1 dX0_workOut_46 rfl (lv_at hl 0 rfl) ?_
          refine x_get_seconds S hC dX0_workOut_47 ?_
          refine lv_iload_n S.1 S.2.1 dX0_workOut_50 rfl (lv_at hl 1 rfl) ?_
          refine x_ild S hC hn 4 (by decide) hr12 dX0_workOut_51 ?_
          refine lv_iload_n S.1 S.2.1 dX0_workOut_52 rfl (lv_at hl 3 rfl) ?_
          refine o_calll oiX S hC (c_X0_rowBy l hn (nI cn) (a := i) hj (fun q1 q2 => by rw [(wOF_1 S0 n r i).2]; exact h2 (Nat.le_of_not_lt fun q => by rcases (show cn = 0 ∨ cn = 1 by omega) with rfl | rfl; exact q1 rfl; exact q2 rfl) (by omega)) (by omega)) cw_RX0_X0_rowBy ⟨rfl, rfl, by decide, by decide⟩ rfl hl.1 rfl (Nat.le_of_ble_eq_true rfl) dX0_workOut_53 ⟨(Nat.le_of_ble_eq_true rfl), (Nat.le_of_ble_eq_true rfl)⟩ (fun r53 S1 H locs hp hC1 => ?_)
          obtain ⟨e1, hp⟩ := hp
          rw [e1] at hC1; replace hC := hC1
          subst hp
          refine x_lst S hC hn hr12 (show i < n by omega) dX0_workOut_56 (fun H locs hC => ?_)
          refine lv_iinc (k := 3) S.1 S.2.1 dX0_workOut_57 hl rfl (n_inc _) (by decide) rfl (fun ls hl => ?_)
          refine lv_goto (tgt := 23) S.1 S.2.1 dX0_workOut_60 (by decide) ?_
          rw [(wOF_1 S0 n r i).2] at hC
          exact ih (i + 1) (by omega) (by omega) _ _ _ (by rw [wOF, hf, h1, (show nI (10 + cn) - nI 10 = nI cn by rw [pk_sub (by omega), Nat.add_sub_cancel_left]), ixN_nI (show j < 2 ^ 31 by omega)]; exact hC) (lv_sub hl [1, 2, 3, 0] rfl)
    exact loop (n + 1) 0 (by omega) (by omega) _ _ _ hC (lv_sub hl [2, 3, 1, 0] rfl)
  · skip
    refine lv_aload_n S.1 S.2.1 dX0_workOut_15 rfl (lv_at hl 1 rfl) ?_
    refine lv_iload_n S.1 S.2.1 dX0_workOut_16 rfl (lv_at hl 2 rfl) ?_
    refine o_callv oiX S hC (c_X0_workOutFar l hn hr12 hj h1) cw_RX0_X0_workOutFar ⟨rfl, rfl, by decide, by decide⟩ rfl hl.1 rfl (Nat.le_of_ble_eq_true rfl) dX0_workOut_17 ⟨(Nat.le_of_ble_eq_true rfl), (Nat.le_of_ble_eq_true rfl)⟩ (fun S1 H locs hp hC1 => ?_)
    have e1 := hp
    rw [e1] at hC1; replace hC := hC1
    exact o_vret S hr hlocks hC (by rw [workF, if_pos (by rw [hf, c12])]) dX0_workOut_20 (Nat.le_of_ble_eq_true rfl) (Nat.le_of_ble_eq_true rfl)
set_option maxRecDepth 100000 in
set_option maxHeartbeats 4000000 in
theorem c_X0_settle (l : Launch) {loc : Nat → Nat} {n : Nat} {g : Gc} (hn : n ≤ 40) {S0 : RS} {r t : Nat} (hr12 : r < 12) (ht12 : t ≤ 12) (ht : S0.1 1 = nI t) (hw : ∀ q, q ≤ r → byC S0 q = true → wfR S0 q) : MXv l yX0_settle cX0_settle 3 none (rmL 6 0 0) loc n g S0 [.int (nI r)] (fun S' => S' = sI (setF S0 n t (max t (r + 1) - t)) 1 (nI (max t (r + 1)))) := by
  refine o_enter (by decide) (Nat.le_of_ble_eq_true rfl) ?_
  intro p e s m below meth c ls S hr hlocks hC hl
  refine lv_aload_n S.1 S.2.1 dX0_settle_0 rfl (lv_at hl 0 rfl) ?_
  refine x_get_settled S hC dX0_settle_1 ?_
  rw [ht]
  refine lv_istore_n S.1 S.2.1 dX0_settle_4 rfl hl (by decide) rfl (fun ls hl => ?_)
  have loop : ∀ (k i : Nat), (max t (r + 1)) - i < k → i ≤ (max t (r + 1)) → ∀ (hti : t ≤ i), ∀ (H : Heap) (locs : List Loc) (ls : Array Slot), CX loc n g (setF S0 n t (i - t)) s H locs → lv_has ls 3 [(0, .ref (loc 0)), (1, .int (nI r)), (2, .int (nI i))] → W p l e (rmL 6 0 0) s m ([.ref (loc 0), .int (nI r)] : List Value).toArray below meth c H locs 0 0 (MQ below (va_Qv (fun S' => S' = sI (setF S0 n t (max t (r + 1) - t)) 1 (nI (max t (r + 1)))) (fun S' t => HX loc n g S' t.heap) (ZA loc 21)) ([.ref (loc 0), .int (nI r)] : List Value).toArray s (rmL 6 0 0).cells (rmL 6 0 0).slots (ZA loc 21)) (F0 m 5 ls []) := by
    intro k
    induction k with
    | zero => intro i hk; omega
    | succ k ih =>
      intro i hk hi hti H locs ls hC hl
      refine lv_iload_n S.1 S.2.1 dX0_settle_5 rfl (lv_at hl 2 rfl) ?_
      refine lv_iload_n S.1 S.2.1 dX0_settle_6 rfl (lv_at hl 1 rfl) ?_
      refine n_icmp_gt (tgt := 29) S.1 S.2.1 dX0_settle_7 (by decide) (by omega) (by omega) (fun c7 => ?_) (fun c7 => ?_)
      · skip
        refine lv_aload_n S.1 S.2.1 dX0_settle_29 rfl (lv_at hl 0 rfl) ?_
        refine lv_aload_n S.1 S.2.1 dX0_settle_30 rfl (lv_at hl 0 rfl) ?_
        refine x_get_settled S hC dX0_settle_31 ?_
        rw [show (setF S0 n t (i - t)).1 1 = nI t by rw [(setF_1 S0 n t (i - t)).1]; exact ht]
        refine lv_iload_n S.1 S.2.1 dX0_settle_34 rfl (lv_at hl 1 rfl) ?_
        refine lv_iconst (v := nI 1) S.1 S.2.1 dX0_settle_35 rfl ?_
        refine t_iadd S.1 S.2.1 dX0_settle_36 (nI_add _ _) ?_
        refine x_max S hl.1 (by omega) (by omega) ⟨(Nat.le_of_ble_eq_true rfl), (Nat.le_of_ble_eq_true rfl), (Nat.le_of_ble_eq_true rfl), (Nat.le_of_ble_eq_true rfl)⟩ dX0_settle_37 ?_
        refine x_put_settled S hC dX0_settle_40 (fun H locs hC => ?_)
        exact o_vret S hr hlocks hC (by rw [show i = max t (r + 1) by omega]) dX0_settle_43 (Nat.le_of_ble_eq_true rfl) (Nat.le_of_ble_eq_true rfl)
      · skip
        refine lv_aload_n S.1 S.2.1 dX0_settle_10 rfl (lv_at hl 0 rfl) ?_
        refine lv_iload_n S.1 S.2.1 dX0_settle_11 rfl (lv_at hl 2 rfl) ?_
        refine o_calli oiX S hC (c_X0_isByCondition l hn (r := i) (by omega)) cw_RX0_X0_isByCondition ⟨rfl, rfl, by decide, by decide⟩ rfl hl.1 rfl (Nat.le_of_ble_eq_true rfl) dX0_settle_12 ⟨(Nat.le_of_ble_eq_true rfl), (Nat.le_of_ble_eq_true rfl)⟩ (fun r12 S1 H locs hp hC1 => ?_)
        obtain ⟨e1, hp⟩ := hp
        rw [e1] at hC1; replace hC := hC1
        subst hp
        refine b_if_eq (tgt := 23) S.1 S.2.1 dX0_settle_15 (by decide) (fun c15 => ?_) (fun c15 => ?_)
        · skip
          refine lv_iinc (k := 2) S.1 S.2.1 dX0_settle_23 hl rfl (n_inc _) (by decide) rfl (fun ls hl => ?_)
          refine lv_goto (tgt := 5) S.1 S.2.1 dX0_settle_26 (by decide) ?_
          exact ih (i + 1) (by omega) (by omega) (by omega) _ _ _ (by rw [show i + 1 - t = (i - t) + 1 by omega, setF, show t + (i - t) = i by omega, if_neg (by simp [c15])]; exact hC) (lv_sub hl [1, 2, 0] rfl)
        · have c16 : byC S0 i = true := by rw [← c15]; unfold byC; rw [(setF_1 S0 n t (i - t)).2]
          obtain ⟨cn, j, hcn, hf, hj, h1, h2⟩ := hw i (by omega) c16
          refine lv_aload_n S.1 S.2.1 dX0_settle_18 rfl (lv_at hl 0 rfl) ?_
          refine lv_iload_n S.1 S.2.1 dX0_settle_19 rfl (lv_at hl 2 rfl) ?_
          refine o_callv oiX S hC (c_X0_workOut l hn (r := i) (by omega) hcn (by rw [(setF_1 S0 n t (i - t)).2]; exact hf) hj (by rw [(setF_1 S0 n t (i - t)).2]; exact h1) (by rw [(setF_1 S0 n t (i - t)).2]; exact h2)) cw_RX0_X0_workOut ⟨rfl, rfl, by decide, by decide⟩ rfl hl.1 rfl (Nat.le_of_ble_eq_true rfl) dX0_settle_20 ⟨(Nat.le_of_ble_eq_true rfl), (Nat.le_of_ble_eq_true rfl)⟩ (fun S1 H locs hp hC1 => ?_)
          have e1 := hp
          rw [e1] at hC1; replace hC := hC1
          refine lv_iinc (k := 2) S.1 S.2.1 dX0_settle_23 hl rfl (n_inc _) (by decide) rfl (fun ls hl => ?_)
          refine lv_goto (tgt := 5) S.1 S.2.1 dX0_settle_26 (by decide) ?_
          clear h2 hw
          exact ih (i + 1) (by omega) (by omega) (by omega) _ _ _ (by rw [show i + 1 - t = (i - t) + 1 by omega, setF, show t + (i - t) = i by omega, if_pos c15]; exact hC) (lv_sub hl [1, 2, 0] rfl)
  exact loop ((max t (r + 1)) + 1) t (by omega) (by omega) (Nat.le_refl t) _ _ _ (by rw [Nat.sub_self]; exact hC) (lv_sub hl [1, 2, 0] rfl)
set_option maxRecDepth 100000 in
set_option maxHeartbeats 4000000 in
theorem c_X0_makeStale (l : Launch) {loc : Nat → Nat} {n : Nat} {g : Gc} (hn : n ≤ 40) {S0 : RS} {r t : Nat} (hr12 : r < 12) (ht12 : t ≤ 12) (ht : S0.1 1 = nI t) : MXv l yX0_makeStale cX0_makeStale 2 none (rmL 2 0 0) loc n g S0 [.int (nI r)] (fun S' => S' = sI S0 1 (nI (min t (r + 1)))) := by
  refine o_enter (by decide) (Nat.le_of_ble_eq_true rfl) ?_
  intro p e s m below meth c ls S hr hlocks hC hl
  refine lv_aload_n S.1 S.2.1 dX0_makeStale_0 rfl (lv_at hl 0 rfl) ?_
  refine lv_aload_n S.1 S.2.1 dX0_makeStale_1 rfl (lv_at hl 0 rfl) ?_
  refine x_get_settled S hC dX0_makeStale_2 ?_
  rw [ht]
  refine lv_iload_n S.1 S.2.1 dX0_makeStale_5 rfl (lv_at hl 1 rfl) ?_
  refine lv_iconst (v := nI 1) S.1 S.2.1 dX0_makeStale_6 rfl ?_
  refine t_iadd S.1 S.2.1 dX0_makeStale_7 (nI_add _ _) ?_
  refine x_min S hl.1 (by omega) (by omega) ⟨(Nat.le_of_ble_eq_true rfl), (Nat.le_of_ble_eq_true rfl), (Nat.le_of_ble_eq_true rfl), (Nat.le_of_ble_eq_true rfl)⟩ dX0_makeStale_8 ?_
  refine x_put_settled S hC dX0_makeStale_11 (fun H locs hC => ?_)
  exact o_vret S hr hlocks hC rfl dX0_makeStale_14 (Nat.le_of_ble_eq_true rfl) (Nat.le_of_ble_eq_true rfl)
def mI (P : RS × Int64) (r u : Nat) (bf : Int64) : Nat → RS × Int64
  | 0 => P
  | k + 1 => if (mI P r u bf k).1.2.1 7 k = -1 ∧ ¬ ((mI P r u bf k).1.2.2 r k &&& bf = 0) then (sA (mI P r u bf k).1 7 k (nI u), (mI P r u bf k).2 ||| bitN k) else mI P r u bf k
def mG (n r : Nat) : Nat → Nat → RS × Int64 → RS
  | 0, _, P => P.1
  | k + 1, u, P => if (mI P r u P.2 n).2 = P.2 then (mI P r u P.2 n).1 else mG n r k (u + 1) (mI P r u P.2 n)
def measF (S : RS) (n r b : Nat) : RS := mG n r (n - 1) 1 (sA (fillF S 7 (-1)) 7 b (nI 0), bitN b)
set_option maxRecDepth 100000 in
set_option maxHeartbeats 4000000 in
theorem c_X0_measureSteps (l : Launch) {loc : Nat → Nat} {n : Nat} {g : Gc} (hn : n ≤ 40) {S0 : RS} {r b : Nat} (hr12 : r < 12) (hb : b < n) : MXv l yX0_measureSteps cX0_measureSteps 9 none (rmL 3 0 0) loc n g S0 [.int (nI r), .int (nI b)] (fun S' => S' = measF S0 n r b) := by
  refine o_enter (by decide) (Nat.le_of_ble_eq_true rfl) ?_
  intro p e s m below meth c ls S hr hlocks hC hl
  refine lv_aload_n S.1 S.2.1 dX0_measureSteps_0 rfl (lv_at hl 0 rfl) ?_
  refine x_get_steps S hC dX0_measureSteps_1 ?_
  refine lv_iconst (v := -1) S.1 S.2.1 dX0_measureSteps_4 rfl ?_
  refine x_fill S hC hn 7 (by decide) hl.1 (Nat.le_of_ble_eq_true rfl) ⟨(Nat.le_of_ble_eq_true rfl), (Nat.le_of_ble_eq_true rfl), (Nat.le_of_ble_eq_true rfl), (Nat.le_of_ble_eq_true rfl)⟩ dX0_measureSteps_5 (fun H locs hC => ?_)
  refine lv_aload_n S.1 S.2.1 dX0_measureSteps_8 rfl (lv_at hl 0 rfl) ?_
  refine x_get_steps S hC dX0_measureSteps_9 ?_
  refine lv_iload_n S.1 S.2.1 dX0_measureSteps_12 rfl (lv_at hl 2 rfl) ?_
  refine lv_iconst (v := nI 0) S.1 S.2.1 dX0_measureSteps_13 rfl ?_
  refine x_ist S hC hn 7 (by decide) hb dX0_measureSteps_14 (fun H locs hC => ?_)
  refine lv_iload_n S.1 S.2.1 dX0_measureSteps_15 rfl (lv_at hl 2 rfl) ?_
  refine s_calll S (c_X0_bit l (nI b)) cw_RX0_X0_bit ⟨rfl, rfl, by decide, by decide⟩ rfl hl.1 rfl (Nat.le_of_ble_eq_true rfl) dX0_measureSteps_16 ⟨(Nat.le_of_ble_eq_true rfl), (Nat.le_of_ble_eq_true rfl)⟩ (fun r16 hp => ?_)
  subst hp
  refine lv_lstore_n S.1 S.2.1 dX0_measureSteps_19 rfl hl (by decide) rfl (fun ls hl => ?_)
  refine lv_iconst (v := nI 1) S.1 S.2.1 dX0_measureSteps_20 rfl ?_
  refine lv_istore S.1 S.2.1 dX0_measureSteps_21 hl (by decide) rfl (fun ls hl => ?_)
  have loopO : ∀ (k u : Nat), n - u < k → u ≤ n → ∀ (P : RS × Int64) (hT : measF S0 n r b = mG n r (n - u) u P), ∀ (H : Heap) (locs : List Loc) (ls : Array Slot), CX loc n g (P.1) s H locs → lv_has ls 9 [(0, .ref (loc 0)), (1, .int (nI r)), (2, .int (nI b)), (3, .long P.2), (5, .int (nI u))] → W p l e (rmL 3 0 0) s m ([.ref (loc 0), .int (nI r), .int (nI b)] : List Value).toArray below meth c H locs 0 0 (MQ below (va_Qv (fun S' => S' = measF S0 n r b) (fun S' t => HX loc n g S' t.heap) (ZA loc 21)) ([.ref (loc 0), .int (nI r), .int (nI b)] : List Value).toArray s (rmL 3 0 0).cells (rmL 3 0 0).slots (ZA loc 21)) (F0 m 23 ls []) := by
    intro k
    induction k with
    | zero => intro u hk; omega
    | succ k ihO =>
      intro u hkO hiO P hT H locs ls hC hl
      refine lv_iload S.1 S.2.1 dX0_measureSteps_23 (lv_at hl 4 rfl) ?_
      refine lv_aload_n S.1 S.2.1 dX0_measureSteps_25 rfl (lv_at hl 0 rfl) ?_
      refine x_get_things S hC dX0_measureSteps_26 ?_
      refine n_icmp_ge (tgt := 114) S.1 S.2.1 dX0_measureSteps_29 (by decide) (by omega) (by omega) (fun c29 => ?_) (fun c29 => ?_)
      · skip
        exact o_vret S hr hlocks hC (by rw [hT, show n - u = 0 by omega, mG]) dX0_measureSteps_114 (Nat.le_of_ble_eq_true rfl) (Nat.le_of_ble_eq_true rfl)
      · skip
        refine lv_lload_n S.1 S.2.1 dX0_measureSteps_32 rfl (lv_at hl 3 rfl) ?_
        refine lv_lstore S.1 S.2.1 dX0_measureSteps_33 hl (by decide) rfl (fun ls hl => ?_)
        refine lv_iconst (v := nI 0) S.1 S.2.1 dX0_measureSteps_35 rfl ?_
        refine lv_istore S.1 S.2.1 dX0_measureSteps_36 hl (by decide) rfl (fun ls hl => ?_)
        have loop : ∀ (k i : Nat), n - i < k → i ≤ n → ∀ (H : Heap) (locs : List Loc) (ls : Array Slot), CX loc n g ((mI P r u P.2 i).1) s H locs → lv_has ls 9 [(0, .ref (loc 0)), (1, .int (nI r)), (2, .int (nI b)), (3, .long (mI P r u P.2 i).2), (5, .int (nI u)), (6, .long P.2), (8, .int (nI i))] → W p l e (rmL 3 0 0) s m ([.ref (loc 0), .int (nI r), .int (nI b)] : List Value).toArray below meth c H locs 0 0 (MQ below (va_Qv (fun S' => S' = measF S0 n r b) (fun S' t => HX loc n g S' t.heap) (ZA loc 21)) ([.ref (loc 0), .int (nI r), .int (nI b)] : List Value).toArray s (rmL 3 0 0).cells (rmL 3 0 0).slots (ZA loc 21)) (F0 m 38 ls []) := by
          intro k
          induction k with
          | zero => intro i hk; omega
          | succ k ih =>
            intro i hk hi  H locs ls hC hl
            refine lv_iload S.1 S.2.1 dX0_measureSteps_38 (lv_at hl 6 rfl) ?_
            refine lv_aload_n S.1 S.2.1 dX0_measureSteps_40 rfl (lv_at hl 0 rfl) ?_
            refine x_get_things S hC dX0_measureSteps_41 ?_
            refine n_icmp_ge (tgt := 98) S.1 S.2.1 dX0_measureSteps_44 (by decide) (by omega) (by omega) (fun c44 => ?_) (fun c44 => ?_)
            · skip
              refine lv_lload_n S.1 S.2.1 dX0_measureSteps_98 rfl (lv_at hl 3 rfl) ?_
              refine lv_lload S.1 S.2.1 dX0_measureSteps_99 (lv_at hl 5 rfl) ?_
              refine W.lcmp S.1 S.2.1 dX0_measureSteps_101 ?_
              refine lv_if_ne (tgt := 108) S.1 S.2.1 dX0_measureSteps_102 (by decide) (fun c102 => ?_) (fun c102 => ?_)
              · skip
                refine lv_iinc (k := 4) S.1 S.2.1 dX0_measureSteps_108 hl rfl (n_inc _) (by decide) rfl (fun ls hl => ?_)
                refine lv_goto (tgt := 23) S.1 S.2.1 dX0_measureSteps_111 (by decide) ?_
                rw [show i = n by omega] at hC hl c102
                exact ihO (u + 1) (by omega) (by omega) (mI P r u P.2 n) (by rw [hT, show n - u = (n - (u + 1)) + 1 by omega, mG, if_neg (fun q => c102 ((lg_cmp_eq _ _).mpr q))]) _ _ _ hC (lv_sub hl [1, 2, 3, 4, 0] rfl)
              · skip
                refine lv_goto (tgt := 114) S.1 S.2.1 dX0_measureSteps_105 (by decide) ?_
                exact o_vret S hr hlocks hC (by rw [hT, show n - u = (n - (u + 1)) + 1 by omega, mG, if_pos (by rw [show n = i by omega]; exact (lg_cmp_eq _ _).mp c102), show n = i by omega]) dX0_measureSteps_114 (Nat.le_of_ble_eq_true rfl) (Nat.le_of_ble_eq_true rfl)
            · skip
              refine lv_aload_n S.1 S.2.1 dX0_measureSteps_47 rfl (lv_at hl 0 rfl) ?_
              refine x_get_steps S hC dX0_measureSteps_48 ?_
              refine lv_iload S.1 S.2.1 dX0_measureSteps_51 (lv_at hl 6 rfl) ?_
              refine x_ild S hC hn 7 (by decide) (show i < n by omega) dX0_measureSteps_53 ?_
              refine lv_iconst (v := -1) S.1 S.2.1 dX0_measureSteps_54 rfl ?_
              refine lv_icmp_ne (tgt := 92) S.1 S.2.1 dX0_measureSteps_55 (by decide) (fun c55 => ?_) (fun c55 => ?_)
              · skip
                refine lv_iinc (k := 6) S.1 S.2.1 dX0_measureSteps_92 hl rfl (n_inc _) (by decide) rfl (fun ls hl => ?_)
                refine lv_goto (tgt := 38) S.1 S.2.1 dX0_measureSteps_95 (by decide) ?_
                exact ih (i + 1) (by omega) (by omega) _ _ _ (by rw [mI, if_neg (fun q => c55 q.1)]; exact hC) (by rw [mI, if_neg (fun q => c55 q.1)]; exact lv_sub hl [1, 2, 3, 4, 5, 6, 0] rfl)
              · skip
                refine lv_aload_n S.1 S.2.1 dX0_measureSteps_58 rfl (lv_at hl 0 rfl) ?_
                refine x_get_rows S hC dX0_measureSteps_59 ?_
                refine lv_iload_n S.1 S.2.1 dX0_measureSteps_62 rfl (lv_at hl 1 rfl) ?_
                refine x_aald S hC hr12 dX0_measureSteps_63 ?_
                refine lv_iload S.1 S.2.1 dX0_measureSteps_64 (lv_at hl 6 rfl) ?_
                refine x_lld S hC hn hr12 (show i < n by omega) dX0_measureSteps_66 ?_
                refine lv_lload S.1 S.2.1 dX0_measureSteps_67 (lv_at hl 5 rfl) ?_
                refine lv_land S.1 S.2.1 dX0_measureSteps_69 ?_
                refine lv_lconst (v := 0) S.1 S.2.1 dX0_measureSteps_70 rfl ?_
                refine W.lcmp S.1 S.2.1 dX0_measureSteps_71 ?_
                refine lv_if_eq (tgt := 92) S.1 S.2.1 dX0_measureSteps_72 (by decide) (fun c72 => ?_) (fun c72 => ?_)
                · skip
                  refine lv_iinc (k := 6) S.1 S.2.1 dX0_measureSteps_92 hl rfl (n_inc _) (by decide) rfl (fun ls hl => ?_)
                  refine lv_goto (tgt := 38) S.1 S.2.1 dX0_measureSteps_95 (by decide) ?_
                  exact ih (i + 1) (by omega) (by omega) _ _ _ (by rw [mI, if_neg (fun q => q.2 ((lg_cmp_eq _ _).mp c72))]; exact hC) (by rw [mI, if_neg (fun q => q.2 ((lg_cmp_eq _ _).mp c72))]; exact lv_sub hl [1, 2, 3, 4, 5, 6, 0] rfl)
                · skip
                  refine lv_aload_n S.1 S.2.1 dX0_measureSteps_75 rfl (lv_at hl 0 rfl) ?_
                  refine x_get_steps S hC dX0_measureSteps_76 ?_
                  refine lv_iload S.1 S.2.1 dX0_measureSteps_79 (lv_at hl 6 rfl) ?_
                  refine lv_iload S.1 S.2.1 dX0_measureSteps_81 (lv_at hl 4 rfl) ?_
                  refine x_ist S hC hn 7 (by decide) (show i < n by omega) dX0_measureSteps_83 (fun H locs hC => ?_)
                  refine lv_lload_n S.1 S.2.1 dX0_measureSteps_84 rfl (lv_at hl 3 rfl) ?_
                  refine lv_iload S.1 S.2.1 dX0_measureSteps_85 (lv_at hl 6 rfl) ?_
                  refine s_calll S (c_X0_bit l (nI i)) cw_RX0_X0_bit ⟨rfl, rfl, by decide, by decide⟩ rfl hl.1 rfl (Nat.le_of_ble_eq_true rfl) dX0_measureSteps_87 ⟨(Nat.le_of_ble_eq_true rfl), (Nat.le_of_ble_eq_true rfl)⟩ (fun r87 hp => ?_)
                  subst hp
                  refine lv_lor S.1 S.2.1 dX0_measureSteps_90 ?_
                  refine lv_lstore_n S.1 S.2.1 dX0_measureSteps_91 rfl hl (by decide) rfl (fun ls hl => ?_)
                  refine lv_iinc (k := 6) S.1 S.2.1 dX0_measureSteps_92 hl rfl (n_inc _) (by decide) rfl (fun ls hl => ?_)
                  refine lv_goto (tgt := 38) S.1 S.2.1 dX0_measureSteps_95 (by decide) ?_
                  exact ih (i + 1) (by omega) (by omega) _ _ _ (by rw [mI, if_pos ⟨c55, fun q => c72 ((lg_cmp_eq _ _).mpr q)⟩]; exact hC) (by rw [mI, if_pos ⟨c55, fun q => c72 ((lg_cmp_eq _ _).mpr q)⟩]; exact lv_sub hl [2, 3, 4, 1, 5, 6, 0] rfl)
        exact loop (n + 1) 0 (by omega) (by omega) _ _ _ hC (lv_sub hl [2, 3, 4, 5, 6, 1, 0] rfl)
  exact loopO (n + 1) 1 (by omega) (by omega) (sA (fillF S0 7 (-1)) 7 b (nI 0), bitN b) rfl _ _ _ hC (lv_sub hl [2, 3, 4, 1, 0] rfl)
