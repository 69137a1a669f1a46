set_option maxRecDepth 100000 in
set_option maxHeartbeats 4000000 in
theorem c_X1_learn (l : Launch) {loc : Nat → Nat} {n : Nat} {g : Gc} (hn : n ≤ 40) {S0 : MS} {r : Nat} (hr12 : r < 12) (hw : ∀ q, q ≤ r → ¬ S0.2.1 1 q < nI 10 → wfM S0 q) : MMv l yX1_learn cX1_learn 3 none (rmL 4 0 0) loc n g S0 [.int (nI r)] (fun S' => S' = lrF S0 n (r + 1)) := by
  refine o_enter (by decide) (Nat.le_of_ble_eq_true rfl) ?_
  intro p e s m below meth c ls S hr hlocks hC hl
  refine lv_iconst (v := nI 0) S.1 S.2.1 dX1_learn_0 rfl ?_
  refine lv_istore_n S.1 S.2.1 dX1_learn_1 rfl hl (by decide) rfl (fun ls hl => ?_)
  have loop : ∀ (k i : Nat), (r + 1) - i < k → i ≤ (r + 1) → ∀ (H : Heap) (locs : List Loc) (ls : Array Slot), CM loc n g (lrF S0 n i) s H locs → lv_has ls 3 [(0, .ref (loc 0)), (1, .int (nI r)), (2, .int (nI i))] → W p l e (rmL 4 0 0) s m ([.ref (loc 0), .int (nI r)] : List Value).toArray below meth c H locs 0 0 (MQ below (va_Qv (fun S' => S' = lrF S0 n (r + 1)) (fun S' t => HM loc n g S' t.heap) (ZA loc 10)) ([.ref (loc 0), .int (nI r)] : List Value).toArray s (rmL 4 0 0).cells (rmL 4 0 0).slots (ZA loc 10)) (F0 m 2 ls []) := by
    intro k
    induction k with
    | zero => intro i hk; omega
    | succ k ih =>
      intro i hk hi  H locs ls hC hl
      refine lv_iload_n S.1 S.2.1 dX1_learn_2 rfl (lv_at hl 2 rfl) ?_
      refine lv_iload_n S.1 S.2.1 dX1_learn_3 rfl (lv_at hl 1 rfl) ?_
      refine n_icmp_gt (tgt := 29) S.1 S.2.1 dX1_learn_4 (by decide) (by omega) (by omega) (fun c4 => ?_) (fun c4 => ?_)
      · skip
        exact o_vret S hr hlocks hC (by rw [show i = r + 1 by omega]) dX1_learn_29 (Nat.le_of_ble_eq_true rfl) (Nat.le_of_ble_eq_true rfl)
      · skip
        refine lv_aload_n S.1 S.2.1 dX1_learn_7 rfl (lv_at hl 0 rfl) ?_
        refine m_get_form S hC dX1_learn_8 ?_
        refine lv_iload_n S.1 S.2.1 dX1_learn_11 rfl (lv_at hl 2 rfl) ?_
        refine m_ild S hC 1 (by decide) (show i < 12 by omega) dX1_learn_12 ?_
        refine lv_bipush (v := nI 10) S.1 S.2.1 dX1_learn_13 rfl ?_
        refine lv_icmp_lt (tgt := 23) S.1 S.2.1 dX1_learn_15 (by decide) (fun c15 => ?_) (fun c15 => ?_)
        · skip
          refine lv_iinc (k := 2) S.1 S.2.1 dX1_learn_23 hl rfl (n_inc _) (by decide) rfl (fun ls hl => ?_)
          refine lv_goto (tgt := 2) S.1 S.2.1 dX1_learn_26 (by decide) ?_
          exact ih (i + 1) (by omega) (by omega) _ _ _ (by rw [lrF, if_pos c15]; exact hC) (lv_sub hl [1, 2, 0] rfl)
        · have c16 : ¬ S0.2.1 1 i < nI 10 := by rw [← (lrF_1 S0 n i).2]; exact c15
          obtain ⟨cn, j, hcn, hf, hj, h1, h2⟩ := hw i (by omega) c16
          refine lv_aload_n S.1 S.2.1 dX1_learn_18 rfl (lv_at hl 0 rfl) ?_
          refine lv_iload_n S.1 S.2.1 dX1_learn_19 rfl (lv_at hl 2 rfl) ?_
          refine o_callv oiM S hC (c_X1_work l hn (r := i) (by omega) hcn (by rw [(lrF_1 S0 n i).2]; exact hf) hj (by rw [(lrF_1 S0 n i).2]; exact h1) (by rw [(lrF_1 S0 n i).2]; exact h2)) cw_RX1_X1_work ⟨rfl, rfl, by decide, by decide⟩ rfl hl.1 rfl (Nat.le_of_ble_eq_true rfl) dX1_learn_20 ⟨(Nat.le_of_ble_eq_true rfl), (Nat.le_of_ble_eq_true rfl)⟩ (fun S1 H locs hp hC1 => ?_)
          have e1 := hp
          rw [e1] at hC1; replace hC := hC1
          refine lv_iinc (k := 2) S.1 S.2.1 dX1_learn_23 hl rfl (n_inc _) (by decide) rfl (fun ls hl => ?_)
          refine lv_goto (tgt := 2) S.1 S.2.1 dX1_learn_26 (by decide) ?_
          clear h2 hw
          exact ih (i + 1) (by omega) (by omega) _ _ _ (by rw [lrF, if_neg c15]; exact hC) (lv_sub hl [1, 2, 0] rfl)
  exact loop ((r + 1) + 1) 0 (by omega) (by omega) _ _ _ hC (lv_sub hl [1, 2, 0] rfl)
def ofM (k w : Int32) : Bool := decide (w = -1) || decide (k = w)
def okM (S : MS) (r a b : Nat) : Bool := ofM (S.2.1 0 a) (S.2.1 2 r) && (ofM (S.2.1 0 b) (S.2.1 3 r) && !(decide (S.2.1 1 r = nI 4) && decide (a = b)))
def wC (S : MS) (n R : Nat) (x a b : Int32) : Int32 :=
  if inI x (nI R) = false ∨ inI a (nI n) = false ∨ inI b (nI n) = false then nI 1 else if ¬ S.2.1 1 (ixN x) < nI 10 then nI 2 else if okM S (ixN x) (ixN a) (ixN b) = true then nI 0 else nI 1
set_option maxRecDepth 100000 in
set_option maxHeartbeats 4000000 in
theorem c_X1_whyNot (l : Launch) {loc : Nat → Nat} {n : Nat} {g : Gc} (hn : n ≤ 40) {S0 : MS} {R : Nat} (hR : R ≤ 12) (hrel : S0.1 1 = nI R) (x a b : Int32) : MMi l yX1_whyNot cX1_whyNot 5 (some .int) (rmL 3 0 0) loc n g S0 [.int x, .int a, .int b] (fun v S' => S' = S0 ∧ v = wC S0 n R x a b) := by
  refine o_enter (by decide) (Nat.le_of_ble_eq_true rfl) ?_
  intro p e s m below meth c ls S hr hlocks hC hl
  have tail95 : ∀ (r a' b' : Nat) (er : ixN x = r) (ea : ixN a = a') (eb : ixN b = b') (hg : ¬ (inI x (nI R) = false ∨ inI a (nI n) = false ∨ inI b (nI n) = false)) (hf : S0.2.1 1 r < nI 10), ∀ (H : Heap) (locs : List Loc) (ls : Array Slot), CM loc n g (S0) s H locs → lv_has ls 5 [(0, .ref (loc 0))] → W p l e (rmL 3 0 0) s m ([.ref (loc 0), .int x, .int a, .int b] : List Value).toArray below meth c H locs 0 0 (MQ below (va_Qi (fun v S' => S' = S0 ∧ v = wC S0 n R x a b) (fun S' t => HM loc n g S' t.heap) (ZA loc 10)) ([.ref (loc 0), .int x, .int a, .int b] : List Value).toArray s (rmL 3 0 0).cells (rmL 3 0 0).slots (ZA loc 10)) (F0 m 95 ls [.int (bI (okM S0 r a' b'))]) := by
    intro r a' b' er ea eb hg hf H locs ls hC hl
    refine lv_istore S.1 S.2.1 dX1_whyNot_95 hl (by decide) rfl (fun ls hl => ?_)
    refine lv_iload S.1 S.2.1 dX1_whyNot_97 (lv_at hl 0 rfl) ?_
    refine b_if_eq (tgt := 106) S.1 S.2.1 dX1_whyNot_99 (by decide) (fun c99 => ?_) (fun c99 => ?_)
    · skip
      refine lv_iconst (v := nI 1) S.1 S.2.1 dX1_whyNot_106 rfl ?_
      exact o_iret S hr hlocks hC ⟨rfl, by rw [wC, if_neg hg, er, ea, eb, if_neg (fun q => q hf), if_neg (by rw [c99]; decide)]⟩ rfl dX1_whyNot_107 (Nat.le_of_ble_eq_true rfl) (Nat.le_of_ble_eq_true rfl)
    · skip
      refine lv_iconst (v := nI 0) S.1 S.2.1 dX1_whyNot_102 rfl ?_
      refine lv_goto (tgt := 107) S.1 S.2.1 dX1_whyNot_103 (by decide) ?_
      exact o_iret S hr hlocks hC ⟨rfl, by rw [wC, if_neg hg, er, ea, eb, if_neg (fun q => q hf), if_pos c99]⟩ rfl dX1_whyNot_107 (Nat.le_of_ble_eq_true rfl) (Nat.le_of_ble_eq_true rfl)
  refine lv_aload_n S.1 S.2.1 dX1_whyNot_0 rfl (lv_at hl 0 rfl) ?_
  refine lv_iload_n S.1 S.2.1 dX1_whyNot_1 rfl (lv_at hl 1 rfl) ?_
  refine o_calli oiM S hC (c_X1_isRelation l hn hR hrel x) cw_RX1_X1_isRelation ⟨rfl, rfl, by decide, by decide⟩ rfl hl.1 rfl (Nat.le_of_ble_eq_true rfl) dX1_whyNot_2 ⟨(Nat.le_of_ble_eq_true rfl), (Nat.le_of_ble_eq_true rfl)⟩ (fun r2 S1 H locs hp hC1 => ?_)
  obtain ⟨e1, hp⟩ := hp
  rw [e1] at hC1; replace hC := hC1
  subst hp
  refine b_if_eq (tgt := 24) S.1 S.2.1 dX1_whyNot_5 (by decide) (fun c5 => ?_) (fun c5 => ?_)
  · skip
    refine lv_iconst (v := nI 1) S.1 S.2.1 dX1_whyNot_24 rfl ?_
    exact o_iret S hr hlocks hC ⟨rfl, by rw [wC, if_pos (Or.inl c5)]⟩ rfl dX1_whyNot_25 (Nat.le_of_ble_eq_true rfl) (Nat.le_of_ble_eq_true rfl)
  · skip
    refine lv_aload_n S.1 S.2.1 dX1_whyNot_8 rfl (lv_at hl 0 rfl) ?_
    refine lv_iload_n S.1 S.2.1 dX1_whyNot_9 rfl (lv_at hl 2 rfl) ?_
    refine o_calli oiM S hC (c_X1_isThing l hn a) cw_RX1_X1_isThing ⟨rfl, rfl, by decide, by decide⟩ rfl hl.1 rfl (Nat.le_of_ble_eq_true rfl) dX1_whyNot_10 ⟨(Nat.le_of_ble_eq_true rfl), (Nat.le_of_ble_eq_true rfl)⟩ (fun r10 S1 H locs hp hC1 => ?_)
    obtain ⟨e1, hp⟩ := hp
    rw [e1] at hC1; replace hC := hC1
    subst hp
    refine b_if_eq (tgt := 24) S.1 S.2.1 dX1_whyNot_13 (by decide) (fun c13 => ?_) (fun c13 => ?_)
    · skip
      refine lv_iconst (v := nI 1) S.1 S.2.1 dX1_whyNot_24 rfl ?_
      exact o_iret S hr hlocks hC ⟨rfl, by rw [wC, if_pos (Or.inr (Or.inl c13))]⟩ rfl dX1_whyNot_25 (Nat.le_of_ble_eq_true rfl) (Nat.le_of_ble_eq_true rfl)
    · skip
      refine lv_aload_n S.1 S.2.1 dX1_whyNot_16 rfl (lv_at hl 0 rfl) ?_
      refine lv_iload_n S.1 S.2.1 dX1_whyNot_17 rfl (lv_at hl 3 rfl) ?_
      refine o_calli oiM S hC (c_X1_isThing l hn b) cw_RX1_X1_isThing ⟨rfl, rfl, by decide, by decide⟩ rfl hl.1 rfl (Nat.le_of_ble_eq_true rfl) dX1_whyNot_18 ⟨(Nat.le_of_ble_eq_true rfl), (Nat.le_of_ble_eq_true rfl)⟩ (fun r18 S1 H locs hp hC1 => ?_)
      obtain ⟨e1, hp⟩ := hp
      rw [e1] at hC1; replace hC := hC1
      subst hp
      refine b_if_ne (tgt := 26) S.1 S.2.1 dX1_whyNot_21 (by decide) (fun c21 => ?_) (fun c21 => ?_)
      · have hg : ¬ (inI x (nI R) = false ∨ inI a (nI n) = false ∨ inI b (nI n) = false) := by rw [c5, c13, c21]; simp
        obtain ⟨r, hr0, e0x⟩ := inI_t (by omega) c5
        obtain ⟨a', ha, e0a⟩ := inI_t (by omega) c13
        obtain ⟨b', hb, e0b⟩ := inI_t (by omega) c21
        have er : ixN x = r := by rw [e0x]; exact ixN_nI (by omega)
        have ea : ixN a = a' := by rw [e0a]; exact ixN_nI (by omega)
        have eb : ixN b = b' := by rw [e0b]; exact ixN_nI (by omega)
        rw [e0x, e0a, e0b] at hl
        refine lv_aload_n S.1 S.2.1 dX1_whyNot_26 rfl (lv_at hl 0 rfl) ?_
        refine m_get_form S hC dX1_whyNot_27 ?_
        refine lv_iload_n S.1 S.2.1 dX1_whyNot_30 rfl (lv_at hl 1 rfl) ?_
        refine m_ild S hC 1 (by decide) (show r < 12 by omega) dX1_whyNot_31 ?_
        refine lv_bipush (v := nI 10) S.1 S.2.1 dX1_whyNot_32 rfl ?_
        refine lv_icmp_lt (tgt := 39) S.1 S.2.1 dX1_whyNot_34 (by decide) (fun c34 => ?_) (fun c34 => ?_)
        · skip
          refine lv_aload_n S.1 S.2.1 dX1_whyNot_39 rfl (lv_at hl 0 rfl) ?_
          refine m_get_kinds S hC dX1_whyNot_40 ?_
          refine lv_iload_n S.1 S.2.1 dX1_whyNot_43 rfl (lv_at hl 2 rfl) ?_
          refine m_ild S hC 0 (by decide) (show a' < 40 by omega) dX1_whyNot_44 ?_
          refine lv_aload_n S.1 S.2.1 dX1_whyNot_45 rfl (lv_at hl 0 rfl) ?_
          refine m_get_one S hC dX1_whyNot_46 ?_
          refine lv_iload_n S.1 S.2.1 dX1_whyNot_49 rfl (lv_at hl 1 rfl) ?_
          refine m_ild S hC 2 (by decide) (show r < 12 by omega) dX1_whyNot_50 ?_
          refine s_calli S (c_X1_isOf l _ _) cw_RX1_X1_isOf ⟨rfl, rfl, by decide, by decide⟩ rfl hl.1 rfl (Nat.le_of_ble_eq_true rfl) dX1_whyNot_51 ⟨(Nat.le_of_ble_eq_true rfl), (Nat.le_of_ble_eq_true rfl)⟩ (fun r51 hp => ?_)
          subst hp
          refine b_if_eq (tgt := 94) S.1 S.2.1 dX1_whyNot_54 (by decide) (fun c54 => ?_) (fun c54 => ?_)
          · skip
            refine lv_iconst (v := bI (okM S0 r a' b')) S.1 S.2.1 dX1_whyNot_94 (by rw [show okM S0 r a' b' = false by unfold okM ofM; rw [c54]; rfl]; rfl) ?_
            exact tail95 r a' b' er ea eb hg c34 _ _ _ hC (lv_sub hl [0] rfl)
          · skip
            refine lv_aload_n S.1 S.2.1 dX1_whyNot_57 rfl (lv_at hl 0 rfl) ?_
            refine m_get_kinds S hC dX1_whyNot_58 ?_
            refine lv_iload_n S.1 S.2.1 dX1_whyNot_61 rfl (lv_at hl 3 rfl) ?_
            refine m_ild S hC 0 (by decide) (show b' < 40 by omega) dX1_whyNot_62 ?_
            refine lv_aload_n S.1 S.2.1 dX1_whyNot_63 rfl (lv_at hl 0 rfl) ?_
            refine m_get_two S hC dX1_whyNot_64 ?_
            refine lv_iload_n S.1 S.2.1 dX1_whyNot_67 rfl (lv_at hl 1 rfl) ?_
            refine m_ild S hC 3 (by decide) (show r < 12 by omega) dX1_whyNot_68 ?_
            refine s_calli S (c_X1_isOf l _ _) cw_RX1_X1_isOf ⟨rfl, rfl, by decide, by decide⟩ rfl hl.1 rfl (Nat.le_of_ble_eq_true rfl) dX1_whyNot_69 ⟨(Nat.le_of_ble_eq_true rfl), (Nat.le_of_ble_eq_true rfl)⟩ (fun r69 hp => ?_)
            subst hp
            refine b_if_eq (tgt := 94) S.1 S.2.1 dX1_whyNot_72 (by decide) (fun c72 => ?_) (fun c72 => ?_)
            · skip
              refine lv_iconst (v := bI (okM S0 r a' b')) S.1 S.2.1 dX1_whyNot_94 (by rw [show okM S0 r a' b' = false by unfold okM ofM; rw [c54, c72]; rfl]; rfl) ?_
              exact tail95 r a' b' er ea eb hg c34 _ _ _ hC (lv_sub hl [0] rfl)
            · skip
              refine lv_aload_n S.1 S.2.1 dX1_whyNot_75 rfl (lv_at hl 0 rfl) ?_
              refine m_get_form S hC dX1_whyNot_76 ?_
              refine lv_iload_n S.1 S.2.1 dX1_whyNot_79 rfl (lv_at hl 1 rfl) ?_
              refine m_ild S hC 1 (by decide) (show r < 12 by omega) dX1_whyNot_80 ?_
              refine lv_iconst (v := nI 4) S.1 S.2.1 dX1_whyNot_81 rfl ?_
              refine lv_icmp_ne (tgt := 90) S.1 S.2.1 dX1_whyNot_82 (by decide) (fun c82 => ?_) (fun c82 => ?_)
              · skip
                refine lv_iconst (v := bI (okM S0 r a' b')) S.1 S.2.1 dX1_whyNot_90 (by rw [show okM S0 r a' b' = true by unfold okM ofM; rw [c54, c72, decide_eq_false c82]; rfl]; rfl) ?_
                refine lv_goto (tgt := 95) S.1 S.2.1 dX1_whyNot_91 (by decide) ?_
                exact tail95 r a' b' er ea eb hg c34 _ _ _ hC (lv_sub hl [0] rfl)
              · skip
                refine lv_iload_n S.1 S.2.1 dX1_whyNot_85 rfl (lv_at hl 2 rfl) ?_
                refine lv_iload_n S.1 S.2.1 dX1_whyNot_86 rfl (lv_at hl 3 rfl) ?_
                refine n_icmp_eq (tgt := 94) S.1 S.2.1 dX1_whyNot_87 (by decide) (by omega) (by omega) (fun c87 => ?_) (fun c87 => ?_)
                · skip
                  refine lv_iconst (v := bI (okM S0 r a' b')) S.1 S.2.1 dX1_whyNot_94 (by rw [show okM S0 r a' b' = false by unfold okM ofM; rw [c54, c72, decide_eq_true c82, decide_eq_true c87]; rfl]; rfl) ?_
                  exact tail95 r a' b' er ea eb hg c34 _ _ _ hC (lv_sub hl [0] rfl)
                · skip
                  refine lv_iconst (v := bI (okM S0 r a' b')) S.1 S.2.1 dX1_whyNot_90 (by rw [show okM S0 r a' b' = true by unfold okM ofM; rw [c54, c72, decide_eq_false c87]; simp]; rfl) ?_
                  refine lv_goto (tgt := 95) S.1 S.2.1 dX1_whyNot_91 (by decide) ?_
                  exact tail95 r a' b' er ea eb hg c34 _ _ _ hC (lv_sub hl [0] rfl)
        · skip
          refine lv_iconst (v := nI 2) S.1 S.2.1 dX1_whyNot_37 rfl ?_
          exact o_iret S hr hlocks hC ⟨rfl, by rw [wC, if_neg hg, er, if_pos c34]⟩ rfl dX1_whyNot_38 (Nat.le_of_ble_eq_true rfl) (Nat.le_of_ble_eq_true rfl)
      · skip
        refine lv_iconst (v := nI 1) S.1 S.2.1 dX1_whyNot_24 rfl ?_
        exact o_iret S hr hlocks hC ⟨rfl, by rw [wC, if_pos (Or.inr (Or.inr c21))]⟩ rfl dX1_whyNot_25 (Nat.le_of_ble_eq_true rfl) (Nat.le_of_ble_eq_true rfl)
def bothM (S : MS) (r : Nat) : Bool := decide (S.2.1 1 r = nI 4) || decide (S.2.1 1 r = nI 5)
def putM (S : MS) (r a b : Nat) (v : Bool) : MS := if bothM S r then sW (sW S 0 (ixP r a b) v) 0 (ixP r b a) v else sW S 0 (ixP r a b) v
set_option maxRecDepth 100000 in
set_option maxHeartbeats 4000000 in
theorem c_X1_put (l : Launch) {loc : Nat → Nat} {n : Nat} {g : Gc} (hn : n ≤ 40) {S0 : MS} {r a b : Nat} (hr12 : r < 12) (ha : a < n) (hb : b < n) (v : Bool) : MMv l yX1_put cX1_put 5 none (rmL 2 0 0) loc n g S0 [.int (nI r), .int (nI a), .int (nI b), .int (bI v)] (fun S' => S' = putM S0 r a b v) := by
  refine o_enter (by decide) (Nat.le_of_ble_eq_true rfl) ?_
  intro p e s m below meth c ls S hr hlocks hC hl
  refine lv_aload_n S.1 S.2.1 dX1_put_0 rfl (lv_at hl 0 rfl) ?_
  refine m_get_pairs S hC dX1_put_1 ?_
  refine lv_iload_n S.1 S.2.1 dX1_put_4 rfl (lv_at hl 1 rfl) ?_
  refine lv_iload_n S.1 S.2.1 dX1_put_5 rfl (lv_at hl 2 rfl) ?_
  refine lv_iload_n S.1 S.2.1 dX1_put_6 rfl (lv_at hl 3 rfl) ?_
  refine s_calli S (c_X1_at l r a b) cw_RX1_X1_at ⟨rfl, rfl, by decide, by decide⟩ rfl hl.1 rfl (Nat.le_of_ble_eq_true rfl) dX1_put_7 ⟨(Nat.le_of_ble_eq_true rfl), (Nat.le_of_ble_eq_true rfl)⟩ (fun r7 hp => ?_)
  subst hp
  refine lv_iload S.1 S.2.1 dX1_put_10 (lv_at hl 4 rfl) ?_
  refine m_zst S hC 0 (by decide) (ixP_lt hr12 (a := a) (b := b) (by omega) (by omega)) rfl dX1_put_12 (fun H locs hC => ?_)
  refine lv_aload_n S.1 S.2.1 dX1_put_13 rfl (lv_at hl 0 rfl) ?_
  refine m_get_form S hC dX1_put_14 ?_
  refine lv_iload_n S.1 S.2.1 dX1_put_17 rfl (lv_at hl 1 rfl) ?_
  refine m_ild S hC 1 (by decide) hr12 dX1_put_18 ?_
  refine lv_iconst (v := nI 4) S.1 S.2.1 dX1_put_19 rfl ?_
  refine lv_icmp_eq (tgt := 33) S.1 S.2.1 dX1_put_20 (by decide) (fun c20 => ?_) (fun c20 => ?_)
  · skip
    refine lv_aload_n S.1 S.2.1 dX1_put_33 rfl (lv_at hl 0 rfl) ?_
    refine m_get_pairs S hC dX1_put_34 ?_
    refine lv_iload_n S.1 S.2.1 dX1_put_37 rfl (lv_at hl 1 rfl) ?_
    refine lv_iload_n S.1 S.2.1 dX1_put_38 rfl (lv_at hl 3 rfl) ?_
    refine lv_iload_n S.1 S.2.1 dX1_put_39 rfl (lv_at hl 2 rfl) ?_
    refine s_calli S (c_X1_at l r b a) cw_RX1_X1_at ⟨rfl, rfl, by decide, by decide⟩ rfl hl.1 rfl (Nat.le_of_ble_eq_true rfl) dX1_put_40 ⟨(Nat.le_of_ble_eq_true rfl), (Nat.le_of_ble_eq_true rfl)⟩ (fun r40 hp => ?_)
    subst hp
    refine lv_iload S.1 S.2.1 dX1_put_43 (lv_at hl 4 rfl) ?_
    refine m_zst S hC 0 (by decide) (ixP_lt hr12 (a := b) (b := a) (by omega) (by omega)) rfl dX1_put_45 (fun H locs hC => ?_)
    exact o_vret S hr hlocks hC (by rw [putM, if_pos (show bothM S0 r = true by unfold bothM; rw [decide_eq_true (show S0.2.1 1 r = nI 4 from c20)]; rfl)]) dX1_put_46 (Nat.le_of_ble_eq_true rfl) (Nat.le_of_ble_eq_true rfl)
  · skip
    refine lv_aload_n S.1 S.2.1 dX1_put_23 rfl (lv_at hl 0 rfl) ?_
    refine m_get_form S hC dX1_put_24 ?_
    refine lv_iload_n S.1 S.2.1 dX1_put_27 rfl (lv_at hl 1 rfl) ?_
    refine m_ild S hC 1 (by decide) hr12 dX1_put_28 ?_
    refine lv_iconst (v := nI 5) S.1 S.2.1 dX1_put_29 rfl ?_
    refine lv_icmp_ne (tgt := 46) S.1 S.2.1 dX1_put_30 (by decide) (fun c30 => ?_) (fun c30 => ?_)
    · skip
      exact o_vret S hr hlocks hC (by rw [putM, if_neg (show ¬ bothM S0 r = true by unfold bothM; rw [decide_eq_false (show ¬ S0.2.1 1 r = nI 4 from c20), decide_eq_false (show ¬ S0.2.1 1 r = nI 5 from c30)]; decide)]) dX1_put_46 (Nat.le_of_ble_eq_true rfl) (Nat.le_of_ble_eq_true rfl)
    · skip
      refine lv_aload_n S.1 S.2.1 dX1_put_33 rfl (lv_at hl 0 rfl) ?_
      refine m_get_pairs S hC dX1_put_34 ?_
      refine lv_iload_n S.1 S.2.1 dX1_put_37 rfl (lv_at hl 1 rfl) ?_
      refine lv_iload_n S.1 S.2.1 dX1_put_38 rfl (lv_at hl 3 rfl) ?_
      refine lv_iload_n S.1 S.2.1 dX1_put_39 rfl (lv_at hl 2 rfl) ?_
      refine s_calli S (c_X1_at l r b a) cw_RX1_X1_at ⟨rfl, rfl, by decide, by decide⟩ rfl hl.1 rfl (Nat.le_of_ble_eq_true rfl) dX1_put_40 ⟨(Nat.le_of_ble_eq_true rfl), (Nat.le_of_ble_eq_true rfl)⟩ (fun r40 hp => ?_)
      subst hp
      refine lv_iload S.1 S.2.1 dX1_put_43 (lv_at hl 4 rfl) ?_
      refine m_zst S hC 0 (by decide) (ixP_lt hr12 (a := b) (b := a) (by omega) (by omega)) rfl dX1_put_45 (fun H locs hC => ?_)
      exact o_vret S hr hlocks hC (by rw [putM, if_pos (show bothM S0 r = true by unfold bothM; rw [decide_eq_true (show S0.2.1 1 r = nI 5 from c30), Bool.or_true])]) dX1_put_46 (Nat.le_of_ble_eq_true rfl) (Nat.le_of_ble_eq_true rfl)
theorem putM_1 (S : MS) (r a b : Nat) (v : Bool) : (putM S r a b v).1 = S.1 ∧ (putM S r a b v).2.1 = S.2.1 := by
  unfold putM
  split <;> exact ⟨rfl, rfl⟩
def pushM (S : MS) (r a b : Nat) : MS := sI (sA (sA (putM S r a b false) 4 (ixN (S.1 2)) (nI a)) 5 (ixN (S.1 2)) (nI b)) 2 (nI (ixN (S.1 2) + 1))
def prM (S : MS) (r a : Nat) : Nat → MS
  | 0 => S
  | k + 1 => if pM (prM S r a k) r a k then pushM (prM S r a k) r a k else prM S r a k
def pcM (S : MS) (r b : Nat) : Nat → MS
  | 0 => S
  | k + 1 => if pM (pcM S r b k) r k b then pushM (pcM S r b k) r k b else pcM S r b k
set_option maxRecDepth 100000 in
set_option maxHeartbeats 4000000 in
theorem c_X1_push (l : Launch) {loc : Nat → Nat} {n : Nat} {g : Gc} (hn : n ≤ 40) {S0 : MS} {r a b : Nat} (hr12 : r < 12) (ha : a < n) (hb : b < n) {q : Nat} (hq : q < 4) (hpc : S0.1 2 = nI q) : MMv l yX1_push cX1_push 4 none (rmL 3 0 0) loc n g S0 [.int (nI r), .int (nI a), .int (nI b)] (fun S' => S' = pushM S0 r a b) := by
  refine o_enter (by decide) (Nat.le_of_ble_eq_true rfl) ?_
  intro p e s m below meth c ls S hr hlocks hC hl
  refine lv_aload_n S.1 S.2.1 dX1_push_0 rfl (lv_at hl 0 rfl) ?_
  refine lv_iload_n S.1 S.2.1 dX1_push_1 rfl (lv_at hl 1 rfl) ?_
  refine lv_iload_n S.1 S.2.1 dX1_push_2 rfl (lv_at hl 2 rfl) ?_
  refine lv_iload_n S.1 S.2.1 dX1_push_3 rfl (lv_at hl 3 rfl) ?_
  refine lv_iconst (v := bI false) S.1 S.2.1 dX1_push_4 rfl ?_
  refine o_callv oiM S hC (c_X1_put l hn hr12 ha hb false) cw_RX1_X1_put ⟨rfl, rfl, by decide, by decide⟩ rfl hl.1 rfl (Nat.le_of_ble_eq_true rfl) dX1_push_5 ⟨(Nat.le_of_ble_eq_true rfl), (Nat.le_of_ble_eq_true rfl)⟩ (fun S1 H locs hp hC1 => ?_)
  have e1 := hp
  rw [e1] at hC1; replace hC := hC1
  have eq2 : (putM S0 r a b false).1 2 = nI q := by rw [(putM_1 S0 r a b false).1, hpc]
  have eix : ixN (S0.1 2) = q := by rw [hpc]; exact ixN_nI (by omega)
  refine lv_aload_n S.1 S.2.1 dX1_push_8 rfl (lv_at hl 0 rfl) ?_
  refine m_get_pushedFirst S hC dX1_push_9 ?_
  refine lv_aload_n S.1 S.2.1 dX1_push_12 rfl (lv_at hl 0 rfl) ?_
  refine m_get_pushes S hC dX1_push_13 ?_
  rw [eq2]
  refine lv_iload_n S.1 S.2.1 dX1_push_16 rfl (lv_at hl 2 rfl) ?_
  refine m_ist S hC 4 (by decide) hq dX1_push_17 (fun H locs hC => ?_)
  refine lv_aload_n S.1 S.2.1 dX1_push_18 rfl (lv_at hl 0 rfl) ?_
  refine m_get_pushedSecond S hC dX1_push_19 ?_
  refine lv_aload_n S.1 S.2.1 dX1_push_22 rfl (lv_at hl 0 rfl) ?_
  refine m_get_pushes S hC dX1_push_23 ?_
  rw [show (sA (putM S0 r a b false) 4 q (nI a)).1 2 = nI q from eq2]
  refine lv_iload_n S.1 S.2.1 dX1_push_26 rfl (lv_at hl 3 rfl) ?_
  refine m_ist S hC 5 (by decide) hq dX1_push_27 (fun H locs hC => ?_)
  refine lv_aload_n S.1 S.2.1 dX1_push_28 rfl (lv_at hl 0 rfl) ?_
  refine lv_dup S.1 S.2.1 dX1_push_29 rfl ?_
  refine m_get_pushes S hC dX1_push_30 ?_
  rw [show (sA (sA (putM S0 r a b false) 4 q (nI a)) 5 q (nI b)).1 2 = nI q from eq2]
  refine lv_iconst (v := nI 1) S.1 S.2.1 dX1_push_33 rfl ?_
  refine t_iadd S.1 S.2.1 dX1_push_34 (nI_add _ _) ?_
  refine m_put_pushes S hC dX1_push_35 (fun H locs hC => ?_)
  exact o_vret S hr hlocks hC (by rw [pushM, eix]) dX1_push_38 (Nat.le_of_ble_eq_true rfl) (Nat.le_of_ble_eq_true rfl)
set_option maxRecDepth 100000 in
set_option maxHeartbeats 4000000 in
theorem c_X1_pushFrom (l : Launch) {loc : Nat → Nat} {n : Nat} {g : Gc} (hn : n ≤ 40) {S0 : MS} {r a : Nat} (hr12 : r < 12) (ha : a < n) (hpu : ∀ k, k < n → pM (prM S0 r a k) r a k = true → ∃ q, q < 4 ∧ (prM S0 r a k).1 2 = nI q) : MMv l yX1_pushFrom cX1_pushFrom 4 none (rmL 4 0 0) loc n g S0 [.int (nI r), .int (nI a)] (fun S' => S' = prM S0 r a n) := by
  refine o_enter (by decide) (Nat.le_of_ble_eq_true rfl) ?_
  intro p e s m below meth c ls S hr hlocks hC hl
  refine lv_iconst (v := nI 0) S.1 S.2.1 dX1_pushFrom_0 rfl ?_
  refine lv_istore_n S.1 S.2.1 dX1_pushFrom_1 rfl hl (by decide) rfl (fun ls hl => ?_)
  have loop : ∀ (k i : Nat), n - i < k → i ≤ n → ∀ (H : Heap) (locs : List Loc) (ls : Array Slot), CM loc n g (prM S0 r a i) s H locs → lv_has ls 4 [(0, .ref (loc 0)), (1, .int (nI r)), (2, .int (nI a)), (3, .int (nI i))] → W p l e (rmL 4 0 0) s m ([.ref (loc 0), .int (nI r), .int (nI a)] : List Value).toArray below meth c H locs 0 0 (MQ below (va_Qv (fun S' => S' = prM S0 r a n) (fun S' t => HM loc n g S' t.heap) (ZA loc 10)) ([.ref (loc 0), .int (nI r), .int (nI a)] : List Value).toArray s (rmL 4 0 0).cells (rmL 4 0 0).slots (ZA loc 10)) (F0 m 2 ls []) := by
    intro k
    induction k with
    | zero => intro i hk; omega
    | succ k ih =>
      intro i hk hi  H locs ls hC hl
      refine lv_iload_n S.1 S.2.1 dX1_pushFrom_2 rfl (lv_at hl 3 rfl) ?_
      refine lv_aload_n S.1 S.2.1 dX1_pushFrom_3 rfl (lv_at hl 0 rfl) ?_
      refine m_get_things S hC dX1_pushFrom_4 ?_
      refine n_icmp_ge (tgt := 37) S.1 S.2.1 dX1_pushFrom_7 (by decide) (by omega) (by omega) (fun c7 => ?_) (fun c7 => ?_)
      · skip
        exact o_vret S hr hlocks hC (by rw [show n = i by omega]) dX1_pushFrom_37 (Nat.le_of_ble_eq_true rfl) (Nat.le_of_ble_eq_true rfl)
      · skip
        refine lv_aload_n S.1 S.2.1 dX1_pushFrom_10 rfl (lv_at hl 0 rfl) ?_
        refine m_get_pairs S hC dX1_pushFrom_11 ?_
        refine lv_iload_n S.1 S.2.1 dX1_pushFrom_14 rfl (lv_at hl 1 rfl) ?_
        refine lv_iload_n S.1 S.2.1 dX1_pushFrom_15 rfl (lv_at hl 2 rfl) ?_
        refine lv_iload_n S.1 S.2.1 dX1_pushFrom_16 rfl (lv_at hl 3 rfl) ?_
        refine s_calli S (c_X1_at l r a i) cw_RX1_X1_at ⟨rfl, rfl, by decide, by decide⟩ rfl hl.1 rfl (Nat.le_of_ble_eq_true rfl) dX1_pushFrom_17 ⟨(Nat.le_of_ble_eq_true rfl), (Nat.le_of_ble_eq_true rfl)⟩ (fun r17 hp => ?_)
        subst hp
        refine m_zld S hC 0 (by decide) (ixP_lt hr12 (a := a) (b := i) (by omega) (by omega)) dX1_pushFrom_20 ?_
        refine b_if_eq (tgt := 31) S.1 S.2.1 dX1_pushFrom_21 (by decide) (fun c21 => ?_) (fun c21 => ?_)
        · skip
          refine lv_iinc (k := 3) S.1 S.2.1 dX1_pushFrom_31 hl rfl (n_inc _) (by decide) rfl (fun ls hl => ?_)
          refine lv_goto (tgt := 2) S.1 S.2.1 dX1_pushFrom_34 (by decide) ?_
          exact ih (i + 1) (by omega) (by omega) _ _ _ (by rw [prM, if_neg (by rw [show pM (prM S0 r a i) r a i = false from c21]; decide)]; exact hC) (lv_sub hl [1, 2, 3, 0] rfl)
        · obtain ⟨q, hq, eq⟩ := hpu i (by omega) c21
          refine lv_aload_n S.1 S.2.1 dX1_pushFrom_24 rfl (lv_at hl 0 rfl) ?_
          refine lv_iload_n S.1 S.2.1 dX1_pushFrom_25 rfl (lv_at hl 1 rfl) ?_
          refine lv_iload_n S.1 S.2.1 dX1_pushFrom_26 rfl (lv_at hl 2 rfl) ?_
          refine lv_iload_n S.1 S.2.1 dX1_pushFrom_27 rfl (lv_at hl 3 rfl) ?_
          refine o_callv oiM S hC (c_X1_push l hn hr12 ha (b := i) (by omega) hq eq) cw_RX1_X1_push ⟨rfl, rfl, by decide, by decide⟩ rfl hl.1 rfl (Nat.le_of_ble_eq_true rfl) dX1_pushFrom_28 ⟨(Nat.le_of_ble_eq_true rfl), (Nat.le_of_ble_eq_true rfl)⟩ (fun S1 H locs hp hC1 => ?_)
          have e1 := hp
          rw [e1] at hC1; replace hC := hC1
          refine lv_iinc (k := 3) S.1 S.2.1 dX1_pushFrom_31 hl rfl (n_inc _) (by decide) rfl (fun ls hl => ?_)
          refine lv_goto (tgt := 2) S.1 S.2.1 dX1_pushFrom_34 (by decide) ?_
          exact ih (i + 1) (by omega) (by omega) _ _ _ (by rw [prM, if_pos (show pM (prM S0 r a i) r a i = true from c21)]; exact hC) (lv_sub hl [1, 2, 3, 0] rfl)
  exact loop (n + 1) 0 (by omega) (by omega) _ _ _ hC (lv_sub hl [1, 2, 3, 0] rfl)
set_option maxRecDepth 100000 in
set_option maxHeartbeats 4000000 in
theorem c_X1_pushTo (l : Launch) {loc : Nat → Nat} {n : Nat} {g : Gc} (hn : n ≤ 40) {S0 : MS} {r b : Nat} (hr12 : r < 12) (hb : b < n) (hpu : ∀ k, k < n → pM (pcM S0 r b k) r k b = true → ∃ q, q < 4 ∧ (pcM S0 r b k).1 2 = nI q) : MMv l yX1_pushTo cX1_pushTo 4 none (rmL 4 0 0) loc n g S0 [.int (nI r), .int (nI b)] (fun S' => S' = pcM S0 r b n) := by
  refine o_enter (by decide) (Nat.le_of_ble_eq_true rfl) ?_
  intro p e s m below meth c ls S hr hlocks hC hl
  refine lv_iconst (v := nI 0) S.1 S.2.1 dX1_pushTo_0 rfl ?_
  refine lv_istore_n S.1 S.2.1 dX1_pushTo_1 rfl hl (by decide) rfl (fun ls hl => ?_)
  have loop : ∀ (k i : Nat), n - i < k → i ≤ n → ∀ (H : Heap) (locs : List Loc) (ls : Array Slot), CM loc n g (pcM S0 r b i) s H locs → lv_has ls 4 [(0, .ref (loc 0)), (1, .int (nI r)), (2, .int (nI b)), (3, .int (nI i))] → W p l e (rmL 4 0 0) s m ([.ref (loc 0), .int (nI r), .int (nI b)] : List Value).toArray below meth c H locs 0 0 (MQ below (va_Qv (fun S' => S' = pcM S0 r b n) (fun S' t => HM loc n g S' t.heap) (ZA loc 10)) ([.ref (loc 0), .int (nI r), .int (nI b)] : List Value).toArray s (rmL 4 0 0).cells (rmL 4 0 0).slots (ZA loc 10)) (F0 m 2 ls []) := by
    intro k
    induction k with
    | zero => intro i hk; omega
    | succ k ih =>
      intro i hk hi  H locs ls hC hl
      refine lv_iload_n S.1 S.2.1 dX1_pushTo_2 rfl (lv_at hl 3 rfl) ?_
      refine lv_aload_n S.1 S.2.1 dX1_pushTo_3 rfl (lv_at hl 0 rfl) ?_
      refine m_get_things S hC dX1_pushTo_4 ?_
      refine n_icmp_ge (tgt := 37) S.1 S.2.1 dX1_pushTo_7 (by decide) (by omega) (by omega) (fun c7 => ?_) (fun c7 => ?_)
      · skip
        exact o_vret S hr hlocks hC (by rw [show n = i by omega]) dX1_pushTo_37 (Nat.le_of_ble_eq_true rfl) (Nat.le_of_ble_eq_true rfl)
      · skip
        refine lv_aload_n S.1 S.2.1 dX1_pushTo_10 rfl (lv_at hl 0 rfl) ?_
        refine m_get_pairs S hC dX1_pushTo_11 ?_
        refine lv_iload_n S.1 S.2.1 dX1_pushTo_14 rfl (lv_at hl 1 rfl) ?_
        refine lv_iload_n S.1 S.2.1 dX1_pushTo_15 rfl (lv_at hl 3 rfl) ?_
        refine lv_iload_n S.1 S.2.1 dX1_pushTo_16 rfl (lv_at hl 2 rfl) ?_
        refine s_calli S (c_X1_at l r i b) cw_RX1_X1_at ⟨rfl, rfl, by decide, by decide⟩ rfl hl.1 rfl (Nat.le_of_ble_eq_true rfl) dX1_pushTo_17 ⟨(Nat.le_of_ble_eq_true rfl), (Nat.le_of_ble_eq_true rfl)⟩ (fun r17 hp => ?_)
        subst hp
        refine m_zld S hC 0 (by decide) (ixP_lt hr12 (a := i) (b := b) (by omega) (by omega)) dX1_pushTo_20 ?_
        refine b_if_eq (tgt := 31) S.1 S.2.1 dX1_pushTo_21 (by decide) (fun c21 => ?_) (fun c21 => ?_)
        · skip
          refine lv_iinc (k := 3) S.1 S.2.1 dX1_pushTo_31 hl rfl (n_inc _) (by decide) rfl (fun ls hl => ?_)
          refine lv_goto (tgt := 2) S.1 S.2.1 dX1_pushTo_34 (by decide) ?_
          exact ih (i + 1) (by omega) (by omega) _ _ _ (by rw [pcM, if_neg (by rw [show pM (pcM S0 r b i) r i b = false from c21]; decide)]; exact hC) (lv_sub hl [1, 2, 3, 0] rfl)
        · obtain ⟨q, hq, eq⟩ := hpu i (by omega) c21
          refine lv_aload_n S.1 S.2.1 dX1_pushTo_24 rfl (lv_at hl 0 rfl) ?_
          refine lv_iload_n S.1 S.2.1 dX1_pushTo_25 rfl (lv_at hl 1 rfl) ?_
          refine lv_iload_n S.1 S.2.1 dX1_pushTo_26 rfl (lv_at hl 3 rfl) ?_
          refine lv_iload_n S.1 S.2.1 dX1_pushTo_27 rfl (lv_at hl 2 rfl) ?_
          refine o_callv oiM S hC (c_X1_push l hn hr12 (a := i) (by omega) hb hq eq) cw_RX1_X1_push ⟨rfl, rfl, by decide, by decide⟩ rfl hl.1 rfl (Nat.le_of_ble_eq_true rfl) dX1_pushTo_28 ⟨(Nat.le_of_ble_eq_true rfl), (Nat.le_of_ble_eq_true rfl)⟩ (fun S1 H locs hp hC1 => ?_)
          have e1 := hp
          rw [e1] at hC1; replace hC := hC1
          refine lv_iinc (k := 3) S.1 S.2.1 dX1_pushTo_31 hl rfl (n_inc _) (by decide) rfl (fun ls hl => ?_)
          refine lv_goto (tgt := 2) S.1 S.2.1 dX1_pushTo_34 (by decide) ?_
          exact ih (i + 1) (by omega) (by omega) _ _ _ (by rw [pcM, if_pos (show pM (pcM S0 r b i) r i b = true from c21)]; exact hC) (lv_sub hl [1, 2, 3, 0] rfl)
  exact loop (n + 1) 0 (by omega) (by omega) _ _ _ hC (lv_sub hl [1, 2, 3, 0] rfl)
def jY (S : MS) (r a b u : Nat) : Nat → MS
  | 0 => S
  | k + 1 => if pM (jY S r a b u k) r a u && pM (jY S r a b u k) r b k then sW (sW (jY S r a b u k) 1 (40 * u + k) true) 1 (40 * k + u) true else jY S r a b u k
def jX (S : MS) (n r a b : Nat) : Nat → MS
  | 0 => S
  | k + 1 => jY (jX S n r a b k) r a b k n
def jK (S : MS) (r : Nat) : Nat → MS
  | 0 => S
  | k + 1 => sW (sW (jK S r k) 0 (1600 * r + k) ((jK S r k).2.2 0 (1600 * r + k) || (jK S r k).2.2 1 k)) 1 k false
def joinM (S : MS) (n r a b : Nat) : MS := jK (jX S n r a b n) r 1600
set_option maxRecDepth 100000 in
set_option maxHeartbeats 4000000 in
theorem c_X1_join (l : Launch) {loc : Nat → Nat} {n : Nat} {g : Gc} (hn : n ≤ 40) {S0 : MS} {r a b : Nat} (hr12 : r < 12) (ha : a < n) (hb : b < n) : MMv l yX1_join cX1_join 6 none (rmL 2 0 0) loc n g S0 [.int (nI r), .int (nI a), .int (nI b)] (fun S' => S' = joinM S0 n r a b) := by
  refine o_enter (by decide) (Nat.le_of_ble_eq_true rfl) ?_
  intro p e s m below meth c ls S hr hlocks hC hl
  refine lv_iconst (v := nI 0) S.1 S.2.1 dX1_join_0 rfl ?_
  refine lv_istore S.1 S.2.1 dX1_join_1 hl (by decide) rfl (fun ls hl => ?_)
  have loopU : ∀ (k u : Nat), n - u < k → u ≤ n → ∀ (H : Heap) (locs : List Loc) (ls : Array Slot), CM loc n g (jX S0 n r a b u) s H locs → lv_has ls 6 [(0, .ref (loc 0)), (1, .int (nI r)), (2, .int (nI a)), (3, .int (nI b)), (4, .int (nI u))] → W p l e (rmL 2 0 0) s m ([.ref (loc 0), .int (nI r), .int (nI a), .int (nI b)] : List Value).toArray below meth c H locs 0 0 (MQ below (va_Qv (fun S' => S' = joinM S0 n r a b) (fun S' t => HM loc n g S' t.heap) (ZA loc 10)) ([.ref (loc 0), .int (nI r), .int (nI a), .int (nI b)] : List Value).toArray s (rmL 2 0 0).cells (rmL 2 0 0).slots (ZA loc 10)) (F0 m 3 ls []) := by
    intro k
    induction k with
    | zero => intro u hk; omega
    | succ k ihU =>
      intro u hkU hiU  H locs ls hC hl
      refine lv_iload S.1 S.2.1 dX1_join_3 (lv_at hl 4 rfl) ?_
      refine lv_aload_n S.1 S.2.1 dX1_join_5 rfl (lv_at hl 0 rfl) ?_
      refine m_get_things S hC dX1_join_6 ?_
      refine n_icmp_ge (tgt := 94) S.1 S.2.1 dX1_join_9 (by decide) (by omega) (by omega) (fun c9 => ?_) (fun c9 => ?_)
      · skip
        refine lv_iconst (v := nI 0) S.1 S.2.1 dX1_join_94 rfl ?_
        refine lv_istore S.1 S.2.1 dX1_join_95 hl (by decide) rfl (fun ls hl => ?_)
        have loopK : ∀ (k j : Nat), 1600 - j < k → j ≤ 1600 → ∀ (H : Heap) (locs : List Loc) (ls : Array Slot), CM loc n g (jK (jX S0 n r a b n) r j) s H locs → lv_has ls 6 [(0, .ref (loc 0)), (1, .int (nI r)), (4, .int (nI j))] → W p l e (rmL 2 0 0) s m ([.ref (loc 0), .int (nI r), .int (nI a), .int (nI b)] : List Value).toArray below meth c H locs 0 0 (MQ below (va_Qv (fun S' => S' = joinM S0 n r a b) (fun S' t => HM loc n g S' t.heap) (ZA loc 10)) ([.ref (loc 0), .int (nI r), .int (nI a), .int (nI b)] : List Value).toArray s (rmL 2 0 0).cells (rmL 2 0 0).slots (ZA loc 10)) (F0 m 97 ls []) := by
          intro k
          induction k with
          | zero => intro j hk; omega
          | succ k ihK =>
            intro j hkK hiK  H locs ls hC hl
            refine lv_iload S.1 S.2.1 dX1_join_97 (lv_at hl 2 rfl) ?_
            refine lv_sipush (v := nI 1600) S.1 S.2.1 dX1_join_99 rfl ?_
            refine n_icmp_ge (tgt := 163) S.1 S.2.1 dX1_join_102 (by decide) (by omega) (by omega) (fun c102 => ?_) (fun c102 => ?_)
            · skip
              exact o_vret S hr hlocks hC (by rw [joinM, show 1600 = j by omega]) dX1_join_163 (Nat.le_of_ble_eq_true rfl) (Nat.le_of_ble_eq_true rfl)
            · skip
              refine lv_aload_n S.1 S.2.1 dX1_join_105 rfl (lv_at hl 0 rfl) ?_
              refine m_get_pairs S hC dX1_join_106 ?_
              refine lv_sipush (v := nI 1600) S.1 S.2.1 dX1_join_109 rfl ?_
              refine lv_iload_n S.1 S.2.1 dX1_join_112 rfl (lv_at hl 1 rfl) ?_
              refine t_imul S.1 S.2.1 dX1_join_113 (pk_mul _ _) ?_
              refine lv_iload S.1 S.2.1 dX1_join_114 (lv_at hl 2 rfl) ?_
              refine t_iadd S.1 S.2.1 dX1_join_116 (nI_add _ _) ?_
              refine lv_aload_n S.1 S.2.1 dX1_join_117 rfl (lv_at hl 0 rfl) ?_
              refine m_get_pairs S hC dX1_join_118 ?_
              refine lv_sipush (v := nI 1600) S.1 S.2.1 dX1_join_121 rfl ?_
              refine lv_iload_n S.1 S.2.1 dX1_join_124 rfl (lv_at hl 1 rfl) ?_
              refine t_imul S.1 S.2.1 dX1_join_125 (pk_mul _ _) ?_
              refine lv_iload S.1 S.2.1 dX1_join_126 (lv_at hl 2 rfl) ?_
              refine t_iadd S.1 S.2.1 dX1_join_128 (nI_add _ _) ?_
              refine m_zld S hC 0 (by decide) (show 1600 * r + j < 19200 by omega) dX1_join_129 ?_
              refine b_if_ne (tgt := 143) S.1 S.2.1 dX1_join_130 (by decide) (fun c130 => ?_) (fun c130 => ?_)
              · skip
                refine lv_iconst (v := bI ((jK (jX S0 n r a b n) r j).2.2 0 (1600 * r + j) || (jK (jX S0 n r a b n) r j).2.2 1 j)) S.1 S.2.1 dX1_join_143 (by rw [c130, Bool.true_or]; rfl) ?_
                refine lv_goto (tgt := 148) S.1 S.2.1 dX1_join_144 (by decide) ?_
                refine m_zst S hC 0 (by decide) (show 1600 * r + j < 19200 by omega) rfl dX1_join_148 (fun H locs hC => ?_)
                refine lv_aload_n S.1 S.2.1 dX1_join_149 rfl (lv_at hl 0 rfl) ?_
                refine m_get_joined S hC dX1_join_150 ?_
                refine lv_iload S.1 S.2.1 dX1_join_153 (lv_at hl 2 rfl) ?_
                refine lv_iconst (v := bI false) S.1 S.2.1 dX1_join_155 rfl ?_
                refine m_zst S hC 1 (by decide) (show j < 1600 by omega) rfl dX1_join_156 (fun H locs hC => ?_)
                refine lv_iinc (k := 2) S.1 S.2.1 dX1_join_157 hl rfl (n_inc _) (by decide) rfl (fun ls hl => ?_)
                refine lv_goto (tgt := 97) S.1 S.2.1 dX1_join_160 (by decide) ?_
                exact ihK (j + 1) (by omega) (by omega) _ _ _ hC (lv_sub hl [1, 2, 0] rfl)
              · skip
                refine lv_aload_n S.1 S.2.1 dX1_join_133 rfl (lv_at hl 0 rfl) ?_
                refine m_get_joined S hC dX1_join_134 ?_
                refine lv_iload S.1 S.2.1 dX1_join_137 (lv_at hl 2 rfl) ?_
                refine m_zld S hC 1 (by decide) (show j < 1600 by omega) dX1_join_139 ?_
                refine b_if_eq (tgt := 147) S.1 S.2.1 dX1_join_140 (by decide) (fun c140 => ?_) (fun c140 => ?_)
                · skip
                  refine lv_iconst (v := bI ((jK (jX S0 n r a b n) r j).2.2 0 (1600 * r + j) || (jK (jX S0 n r a b n) r j).2.2 1 j)) S.1 S.2.1 dX1_join_147 (by rw [c130, c140]; rfl) ?_
                  refine m_zst S hC 0 (by decide) (show 1600 * r + j < 19200 by omega) rfl dX1_join_148 (fun H locs hC => ?_)
                  refine lv_aload_n S.1 S.2.1 dX1_join_149 rfl (lv_at hl 0 rfl) ?_
                  refine m_get_joined S hC dX1_join_150 ?_
                  refine lv_iload S.1 S.2.1 dX1_join_153 (lv_at hl 2 rfl) ?_
                  refine lv_iconst (v := bI false) S.1 S.2.1 dX1_join_155 rfl ?_
                  refine m_zst S hC 1 (by decide) (show j < 1600 by omega) rfl dX1_join_156 (fun H locs hC => ?_)
                  refine lv_iinc (k := 2) S.1 S.2.1 dX1_join_157 hl rfl (n_inc _) (by decide) rfl (fun ls hl => ?_)
                  refine lv_goto (tgt := 97) S.1 S.2.1 dX1_join_160 (by decide) ?_
                  exact ihK (j + 1) (by omega) (by omega) _ _ _ hC (lv_sub hl [1, 2, 0] rfl)
                · skip
                  refine lv_iconst (v := bI ((jK (jX S0 n r a b n) r j).2.2 0 (1600 * r + j) || (jK (jX S0 n r a b n) r j).2.2 1 j)) S.1 S.2.1 dX1_join_143 (by rw [c140, Bool.or_true]; rfl) ?_
                  refine lv_goto (tgt := 148) S.1 S.2.1 dX1_join_144 (by decide) ?_
                  refine m_zst S hC 0 (by decide) (show 1600 * r + j < 19200 by omega) rfl dX1_join_148 (fun H locs hC => ?_)
                  refine lv_aload_n S.1 S.2.1 dX1_join_149 rfl (lv_at hl 0 rfl) ?_
                  refine m_get_joined S hC dX1_join_150 ?_
                  refine lv_iload S.1 S.2.1 dX1_join_153 (lv_at hl 2 rfl) ?_
                  refine lv_iconst (v := bI false) S.1 S.2.1 dX1_join_155 rfl ?_
                  refine m_zst S hC 1 (by decide) (show j < 1600 by omega) rfl dX1_join_156 (fun H locs hC => ?_)
                  refine lv_iinc (k := 2) S.1 S.2.1 dX1_join_157 hl rfl (n_inc _) (by decide) rfl (fun ls hl => ?_)
                  refine lv_goto (tgt := 97) S.1 S.2.1 dX1_join_160 (by decide) ?_
                  exact ihK (j + 1) (by omega) (by omega) _ _ _ hC (lv_sub hl [1, 2, 0] rfl)
        exact loopK (1600 + 1) 0 (by omega) (by omega) _ _ _ (by rw [show jX S0 n r a b n = jX S0 n r a b u by rw [show u = n by omega]]; exact hC) (lv_sub hl [1, 2, 0] rfl)
      · skip
        refine lv_iconst (v := nI 0) S.1 S.2.1 dX1_join_12 rfl ?_
        refine lv_istore S.1 S.2.1 dX1_join_13 hl (by decide) rfl (fun ls hl => ?_)
        have loop : ∀ (k i : Nat), n - i < k → i ≤ n → ∀ (H : Heap) (locs : List Loc) (ls : Array Slot), CM loc n g (jY (jX S0 n r a b u) r a b u i) s H locs → lv_has ls 6 [(0, .ref (loc 0)), (1, .int (nI r)), (2, .int (nI a)), (3, .int (nI b)), (4, .int (nI u)), (5, .int (nI i))] → W p l e (rmL 2 0 0) s m ([.ref (loc 0), .int (nI r), .int (nI a), .int (nI b)] : List Value).toArray below meth c H locs 0 0 (MQ below (va_Qv (fun S' => S' = joinM S0 n r a b) (fun S' t => HM loc n g S' t.heap) (ZA loc 10)) ([.ref (loc 0), .int (nI r), .int (nI a), .int (nI b)] : List Value).toArray s (rmL 2 0 0).cells (rmL 2 0 0).slots (ZA loc 10)) (F0 m 15 ls []) := by
          intro k
          induction k with
          | zero => intro i hk; omega
          | succ k ih =>
            intro i hk hi  H locs ls hC hl
            refine lv_iload S.1 S.2.1 dX1_join_15 (lv_at hl 5 rfl) ?_
            refine lv_aload_n S.1 S.2.1 dX1_join_17 rfl (lv_at hl 0 rfl) ?_
            refine m_get_things S hC dX1_join_18 ?_
            refine n_icmp_ge (tgt := 88) S.1 S.2.1 dX1_join_21 (by decide) (by omega) (by omega) (fun c21 => ?_) (fun c21 => ?_)
            · skip
              refine lv_iinc (k := 4) S.1 S.2.1 dX1_join_88 hl rfl (n_inc _) (by decide) rfl (fun ls hl => ?_)
              refine lv_goto (tgt := 3) S.1 S.2.1 dX1_join_91 (by decide) ?_
              exact ihU (u + 1) (by omega) (by omega) _ _ _ (by rw [show jX S0 n r a b (u + 1) = jY (jX S0 n r a b u) r a b u i by rw [show i = n by omega]; rfl]; exact hC) (lv_sub hl [1, 2, 3, 4, 0] rfl)
            · skip
              refine lv_aload_n S.1 S.2.1 dX1_join_24 rfl (lv_at hl 0 rfl) ?_
              refine m_get_pairs S hC dX1_join_25 ?_
              refine lv_iload_n S.1 S.2.1 dX1_join_28 rfl (lv_at hl 1 rfl) ?_
              refine lv_iload_n S.1 S.2.1 dX1_join_29 rfl (lv_at hl 2 rfl) ?_
              refine lv_iload S.1 S.2.1 dX1_join_30 (lv_at hl 4 rfl) ?_
              refine s_calli S (c_X1_at l r a u) cw_RX1_X1_at ⟨rfl, rfl, by decide, by decide⟩ rfl hl.1 rfl (Nat.le_of_ble_eq_true rfl) dX1_join_32 ⟨(Nat.le_of_ble_eq_true rfl), (Nat.le_of_ble_eq_true rfl)⟩ (fun r32 hp => ?_)
              subst hp
              refine m_zld S hC 0 (by decide) (ixP_lt hr12 (a := a) (b := u) (by omega) (by omega)) dX1_join_35 ?_
              refine b_if_eq (tgt := 82) S.1 S.2.1 dX1_join_36 (by decide) (fun c36 => ?_) (fun c36 => ?_)
              · skip
                refine lv_iinc (k := 5) S.1 S.2.1 dX1_join_82 hl rfl (n_inc _) (by decide) rfl (fun ls hl => ?_)
                refine lv_goto (tgt := 15) S.1 S.2.1 dX1_join_85 (by decide) ?_
                exact ih (i + 1) (by omega) (by omega) _ _ _ (by rw [jY, if_neg (by rw [show pM (jY (jX S0 n r a b u) r a b u i) r a u = false from c36]; simp)]; exact hC) (lv_sub hl [1, 2, 3, 4, 5, 0] rfl)
              · skip
                refine lv_aload_n S.1 S.2.1 dX1_join_39 rfl (lv_at hl 0 rfl) ?_
                refine m_get_pairs S hC dX1_join_40 ?_
                refine lv_iload_n S.1 S.2.1 dX1_join_43 rfl (lv_at hl 1 rfl) ?_
                refine lv_iload_n S.1 S.2.1 dX1_join_44 rfl (lv_at hl 3 rfl) ?_
                refine lv_iload S.1 S.2.1 dX1_join_45 (lv_at hl 5 rfl) ?_
                refine s_calli S (c_X1_at l r b i) cw_RX1_X1_at ⟨rfl, rfl, by decide, by decide⟩ rfl hl.1 rfl (Nat.le_of_ble_eq_true rfl) dX1_join_47 ⟨(Nat.le_of_ble_eq_true rfl), (Nat.le_of_ble_eq_true rfl)⟩ (fun r47 hp => ?_)
                subst hp
                refine m_zld S hC 0 (by decide) (ixP_lt hr12 (a := b) (b := i) (by omega) (by omega)) dX1_join_50 ?_
                refine b_if_eq (tgt := 82) S.1 S.2.1 dX1_join_51 (by decide) (fun c51 => ?_) (fun c51 => ?_)
                · skip
                  refine lv_iinc (k := 5) S.1 S.2.1 dX1_join_82 hl rfl (n_inc _) (by decide) rfl (fun ls hl => ?_)
                  refine lv_goto (tgt := 15) S.1 S.2.1 dX1_join_85 (by decide) ?_
                  exact ih (i + 1) (by omega) (by omega) _ _ _ (by rw [jY, if_neg (by rw [show pM (jY (jX S0 n r a b u) r a b u i) r b i = false from c51, Bool.and_false]; decide)]; exact hC) (lv_sub hl [1, 2, 3, 4, 5, 0] rfl)
                · skip
                  refine lv_aload_n S.1 S.2.1 dX1_join_54 rfl (lv_at hl 0 rfl) ?_
                  refine m_get_joined S hC dX1_join_55 ?_
                  refine lv_bipush (v := nI 40) S.1 S.2.1 dX1_join_58 rfl ?_
                  refine lv_iload S.1 S.2.1 dX1_join_60 (lv_at hl 4 rfl) ?_
                  refine t_imul S.1 S.2.1 dX1_join_62 (pk_mul _ _) ?_
                  refine lv_iload S.1 S.2.1 dX1_join_63 (lv_at hl 5 rfl) ?_
                  refine t_iadd S.1 S.2.1 dX1_join_65 (nI_add _ _) ?_
                  refine lv_iconst (v := bI true) S.1 S.2.1 dX1_join_66 rfl ?_
                  refine m_zst S hC 1 (by decide) (show 40 * u + i < 1600 by omega) rfl dX1_join_67 (fun H locs hC => ?_)
                  refine lv_aload_n S.1 S.2.1 dX1_join_68 rfl (lv_at hl 0 rfl) ?_
                  refine m_get_joined S hC dX1_join_69 ?_
                  refine lv_bipush (v := nI 40) S.1 S.2.1 dX1_join_72 rfl ?_
                  refine lv_iload S.1 S.2.1 dX1_join_74 (lv_at hl 5 rfl) ?_
                  refine t_imul S.1 S.2.1 dX1_join_76 (pk_mul _ _) ?_
                  refine lv_iload S.1 S.2.1 dX1_join_77 (lv_at hl 4 rfl) ?_
                  refine t_iadd S.1 S.2.1 dX1_join_79 (nI_add _ _) ?_
                  refine lv_iconst (v := bI true) S.1 S.2.1 dX1_join_80 rfl ?_
                  refine m_zst S hC 1 (by decide) (show 40 * i + u < 1600 by omega) rfl dX1_join_81 (fun H locs hC => ?_)
                  refine lv_iinc (k := 5) S.1 S.2.1 dX1_join_82 hl rfl (n_inc _) (by decide) rfl (fun ls hl => ?_)
                  refine lv_goto (tgt := 15) S.1 S.2.1 dX1_join_85 (by decide) ?_
                  exact ih (i + 1) (by omega) (by omega) _ _ _ (by rw [jY, if_pos (by rw [show pM (jY (jX S0 n r a b u) r a b u i) r a u = true from c36, show pM (jY (jX S0 n r a b u) r a b u i) r b i = true from c51]; rfl)]; exact hC) (lv_sub hl [1, 2, 3, 4, 5, 0] rfl)
        exact loop (n + 1) 0 (by omega) (by omega) _ _ _ hC (lv_sub hl [1, 2, 3, 4, 5, 0] rfl)
  exact loopU (n + 1) 0 (by omega) (by omega) _ _ _ hC (lv_sub hl [1, 2, 3, 4, 0] rfl)
def ptM (S : MS) (r a : Nat) : Nat → MS
  | 0 => S
  | k + 1 => sW (sW (ptM S r a k) 0 (ixP r a k) (decide (k = a))) 0 (ixP r k a) (decide (k = a))
set_option maxRecDepth 100000 in
set_option maxHeartbeats 4000000 in
theorem c_X1_part (l : Launch) {loc : Nat → Nat} {n : Nat} {g : Gc} (hn : n ≤ 40) {S0 : MS} {r a : Nat} (hr12 : r < 12) (ha : a < n) : MMv l yX1_part cX1_part 4 none (rmL 2 0 0) loc n g S0 [.int (nI r), .int (nI a)] (fun S' => S' = ptM S0 r a n) := by
  refine o_enter (by decide) (Nat.le_of_ble_eq_true rfl) ?_
  intro p e s m below meth c ls S hr hlocks hC hl
  refine lv_iconst (v := nI 0) S.1 S.2.1 dX1_part_0 rfl ?_
  refine lv_istore_n S.1 S.2.1 dX1_part_1 rfl hl (by decide) rfl (fun ls hl => ?_)
  have loop : ∀ (k i : Nat), n - i < k → i ≤ n → ∀ (H : Heap) (locs : List Loc) (ls : Array Slot), CM loc n g (ptM S0 r a i) s H locs → lv_has ls 4 [(0, .ref (loc 0)), (1, .int (nI r)), (2, .int (nI a)), (3, .int (nI i))] → W p l e (rmL 2 0 0) s m ([.ref (loc 0), .int (nI r), .int (nI a)] : List Value).toArray below meth c H locs 0 0 (MQ below (va_Qv (fun S' => S' = ptM S0 r a n) (fun S' t => HM loc n g S' t.heap) (ZA loc 10)) ([.ref (loc 0), .int (nI r), .int (nI a)] : List Value).toArray s (rmL 2 0 0).cells (rmL 2 0 0).slots (ZA loc 10)) (F0 m 2 ls []) := by
    intro k
    induction k with
    | zero => intro i hk; omega
    | succ k ih =>
      intro i hk hi  H locs ls hC hl
      refine lv_iload_n S.1 S.2.1 dX1_part_2 rfl (lv_at hl 3 rfl) ?_
      refine lv_aload_n S.1 S.2.1 dX1_part_3 rfl (lv_at hl 0 rfl) ?_
      refine m_get_things S hC dX1_part_4 ?_
      refine n_icmp_ge (tgt := 58) S.1 S.2.1 dX1_part_7 (by decide) (by omega) (by omega) (fun c7 => ?_) (fun c7 => ?_)
      · skip
        exact o_vret S hr hlocks hC (by rw [show n = i by omega]) dX1_part_58 (Nat.le_of_ble_eq_true rfl) (Nat.le_of_ble_eq_true rfl)
      · skip
        refine lv_aload_n S.1 S.2.1 dX1_part_10 rfl (lv_at hl 0 rfl) ?_
        refine m_get_pairs S hC dX1_part_11 ?_
        refine lv_iload_n S.1 S.2.1 dX1_part_14 rfl (lv_at hl 1 rfl) ?_
        refine lv_iload_n S.1 S.2.1 dX1_part_15 rfl (lv_at hl 2 rfl) ?_
        refine lv_iload_n S.1 S.2.1 dX1_part_16 rfl (lv_at hl 3 rfl) ?_
        refine s_calli S (c_X1_at l r a i) cw_RX1_X1_at ⟨rfl, rfl, by decide, by decide⟩ rfl hl.1 rfl (Nat.le_of_ble_eq_true rfl) dX1_part_17 ⟨(Nat.le_of_ble_eq_true rfl), (Nat.le_of_ble_eq_true rfl)⟩ (fun r17 hp => ?_)
        subst hp
        refine lv_iload_n S.1 S.2.1 dX1_part_20 rfl (lv_at hl 3 rfl) ?_
        refine lv_iload_n S.1 S.2.1 dX1_part_21 rfl (lv_at hl 2 rfl) ?_
        refine n_icmp_ne (tgt := 29) S.1 S.2.1 dX1_part_22 (by decide) (by omega) (by omega) (fun c22 => ?_) (fun c22 => ?_)
        · skip
          refine lv_iconst (v := bI (decide (i = a))) S.1 S.2.1 dX1_part_29 (by rw [decide_eq_false c22]; rfl) ?_
          refine m_zst S hC 0 (by decide) (ixP_lt hr12 (a := a) (b := i) (by omega) (by omega)) rfl dX1_part_30 (fun H locs hC => ?_)
          refine lv_aload_n S.1 S.2.1 dX1_part_31 rfl (lv_at hl 0 rfl) ?_
          refine m_get_pairs S hC dX1_part_32 ?_
          refine lv_iload_n S.1 S.2.1 dX1_part_35 rfl (lv_at hl 1 rfl) ?_
          refine lv_iload_n S.1 S.2.1 dX1_part_36 rfl (lv_at hl 3 rfl) ?_
          refine lv_iload_n S.1 S.2.1 dX1_part_37 rfl (lv_at hl 2 rfl) ?_
          refine s_calli S (c_X1_at l r i a) cw_RX1_X1_at ⟨rfl, rfl, by decide, by decide⟩ rfl hl.1 rfl (Nat.le_of_ble_eq_true rfl) dX1_part_38 ⟨(Nat.le_of_ble_eq_true rfl), (Nat.le_of_ble_eq_true rfl)⟩ (fun r38 hp => ?_)
          subst hp
          refine lv_iload_n S.1 S.2.1 dX1_part_41 rfl (lv_at hl 3 rfl) ?_
          refine lv_iload_n S.1 S.2.1 dX1_part_42 rfl (lv_at hl 2 rfl) ?_
          refine n_icmp_ne (tgt := 50) S.1 S.2.1 dX1_part_43 (by decide) (by omega) (by omega) (fun c43 => ?_) (fun c43 => ?_)
          · skip
            refine lv_iconst (v := bI (decide (i = a))) S.1 S.2.1 dX1_part_50 (by rw [decide_eq_false c43]; rfl) ?_
            refine m_zst S hC 0 (by decide) (ixP_lt hr12 (a := i) (b := a) (by omega) (by omega)) rfl dX1_part_51 (fun H locs hC => ?_)
            refine lv_iinc (k := 3) S.1 S.2.1 dX1_part_52 hl rfl (n_inc _) (by decide) rfl (fun ls hl => ?_)
            refine lv_goto (tgt := 2) S.1 S.2.1 dX1_part_55 (by decide) ?_
            exact ih (i + 1) (by omega) (by omega) _ _ _ hC (lv_sub hl [1, 2, 3, 0] rfl)
          · skip
            refine lv_iconst (v := bI (decide (i = a))) S.1 S.2.1 dX1_part_46 (by rw [decide_eq_true c43]; rfl) ?_
            refine lv_goto (tgt := 51) S.1 S.2.1 dX1_part_47 (by decide) ?_
            refine m_zst S hC 0 (by decide) (ixP_lt hr12 (a := i) (b := a) (by omega) (by omega)) rfl dX1_part_51 (fun H locs hC => ?_)
            refine lv_iinc (k := 3) S.1 S.2.1 dX1_part_52 hl rfl (n_inc _) (by decide) rfl (fun ls hl => ?_)
            refine lv_goto (tgt := 2) S.1 S.2.1 dX1_part_55 (by decide) ?_
            exact ih (i + 1) (by omega) (by omega) _ _ _ hC (lv_sub hl [1, 2, 3, 0] rfl)
        · skip
          refine lv_iconst (v := bI (decide (i = a))) S.1 S.2.1 dX1_part_25 (by rw [decide_eq_true c22]; rfl) ?_
          refine lv_goto (tgt := 30) S.1 S.2.1 dX1_part_26 (by decide) ?_
          refine m_zst S hC 0 (by decide) (ixP_lt hr12 (a := a) (b := i) (by omega) (by omega)) rfl dX1_part_30 (fun H locs hC => ?_)
          refine lv_aload_n S.1 S.2.1 dX1_part_31 rfl (lv_at hl 0 rfl) ?_
          refine m_get_pairs S hC dX1_part_32 ?_
          refine lv_iload_n S.1 S.2.1 dX1_part_35 rfl (lv_at hl 1 rfl) ?_
          refine lv_iload_n S.1 S.2.1 dX1_part_36 rfl (lv_at hl 3 rfl) ?_
          refine lv_iload_n S.1 S.2.1 dX1_part_37 rfl (lv_at hl 2 rfl) ?_
          refine s_calli S (c_X1_at l r i a) cw_RX1_X1_at ⟨rfl, rfl, by decide, by decide⟩ rfl hl.1 rfl (Nat.le_of_ble_eq_true rfl) dX1_part_38 ⟨(Nat.le_of_ble_eq_true rfl), (Nat.le_of_ble_eq_true rfl)⟩ (fun r38 hp => ?_)
          subst hp
          refine lv_iload_n S.1 S.2.1 dX1_part_41 rfl (lv_at hl 3 rfl) ?_
          refine lv_iload_n S.1 S.2.1 dX1_part_42 rfl (lv_at hl 2 rfl) ?_
          refine n_icmp_ne (tgt := 50) S.1 S.2.1 dX1_part_43 (by decide) (by omega) (by omega) (fun c43 => ?_) (fun c43 => ?_)
          · skip
            refine lv_iconst (v := bI (decide (i = a))) S.1 S.2.1 dX1_part_50 (by rw [decide_eq_false c43]; rfl) ?_
            refine m_zst S hC 0 (by decide) (ixP_lt hr12 (a := i) (b := a) (by omega) (by omega)) rfl dX1_part_51 (fun H locs hC => ?_)
            refine lv_iinc (k := 3) S.1 S.2.1 dX1_part_52 hl rfl (n_inc _) (by decide) rfl (fun ls hl => ?_)
            refine lv_goto (tgt := 2) S.1 S.2.1 dX1_part_55 (by decide) ?_
            exact ih (i + 1) (by omega) (by omega) _ _ _ hC (lv_sub hl [1, 2, 3, 0] rfl)
          · skip
            refine lv_iconst (v := bI (decide (i = a))) S.1 S.2.1 dX1_part_46 (by rw [decide_eq_true c43]; rfl) ?_
            refine lv_goto (tgt := 51) S.1 S.2.1 dX1_part_47 (by decide) ?_
            refine m_zst S hC 0 (by decide) (ixP_lt hr12 (a := i) (b := a) (by omega) (by omega)) rfl dX1_part_51 (fun H locs hC => ?_)
            refine lv_iinc (k := 3) S.1 S.2.1 dX1_part_52 hl rfl (n_inc _) (by decide) rfl (fun ls hl => ?_)
            refine lv_goto (tgt := 2) S.1 S.2.1 dX1_part_55 (by decide) ?_
            exact ih (i + 1) (by omega) (by omega) _ _ _ hC (lv_sub hl [1, 2, 3, 0] rfl)
  exact loop (n + 1) 0 (by omega) (by omega) _ _ _ hC (lv_sub hl [1, 2, 3, 0] rfl)
