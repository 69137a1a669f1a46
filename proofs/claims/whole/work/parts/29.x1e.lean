def cnM (S : MS) (r : Nat) : Nat → Int32
  | 0 => nI 0
  | k + 1 => cnM S r k + (if S.2.2 0 (1600 * r + k) then nI 1 else nI 0)
set_option maxRecDepth 100000 in
set_option maxHeartbeats 4000000 in
theorem c_X1_countOf (l : Launch) {loc : Nat → Nat} {n : Nat} {g : Gc} (hn : n ≤ 40) {S0 : MS} {r : Nat} (hr12 : r < 12) : MMi l yX1_countOf cX1_countOf 4 (some .int) (rmL 1 0 0) loc n g S0 [.int (nI r)] (fun v S' => S' = S0 ∧ v = cnM S0 r 1600) := by
  refine o_enter (by decide) (Nat.le_of_ble_eq_true rfl) ?_
  intro p e s m below meth c ls S hr hlocks hC hl
  refine lv_iconst (v := nI 0) S.1 S.2.1 dX1_countOf_0 rfl ?_
  refine lv_istore_n S.1 S.2.1 dX1_countOf_1 rfl hl (by decide) rfl (fun ls hl => ?_)
  refine lv_iconst (v := nI 0) S.1 S.2.1 dX1_countOf_2 rfl ?_
  refine lv_istore_n S.1 S.2.1 dX1_countOf_3 rfl hl (by decide) rfl (fun ls hl => ?_)
  have loop : ∀ (k i : Nat), 1600 - i < k → i ≤ 1600 → ∀ (H : Heap) (locs : List Loc) (ls : Array Slot), CM loc n g (S0) s H locs → lv_has ls 4 [(0, .ref (loc 0)), (1, .int (nI r)), (2, .int (cnM S0 r i)), (3, .int (nI i))] → W p l e (rmL 1 0 0) s m ([.ref (loc 0), .int (nI r)] : List Value).toArray below meth c H locs 0 0 (MQ below (va_Qi (fun v S' => S' = S0 ∧ v = cnM S0 r 1600) (fun S' t => HM loc n g S' t.heap) (ZA loc 10)) ([.ref (loc 0), .int (nI r)] : List Value).toArray s (rmL 1 0 0).cells (rmL 1 0 0).slots (ZA loc 10)) (F0 m 4 ls []) := by
    intro k
    induction k with
    | zero => intro i hk; omega
    | succ k ih =>
      intro i hk hi  H locs ls hC hl
      refine lv_iload_n S.1 S.2.1 dX1_countOf_4 rfl (lv_at hl 3 rfl) ?_
      refine lv_sipush (v := nI 1600) S.1 S.2.1 dX1_countOf_5 rfl ?_
      refine n_icmp_ge (tgt := 40) S.1 S.2.1 dX1_countOf_8 (by decide) (by omega) (by omega) (fun c8 => ?_) (fun c8 => ?_)
      · skip
        refine lv_iload_n S.1 S.2.1 dX1_countOf_40 rfl (lv_at hl 2 rfl) ?_
        exact o_iret S hr hlocks hC ⟨rfl, by rw [show 1600 = i by omega]⟩ rfl dX1_countOf_41 (Nat.le_of_ble_eq_true rfl) (Nat.le_of_ble_eq_true rfl)
      · skip
        refine lv_iload_n S.1 S.2.1 dX1_countOf_11 rfl (lv_at hl 2 rfl) ?_
        refine lv_aload_n S.1 S.2.1 dX1_countOf_12 rfl (lv_at hl 0 rfl) ?_
        refine m_get_pairs S hC dX1_countOf_13 ?_
        refine lv_sipush (v := nI 1600) S.1 S.2.1 dX1_countOf_16 rfl ?_
        refine lv_iload_n S.1 S.2.1 dX1_countOf_19 rfl (lv_at hl 1 rfl) ?_
        refine t_imul S.1 S.2.1 dX1_countOf_20 (pk_mul _ _) ?_
        refine lv_iload_n S.1 S.2.1 dX1_countOf_21 rfl (lv_at hl 3 rfl) ?_
        refine t_iadd S.1 S.2.1 dX1_countOf_22 (nI_add _ _) ?_
        refine m_zld S hC 0 (by decide) (show 1600 * r + i < 19200 by omega) dX1_countOf_23 ?_
        refine b_if_eq (tgt := 31) S.1 S.2.1 dX1_countOf_24 (by decide) (fun c24 => ?_) (fun c24 => ?_)
        · skip
          refine lv_iconst (v := (if S0.2.2 0 (1600 * r + i) then nI 1 else nI 0)) S.1 S.2.1 dX1_countOf_31 (by rw [c24]; rfl) ?_
          refine lv_iadd S.1 S.2.1 dX1_countOf_32 ?_
          refine lv_istore_n S.1 S.2.1 dX1_countOf_33 rfl hl (by decide) rfl (fun ls hl => ?_)
          refine lv_iinc (k := 3) S.1 S.2.1 dX1_countOf_34 hl rfl (n_inc _) (by decide) rfl (fun ls hl => ?_)
          refine lv_goto (tgt := 4) S.1 S.2.1 dX1_countOf_37 (by decide) ?_
          exact ih (i + 1) (by omega) (by omega) _ _ _ hC (lv_sub hl [2, 3, 1, 0] rfl)
        · skip
          refine lv_iconst (v := (if S0.2.2 0 (1600 * r + i) then nI 1 else nI 0)) S.1 S.2.1 dX1_countOf_27 (by rw [c24]; rfl) ?_
          refine lv_goto (tgt := 32) S.1 S.2.1 dX1_countOf_28 (by decide) ?_
          refine lv_iadd S.1 S.2.1 dX1_countOf_32 ?_
          refine lv_istore_n S.1 S.2.1 dX1_countOf_33 rfl hl (by decide) rfl (fun ls hl => ?_)
          refine lv_iinc (k := 3) S.1 S.2.1 dX1_countOf_34 hl rfl (n_inc _) (by decide) rfl (fun ls hl => ?_)
          refine lv_goto (tgt := 4) S.1 S.2.1 dX1_countOf_37 (by decide) ?_
          exact ih (i + 1) (by omega) (by omega) _ _ _ hC (lv_sub hl [2, 3, 1, 0] rfl)
  exact loop (1600 + 1) 0 (by omega) (by omega) _ _ _ hC (lv_sub hl [2, 3, 1, 0] rfl)
def emB (S : MS) (r a : Nat) : Nat → MS
  | 0 => S
  | k + 1 => sW (emB S r a k) 0 (ixP r a k) (decide ((emB S r a k).2.1 1 r = nI 6) && (decide (a = k) && pM (emB S r a k) r a a))
def emA (S : MS) (n r : Nat) : Nat → MS
  | 0 => S
  | k + 1 => emB (emA S n r k) r k n
def eC (S : MS) (R : Nat) (x : Int32) : Int32 := if inI x (nI R) = false then nI 1 else if ¬ S.2.1 1 (ixN x) < nI 10 then nI 2 else nI 0
theorem eC_0 {S : MS} {R : Nat} {x : Int32} (h : eC S R x = 0) : inI x (nI R) = true ∧ S.2.1 1 (ixN x) < nI 10 := by
  unfold eC at h
  by_cases q : inI x (nI R) = false
  · rw [if_pos q] at h; exact absurd h (by decide)
  · rw [if_neg q] at h
    by_cases q2 : ¬ S.2.1 1 (ixN x) < nI 10
    · rw [if_pos q2] at h; exact absurd h (by decide)
    · exact ⟨Bool.of_not_eq_false q, Classical.not_not.mp q2⟩
set_option maxRecDepth 100000 in
set_option maxHeartbeats 4000000 in
theorem c_X1_empty (l : Launch) {loc : Nat → Nat} {n : Nat} {g : Gc} (hn : n ≤ 40) {S0 : MS} {R : Nat} (hR : R ≤ 12) (hrel : S0.1 1 = nI R) (x : Int32) : MMi l yX1_empty cX1_empty 5 (some .int) (rmL 6 0 0) loc n g S0 [.int x] (fun v S' => S' = (if eC S0 R x = 0 then emA (sI S0 0 (eC S0 R x)) n (ixN x) n else sI S0 0 (eC S0 R x)) ∧ v = (if eC S0 R x = 0 then cnM S0 (ixN x) 1600 - cnM S' (ixN x) 1600 else nI 0)) := by
  refine o_enter (by decide) (Nat.le_of_ble_eq_true rfl) ?_
  intro p e s m below meth c ls S hr hlocks hC hl
  have tail29 : ∀ (H : Heap) (locs : List Loc) (ls : Array Slot), CM loc n g (S0) s H locs → lv_has ls 5 [(0, .ref (loc 0)), (1, .int x)] → W p l e (rmL 6 0 0) s m ([.ref (loc 0), .int x] : List Value).toArray below meth c H locs 0 0 (MQ below (va_Qi (fun v S' => S' = (if eC S0 R x = 0 then emA (sI S0 0 (eC S0 R x)) n (ixN x) n else sI S0 0 (eC S0 R x)) ∧ v = (if eC S0 R x = 0 then cnM S0 (ixN x) 1600 - cnM S' (ixN x) 1600 else nI 0)) (fun S' t => HM loc n g S' t.heap) (ZA loc 10)) ([.ref (loc 0), .int x] : List Value).toArray s (rmL 6 0 0).cells (rmL 6 0 0).slots (ZA loc 10)) (F0 m 29 ls [.int (eC S0 R x), .ref (loc 0)]) := by
    intro  H locs ls hC hl
    refine o_calli oiM S hC (c_X1_isGood l hn _) cw_RX1_X1_isGood ⟨rfl, rfl, by decide, by decide⟩ rfl hl.1 rfl (Nat.le_of_ble_eq_true rfl) dX1_empty_29 ⟨(Nat.le_of_ble_eq_true rfl), (Nat.le_of_ble_eq_true rfl)⟩ (fun r29 S1 H locs hp hC1 => ?_)
    obtain ⟨e1, hp⟩ := hp
    rw [e1] at hC1; replace hC := hC1
    subst hp
    refine b_if_ne (tgt := 37) S.1 S.2.1 dX1_empty_32 (by decide) (fun c32 => ?_) (fun c32 => ?_)
    · have c38 : eC S0 R x = 0 := by simpa using c32
      obtain ⟨h9, h10⟩ := eC_0 c38
      obtain ⟨r, hrR, e0x⟩ := inI_t (by omega) h9
      have er : ixN x = r := by rw [e0x]; exact ixN_nI (by omega)
      have hr12 : r < 12 := by omega
      rw [e0x] at hl
      refine lv_aload_n S.1 S.2.1 dX1_empty_37 rfl (lv_at hl 0 rfl) ?_
      refine lv_iload_n S.1 S.2.1 dX1_empty_38 rfl (lv_at hl 1 rfl) ?_
      refine o_calli oiM S hC (c_X1_countOf l hn hr12) cw_RX1_X1_countOf ⟨rfl, rfl, by decide, by decide⟩ rfl hl.1 rfl (Nat.le_of_ble_eq_true rfl) dX1_empty_39 ⟨(Nat.le_of_ble_eq_true rfl), (Nat.le_of_ble_eq_true rfl)⟩ (fun r39 S1 H locs hp hC1 => ?_)
      obtain ⟨e1, hp⟩ := hp
      rw [e1] at hC1; replace hC := hC1
      subst hp
      refine lv_istore_n S.1 S.2.1 dX1_empty_42 rfl hl (by decide) rfl (fun ls hl => ?_)
      refine lv_iconst (v := nI 0) S.1 S.2.1 dX1_empty_43 rfl ?_
      refine lv_istore_n S.1 S.2.1 dX1_empty_44 rfl hl (by decide) rfl (fun ls hl => ?_)
      have loopU : ∀ (k u : Nat), n - u < k → u ≤ n → ∀ (H : Heap) (locs : List Loc) (ls : Array Slot), CM loc n g (emA (sI S0 0 (eC S0 R x)) n r u) s H locs → lv_has ls 5 [(0, .ref (loc 0)), (1, .int (nI r)), (2, .int (cnM (sI S0 0 (eC S0 R x)) r 1600)), (3, .int (nI u))] → W p l e (rmL 6 0 0) s m ([.ref (loc 0), .int x] : List Value).toArray below meth c H locs 0 0 (MQ below (va_Qi (fun v S' => S' = (if eC S0 R x = 0 then emA (sI S0 0 (eC S0 R x)) n (ixN x) n else sI S0 0 (eC S0 R x)) ∧ v = (if eC S0 R x = 0 then cnM S0 (ixN x) 1600 - cnM S' (ixN x) 1600 else nI 0)) (fun S' t => HM loc n g S' t.heap) (ZA loc 10)) ([.ref (loc 0), .int x] : List Value).toArray s (rmL 6 0 0).cells (rmL 6 0 0).slots (ZA loc 10)) (F0 m 45 ls []) := by
        intro k
        induction k with
        | zero => intro u hk; omega
        | succ k ihU =>
          intro u hkU hiU  H locs ls hC hl
          refine lv_iload_n S.1 S.2.1 dX1_empty_45 rfl (lv_at hl 3 rfl) ?_
          refine lv_aload_n S.1 S.2.1 dX1_empty_46 rfl (lv_at hl 0 rfl) ?_
          refine m_get_things S hC dX1_empty_47 ?_
          refine n_icmp_ge (tgt := 125) S.1 S.2.1 dX1_empty_50 (by decide) (by omega) (by omega) (fun c50 => ?_) (fun c50 => ?_)
          · skip
            refine lv_iload_n S.1 S.2.1 dX1_empty_125 rfl (lv_at hl 2 rfl) ?_
            refine lv_aload_n S.1 S.2.1 dX1_empty_126 rfl (lv_at hl 0 rfl) ?_
            refine lv_iload_n S.1 S.2.1 dX1_empty_127 rfl (lv_at hl 1 rfl) ?_
            refine o_calli oiM S hC (c_X1_countOf l hn hr12) cw_RX1_X1_countOf ⟨rfl, rfl, by decide, by decide⟩ rfl hl.1 rfl (Nat.le_of_ble_eq_true rfl) dX1_empty_128 ⟨(Nat.le_of_ble_eq_true rfl), (Nat.le_of_ble_eq_true rfl)⟩ (fun r128 S1 H locs hp hC1 => ?_)
            obtain ⟨e1, hp⟩ := hp
            rw [e1] at hC1; replace hC := hC1
            subst hp
            refine lv_isub S.1 S.2.1 dX1_empty_131 ?_
            exact o_iret S hr hlocks hC ⟨by rw [if_pos c38, er, show n = u by omega], by rw [if_pos c38, er]; rfl⟩ rfl dX1_empty_132 (Nat.le_of_ble_eq_true rfl) (Nat.le_of_ble_eq_true rfl)
          · skip
            refine lv_iconst (v := nI 0) S.1 S.2.1 dX1_empty_53 rfl ?_
            refine lv_istore S.1 S.2.1 dX1_empty_54 hl (by decide) rfl (fun ls hl => ?_)
            have loop : ∀ (k i : Nat), n - i < k → i ≤ n → ∀ (H : Heap) (locs : List Loc) (ls : Array Slot), CM loc n g (emB (emA (sI S0 0 (eC S0 R x)) n r u) r u i) s H locs → lv_has ls 5 [(0, .ref (loc 0)), (1, .int (nI r)), (2, .int (cnM (sI S0 0 (eC S0 R x)) r 1600)), (3, .int (nI u)), (4, .int (nI i))] → W p l e (rmL 6 0 0) s m ([.ref (loc 0), .int x] : List Value).toArray below meth c H locs 0 0 (MQ below (va_Qi (fun v S' => S' = (if eC S0 R x = 0 then emA (sI S0 0 (eC S0 R x)) n (ixN x) n else sI S0 0 (eC S0 R x)) ∧ v = (if eC S0 R x = 0 then cnM S0 (ixN x) 1600 - cnM S' (ixN x) 1600 else nI 0)) (fun S' t => HM loc n g S' t.heap) (ZA loc 10)) ([.ref (loc 0), .int x] : List Value).toArray s (rmL 6 0 0).cells (rmL 6 0 0).slots (ZA loc 10)) (F0 m 56 ls []) := by
              intro k
              induction k with
              | zero => intro i hk; omega
              | succ k ih =>
                intro i hk hi  H locs ls hC hl
                refine lv_iload S.1 S.2.1 dX1_empty_56 (lv_at hl 4 rfl) ?_
                refine lv_aload_n S.1 S.2.1 dX1_empty_58 rfl (lv_at hl 0 rfl) ?_
                refine m_get_things S hC dX1_empty_59 ?_
                refine n_icmp_ge (tgt := 119) S.1 S.2.1 dX1_empty_62 (by decide) (by omega) (by omega) (fun c62 => ?_) (fun c62 => ?_)
                · skip
                  refine lv_iinc (k := 3) S.1 S.2.1 dX1_empty_119 hl rfl (n_inc _) (by decide) rfl (fun ls hl => ?_)
                  refine lv_goto (tgt := 45) S.1 S.2.1 dX1_empty_122 (by decide) ?_
                  exact ihU (u + 1) (by omega) (by omega) _ _ _ (by rw [show emA (sI S0 0 (eC S0 R x)) n r (u + 1) = (emB (emA (sI S0 0 (eC S0 R x)) n r u) r u i) by rw [show i = n by omega]; rfl]; exact hC) (lv_sub hl [1, 2, 3, 0] rfl)
                · skip
                  refine lv_aload_n S.1 S.2.1 dX1_empty_65 rfl (lv_at hl 0 rfl) ?_
                  refine m_get_pairs S hC dX1_empty_66 ?_
                  refine lv_iload_n S.1 S.2.1 dX1_empty_69 rfl (lv_at hl 1 rfl) ?_
                  refine lv_iload_n S.1 S.2.1 dX1_empty_70 rfl (lv_at hl 3 rfl) ?_
                  refine lv_iload S.1 S.2.1 dX1_empty_71 (lv_at hl 4 rfl) ?_
                  refine s_calli S (c_X1_at l r u i) cw_RX1_X1_at ⟨rfl, rfl, by decide, by decide⟩ rfl hl.1 rfl (Nat.le_of_ble_eq_true rfl) dX1_empty_73 ⟨(Nat.le_of_ble_eq_true rfl), (Nat.le_of_ble_eq_true rfl)⟩ (fun r73 hp => ?_)
                  subst hp
                  refine lv_aload_n S.1 S.2.1 dX1_empty_76 rfl (lv_at hl 0 rfl) ?_
                  refine m_get_form S hC dX1_empty_77 ?_
                  refine lv_iload_n S.1 S.2.1 dX1_empty_80 rfl (lv_at hl 1 rfl) ?_
                  refine m_ild S hC 1 (by decide) hr12 dX1_empty_81 ?_
                  refine lv_bipush (v := nI 6) S.1 S.2.1 dX1_empty_82 rfl ?_
                  refine lv_icmp_ne (tgt := 111) S.1 S.2.1 dX1_empty_84 (by decide) (fun c84 => ?_) (fun c84 => ?_)
                  · skip
                    refine lv_iconst (v := bI (decide ((emB (emA (sI S0 0 (eC S0 R x)) n r u) r u i).2.1 1 r = nI 6) && (decide (u = i) && pM (emB (emA (sI S0 0 (eC S0 R x)) n r u) r u i) r u u))) S.1 S.2.1 dX1_empty_111 (by rw [decide_eq_false c84]; simp [bI]) ?_
                    refine m_zst S hC 0 (by decide) (ixP_lt hr12 (a := u) (b := i) (by omega) (by omega)) rfl dX1_empty_112 (fun H locs hC => ?_)
                    refine lv_iinc (k := 4) S.1 S.2.1 dX1_empty_113 hl rfl (n_inc _) (by decide) rfl (fun ls hl => ?_)
                    refine lv_goto (tgt := 56) S.1 S.2.1 dX1_empty_116 (by decide) ?_
                    exact ih (i + 1) (by omega) (by omega) _ _ _ hC (lv_sub hl [1, 2, 3, 4, 0] rfl)
                  · skip
                    refine lv_iload_n S.1 S.2.1 dX1_empty_87 rfl (lv_at hl 3 rfl) ?_
                    refine lv_iload S.1 S.2.1 dX1_empty_88 (lv_at hl 4 rfl) ?_
                    refine n_icmp_ne (tgt := 111) S.1 S.2.1 dX1_empty_90 (by decide) (by omega) (by omega) (fun c90 => ?_) (fun c90 => ?_)
                    · skip
                      refine lv_iconst (v := bI (decide ((emB (emA (sI S0 0 (eC S0 R x)) n r u) r u i).2.1 1 r = nI 6) && (decide (u = i) && pM (emB (emA (sI S0 0 (eC S0 R x)) n r u) r u i) r u u))) S.1 S.2.1 dX1_empty_111 (by rw [decide_eq_false c90]; simp [bI]) ?_
                      refine m_zst S hC 0 (by decide) (ixP_lt hr12 (a := u) (b := i) (by omega) (by omega)) rfl dX1_empty_112 (fun H locs hC => ?_)
                      refine lv_iinc (k := 4) S.1 S.2.1 dX1_empty_113 hl rfl (n_inc _) (by decide) rfl (fun ls hl => ?_)
                      refine lv_goto (tgt := 56) S.1 S.2.1 dX1_empty_116 (by decide) ?_
                      exact ih (i + 1) (by omega) (by omega) _ _ _ hC (lv_sub hl [1, 2, 3, 4, 0] rfl)
                    · skip
                      refine lv_aload_n S.1 S.2.1 dX1_empty_93 rfl (lv_at hl 0 rfl) ?_
                      refine m_get_pairs S hC dX1_empty_94 ?_
                      refine lv_iload_n S.1 S.2.1 dX1_empty_97 rfl (lv_at hl 1 rfl) ?_
                      refine lv_iload_n S.1 S.2.1 dX1_empty_98 rfl (lv_at hl 3 rfl) ?_
                      refine lv_iload_n S.1 S.2.1 dX1_empty_99 rfl (lv_at hl 3 rfl) ?_
                      refine s_calli S (c_X1_at l r u u) cw_RX1_X1_at ⟨rfl, rfl, by decide, by decide⟩ rfl hl.1 rfl (Nat.le_of_ble_eq_true rfl) dX1_empty_100 ⟨(Nat.le_of_ble_eq_true rfl), (Nat.le_of_ble_eq_true rfl)⟩ (fun r100 hp => ?_)
                      subst hp
                      refine m_zld S hC 0 (by decide) (ixP_lt hr12 (a := u) (b := u) (by omega) (by omega)) dX1_empty_103 ?_
                      refine b_if_eq (tgt := 111) S.1 S.2.1 dX1_empty_104 (by decide) (fun c104 => ?_) (fun c104 => ?_)
                      · skip
                        refine lv_iconst (v := bI (decide ((emB (emA (sI S0 0 (eC S0 R x)) n r u) r u i).2.1 1 r = nI 6) && (decide (u = i) && pM (emB (emA (sI S0 0 (eC S0 R x)) n r u) r u i) r u u))) S.1 S.2.1 dX1_empty_111 (by rw [show pM (emB (emA (sI S0 0 (eC S0 R x)) n r u) r u i) r u u = false from c104]; simp [bI]) ?_
                        refine m_zst S hC 0 (by decide) (ixP_lt hr12 (a := u) (b := i) (by omega) (by omega)) rfl dX1_empty_112 (fun H locs hC => ?_)
                        refine lv_iinc (k := 4) S.1 S.2.1 dX1_empty_113 hl rfl (n_inc _) (by decide) rfl (fun ls hl => ?_)
                        refine lv_goto (tgt := 56) S.1 S.2.1 dX1_empty_116 (by decide) ?_
                        exact ih (i + 1) (by omega) (by omega) _ _ _ hC (lv_sub hl [1, 2, 3, 4, 0] rfl)
                      · skip
                        refine lv_iconst (v := bI (decide ((emB (emA (sI S0 0 (eC S0 R x)) n r u) r u i).2.1 1 r = nI 6) && (decide (u = i) && pM (emB (emA (sI S0 0 (eC S0 R x)) n r u) r u i) r u u))) S.1 S.2.1 dX1_empty_107 (by rw [decide_eq_true c84, decide_eq_true c90, show pM (emB (emA (sI S0 0 (eC S0 R x)) n r u) r u i) r u u = true from c104]; simp [bI]) ?_
                        refine lv_goto (tgt := 112) S.1 S.2.1 dX1_empty_108 (by decide) ?_
                        refine m_zst S hC 0 (by decide) (ixP_lt hr12 (a := u) (b := i) (by omega) (by omega)) rfl dX1_empty_112 (fun H locs hC => ?_)
                        refine lv_iinc (k := 4) S.1 S.2.1 dX1_empty_113 hl rfl (n_inc _) (by decide) rfl (fun ls hl => ?_)
                        refine lv_goto (tgt := 56) S.1 S.2.1 dX1_empty_116 (by decide) ?_
                        exact ih (i + 1) (by omega) (by omega) _ _ _ hC (lv_sub hl [1, 2, 3, 4, 0] rfl)
            exact loop (n + 1) 0 (by omega) (by omega) _ _ _ hC (lv_sub hl [1, 2, 3, 4, 0] rfl)
      exact loopU (n + 1) 0 (by omega) (by omega) _ _ _ hC (lv_sub hl [2, 3, 1, 0] rfl)
    · have c38 : ¬ eC S0 R x = 0 := by simpa using c32
      refine lv_iconst (v := nI 0) S.1 S.2.1 dX1_empty_35 rfl ?_
      exact o_iret S hr hlocks hC ⟨by rw [if_neg c38], by rw [if_neg c38]⟩ rfl dX1_empty_36 (Nat.le_of_ble_eq_true rfl) (Nat.le_of_ble_eq_true rfl)
  refine lv_aload_n S.1 S.2.1 dX1_empty_0 rfl (lv_at hl 0 rfl) ?_
  refine lv_aload_n S.1 S.2.1 dX1_empty_1 rfl (lv_at hl 0 rfl) ?_
  refine lv_iload_n S.1 S.2.1 dX1_empty_2 rfl (lv_at hl 1 rfl) ?_
  refine o_calli oiM S hC (c_X1_isRelation l hn hR hrel x) cw_RX1_X1_isRelation ⟨rfl, rfl, by decide, by decide⟩ rfl hl.1 rfl (Nat.le_of_ble_eq_true rfl) dX1_empty_3 ⟨(Nat.le_of_ble_eq_true rfl), (Nat.le_of_ble_eq_true rfl)⟩ (fun r3 S1 H locs hp hC1 => ?_)
  obtain ⟨e1, hp⟩ := hp
  rw [e1] at hC1; replace hC := hC1
  subst hp
  refine b_if_ne (tgt := 13) S.1 S.2.1 dX1_empty_6 (by decide) (fun c6 => ?_) (fun c6 => ?_)
  · obtain ⟨r, hrR, e0x⟩ := inI_t (by omega) c6
    have er : ixN x = r := by rw [e0x]; exact ixN_nI (by omega)
    have hl0 := hl
    rw [e0x] at hl
    refine lv_aload_n S.1 S.2.1 dX1_empty_13 rfl (lv_at hl 0 rfl) ?_
    refine m_get_form S hC dX1_empty_14 ?_
    refine lv_iload_n S.1 S.2.1 dX1_empty_17 rfl (lv_at hl 1 rfl) ?_
    refine m_ild S hC 1 (by decide) (show r < 12 by omega) dX1_empty_18 ?_
    refine lv_bipush (v := nI 10) S.1 S.2.1 dX1_empty_19 rfl ?_
    refine lv_icmp_lt (tgt := 28) S.1 S.2.1 dX1_empty_21 (by decide) (fun c21 => ?_) (fun c21 => ?_)
    · replace hl := hl0
      refine lv_iconst (v := eC S0 R x) S.1 S.2.1 dX1_empty_28 (by rw [show eC S0 R x = nI 0 by rw [eC, if_neg (by rw [c6]; decide), er, if_neg (fun q => q c21)]]; rfl) ?_
      exact tail29 _ _ _ hC (lv_sub hl [0, 1] rfl)
    · replace hl := hl0
      refine lv_iconst (v := eC S0 R x) S.1 S.2.1 dX1_empty_24 (by rw [show eC S0 R x = nI 2 by rw [eC, if_neg (by rw [c6]; decide), er, if_pos c21]]; rfl) ?_
      refine lv_goto (tgt := 29) S.1 S.2.1 dX1_empty_25 (by decide) ?_
      exact tail29 _ _ _ hC (lv_sub hl [0, 1] rfl)
  · skip
    refine lv_iconst (v := eC S0 R x) S.1 S.2.1 dX1_empty_9 (by rw [show eC S0 R x = nI 1 by rw [eC, if_pos c6]]; rfl) ?_
    refine lv_goto (tgt := 29) S.1 S.2.1 dX1_empty_10 (by decide) ?_
    exact tail29 _ _ _ hC (lv_sub hl [0, 1] rfl)
def pdC (S : MS) (i w : Int32) : Int32 := if inB w (nI 0) (nI 1) = false then nI 1 else if inB i (nI 0) (S.1 2 - nI 1) = false then nI 2 else nI 0
theorem pdC_0 {S : MS} {i w : Int32} (h : pdC S i w = 0) : inB w (nI 0) (nI 1) = true ∧ inB i (nI 0) (S.1 2 - nI 1) = true := by
  unfold pdC at h
  by_cases q : inB w (nI 0) (nI 1) = false
  · rw [if_pos q] at h; exact absurd h (by decide)
  · rw [if_neg q] at h
    by_cases q2 : inB i (nI 0) (S.1 2 - nI 1) = false
    · rw [if_pos q2] at h; exact absurd h (by decide)
    · exact ⟨Bool.of_not_eq_false q, Bool.of_not_eq_false q2⟩
set_option maxRecDepth 100000 in
set_option maxHeartbeats 4000000 in
theorem c_X1_pushed (l : Launch) {loc : Nat → Nat} {n : Nat} {g : Gc} (hn : n ≤ 40) {S0 : MS} {q : Nat} (hq : q ≤ 4) (hpc : S0.1 2 = nI q) (i w : Int32) : MMi l yX1_pushed cX1_pushed 3 (some .int) (rmL 6 0 0) loc n g S0 [.int i, .int w] (fun v S' => S' = sI S0 0 (pdC S0 i w) ∧ v = (if pdC S0 i w = 0 then (if w = 0 then S0.2.1 4 (ixN i) else S0.2.1 5 (ixN i)) else nI 0)) := by
  refine o_enter (by decide) (Nat.le_of_ble_eq_true rfl) ?_
  intro p e s m below meth c ls S hr hlocks hC hl
  have tail33 : ∀ (H : Heap) (locs : List Loc) (ls : Array Slot), CM loc n g (S0) s H locs → lv_has ls 3 [(0, .ref (loc 0)), (1, .int i), (2, .int w)] → W p l e (rmL 6 0 0) s m ([.ref (loc 0), .int i, .int w] : List Value).toArray below meth c H locs 0 0 (MQ below (va_Qi (fun v S' => S' = sI S0 0 (pdC S0 i w) ∧ v = (if pdC S0 i w = 0 then (if w = 0 then S0.2.1 4 (ixN i) else S0.2.1 5 (ixN i)) else nI 0)) (fun S' t => HM loc n g S' t.heap) (ZA loc 10)) ([.ref (loc 0), .int i, .int w] : List Value).toArray s (rmL 6 0 0).cells (rmL 6 0 0).slots (ZA loc 10)) (F0 m 33 ls [.int (pdC S0 i w), .ref (loc 0)]) := by
    intro  H locs ls hC hl
    refine o_calli oiM S hC (c_X1_isGood l hn _) cw_RX1_X1_isGood ⟨rfl, rfl, by decide, by decide⟩ rfl hl.1 rfl (Nat.le_of_ble_eq_true rfl) dX1_pushed_33 ⟨(Nat.le_of_ble_eq_true rfl), (Nat.le_of_ble_eq_true rfl)⟩ (fun r33 S1 H locs hp hC1 => ?_)
    obtain ⟨e1, hp⟩ := hp
    rw [e1] at hC1; replace hC := hC1
    subst hp
    refine b_if_ne (tgt := 41) S.1 S.2.1 dX1_pushed_36 (by decide) (fun c36 => ?_) (fun c36 => ?_)
    · have c38 : pdC S0 i w = 0 := by simpa using c36
      obtain ⟨h9, h10⟩ := pdC_0 c38
      rw [hpc, inB_inI (by omega)] at h10
      obtain ⟨j, hj, e0⟩ := inI_t (by omega) h10
      have ei : ixN i = j := by rw [e0]; exact ixN_nI (by omega)
      rw [e0] at hl
      refine lv_iload_n S.1 S.2.1 dX1_pushed_41 rfl (lv_at hl 2 rfl) ?_
      refine lv_if_ne (tgt := 54) S.1 S.2.1 dX1_pushed_42 (by decide) (fun c42 => ?_) (fun c42 => ?_)
      · skip
        refine lv_aload_n S.1 S.2.1 dX1_pushed_54 rfl (lv_at hl 0 rfl) ?_
        refine m_get_pushedSecond S hC dX1_pushed_55 ?_
        refine lv_iload_n S.1 S.2.1 dX1_pushed_58 rfl (lv_at hl 1 rfl) ?_
        refine m_ild S hC 5 (by decide) (show j < 4 by omega) dX1_pushed_59 ?_
        exact o_iret S hr hlocks hC ⟨rfl, by rw [if_pos c38, if_neg c42, ei]; rfl⟩ rfl dX1_pushed_60 (Nat.le_of_ble_eq_true rfl) (Nat.le_of_ble_eq_true rfl)
      · skip
        refine lv_aload_n S.1 S.2.1 dX1_pushed_45 rfl (lv_at hl 0 rfl) ?_
        refine m_get_pushedFirst S hC dX1_pushed_46 ?_
        refine lv_iload_n S.1 S.2.1 dX1_pushed_49 rfl (lv_at hl 1 rfl) ?_
        refine m_ild S hC 4 (by decide) (show j < 4 by omega) dX1_pushed_50 ?_
        refine lv_goto (tgt := 60) S.1 S.2.1 dX1_pushed_51 (by decide) ?_
        exact o_iret S hr hlocks hC ⟨rfl, by rw [if_pos c38, if_pos c42, ei]; rfl⟩ rfl dX1_pushed_60 (Nat.le_of_ble_eq_true rfl) (Nat.le_of_ble_eq_true rfl)
    · have c38 : ¬ pdC S0 i w = 0 := by simpa using c36
      refine lv_iconst (v := nI 0) S.1 S.2.1 dX1_pushed_39 rfl ?_
      exact o_iret S hr hlocks hC ⟨rfl, by rw [if_neg c38]⟩ rfl dX1_pushed_40 (Nat.le_of_ble_eq_true rfl) (Nat.le_of_ble_eq_true rfl)
  refine lv_aload_n S.1 S.2.1 dX1_pushed_0 rfl (lv_at hl 0 rfl) ?_
  refine lv_iload_n S.1 S.2.1 dX1_pushed_1 rfl (lv_at hl 2 rfl) ?_
  refine lv_iconst (v := nI 0) S.1 S.2.1 dX1_pushed_2 rfl ?_
  refine lv_iconst (v := nI 1) S.1 S.2.1 dX1_pushed_3 rfl ?_
  refine s_calli S (c_X1_isIn l _ _ _) cw_RX1_X1_isIn ⟨rfl, rfl, by decide, by decide⟩ rfl hl.1 rfl (Nat.le_of_ble_eq_true rfl) dX1_pushed_4 ⟨(Nat.le_of_ble_eq_true rfl), (Nat.le_of_ble_eq_true rfl)⟩ (fun r4 hp => ?_)
  subst hp
  refine b_if_ne (tgt := 14) S.1 S.2.1 dX1_pushed_7 (by decide) (fun c7 => ?_) (fun c7 => ?_)
  · skip
    refine lv_iload_n S.1 S.2.1 dX1_pushed_14 rfl (lv_at hl 1 rfl) ?_
    refine lv_iconst (v := nI 0) S.1 S.2.1 dX1_pushed_15 rfl ?_
    refine lv_aload_n S.1 S.2.1 dX1_pushed_16 rfl (lv_at hl 0 rfl) ?_
    refine m_get_pushes S hC dX1_pushed_17 ?_
    refine lv_iconst (v := nI 1) S.1 S.2.1 dX1_pushed_20 rfl ?_
    refine lv_isub S.1 S.2.1 dX1_pushed_21 ?_
    refine s_calli S (c_X1_isIn l _ _ _) cw_RX1_X1_isIn ⟨rfl, rfl, by decide, by decide⟩ rfl hl.1 rfl (Nat.le_of_ble_eq_true rfl) dX1_pushed_22 ⟨(Nat.le_of_ble_eq_true rfl), (Nat.le_of_ble_eq_true rfl)⟩ (fun r22 hp => ?_)
    subst hp
    refine b_if_ne (tgt := 32) S.1 S.2.1 dX1_pushed_25 (by decide) (fun c25 => ?_) (fun c25 => ?_)
    · skip
      refine lv_iconst (v := pdC S0 i w) S.1 S.2.1 dX1_pushed_32 (by rw [show pdC S0 i w = nI 0 by rw [pdC, if_neg (by rw [c7]; decide), if_neg (by rw [c25]; decide)]]; rfl) ?_
      exact tail33 _ _ _ hC (lv_sub hl [0, 1, 2] rfl)
    · skip
      refine lv_iconst (v := pdC S0 i w) S.1 S.2.1 dX1_pushed_28 (by rw [show pdC S0 i w = nI 2 by rw [pdC, if_neg (by rw [c7]; decide), if_pos c25]]; rfl) ?_
      refine lv_goto (tgt := 33) S.1 S.2.1 dX1_pushed_29 (by decide) ?_
      exact tail33 _ _ _ hC (lv_sub hl [0, 1, 2] rfl)
  · skip
    refine lv_iconst (v := pdC S0 i w) S.1 S.2.1 dX1_pushed_10 (by rw [show pdC S0 i w = nI 1 by rw [pdC, if_pos c7]]; rfl) ?_
    refine lv_goto (tgt := 33) S.1 S.2.1 dX1_pushed_11 (by decide) ?_
    exact tail33 _ _ _ hC (lv_sub hl [0, 1, 2] rfl)
def tC (n R : Nat) (x a b : Int32) : Int32 := if inI x (nI R) = false ∨ inI a (nI n) = false ∨ inI b (nI n) = false then nI 1 else nI 0
def t2C (n R : Nat) (x a : Int32) : Int32 := if inI x (nI R) = false ∨ inI a (nI n) = false then nI 1 else nI 0
theorem tC_0 {n R : Nat} {x a b : Int32} (h : tC n R x a b = 0) : inI x (nI R) = true ∧ inI a (nI n) = true ∧ inI b (nI n) = true := by
  unfold tC at h
  by_cases q : inI x (nI R) = false ∨ inI a (nI n) = false ∨ inI b (nI n) = false
  · rw [if_pos q] at h; exact absurd h (by decide)
  · exact ⟨Bool.of_not_eq_false fun z => q (Or.inl z), Bool.of_not_eq_false fun z => q (Or.inr (Or.inl z)), Bool.of_not_eq_false fun z => q (Or.inr (Or.inr z))⟩
theorem t2C_0 {n R : Nat} {x a : Int32} (h : t2C n R x a = 0) : inI x (nI R) = true ∧ inI a (nI n) = true := by
  unfold t2C at h
  by_cases q : inI x (nI R) = false ∨ inI a (nI n) = false
  · rw [if_pos q] at h; exact absurd h (by decide)
  · exact ⟨Bool.of_not_eq_false fun z => q (Or.inl z), Bool.of_not_eq_false fun z => q (Or.inr z)⟩
set_option maxRecDepth 100000 in
set_option maxHeartbeats 4000000 in
theorem c_X1_has (l : Launch) {loc : Nat → Nat} {n : Nat} {g : Gc} (hn : n ≤ 40) {S0 : MS} {R : Nat} (hR : R ≤ 12) (hrel : S0.1 1 = nI R) (hw : ∀ q, q < R → ¬ S0.2.1 1 q < nI 10 → wfM S0 q) (x a b : Int32) : MMi l yX1_has cX1_has 4 (some .boolean) (rmL 6 0 0) loc n g S0 [.int x, .int a, .int b] (fun v S' => S' = (if tC n R x a b = 0 then lrF (sI S0 0 (tC n R x a b)) n (ixN x + 1) else sI S0 0 (tC n R x a b)) ∧ v = (if tC n R x a b = 0 then bI (pM S' (ixN x) (ixN a) (ixN b)) else nI 0)) := by
  refine o_enter (by decide) (Nat.le_of_ble_eq_true rfl) ?_
  intro p e s m below meth c ls S hr hlocks hC hl
  have tail30 : ∀ (H : Heap) (locs : List Loc) (ls : Array Slot), CM loc n g (S0) s H locs → lv_has ls 4 [(0, .ref (loc 0)), (1, .int x), (2, .int a), (3, .int b)] → W p l e (rmL 6 0 0) s m ([.ref (loc 0), .int x, .int a, .int b] : List Value).toArray below meth c H locs 0 0 (MQ below (va_Qi (fun v S' => S' = (if tC n R x a b = 0 then lrF (sI S0 0 (tC n R x a b)) n (ixN x + 1) else sI S0 0 (tC n R x a b)) ∧ v = (if tC n R x a b = 0 then bI (pM S' (ixN x) (ixN a) (ixN b)) else nI 0)) (fun S' t => HM loc n g S' t.heap) (ZA loc 10)) ([.ref (loc 0), .int x, .int a, .int b] : List Value).toArray s (rmL 6 0 0).cells (rmL 6 0 0).slots (ZA loc 10)) (F0 m 30 ls [.int (tC n R x a b), .ref (loc 0)]) := by
    intro  H locs ls hC hl
    refine o_calli oiM S hC (c_X1_isGood l hn _) cw_RX1_X1_isGood ⟨rfl, rfl, by decide, by decide⟩ rfl hl.1 rfl (Nat.le_of_ble_eq_true rfl) dX1_has_30 ⟨(Nat.le_of_ble_eq_true rfl), (Nat.le_of_ble_eq_true rfl)⟩ (fun r30 S1 H locs hp hC1 => ?_)
    obtain ⟨e1, hp⟩ := hp
    rw [e1] at hC1; replace hC := hC1
    subst hp
    refine b_if_ne (tgt := 38) S.1 S.2.1 dX1_has_33 (by decide) (fun c33 => ?_) (fun c33 => ?_)
    · have c38 : tC n R x a b = 0 := by simpa using c33
      obtain ⟨h9, h10, h11⟩ := tC_0 c38
      obtain ⟨r, hrR, e0x⟩ := inI_t (by omega) h9
      obtain ⟨a', ha, e0a⟩ := inI_t (by omega) h10
      obtain ⟨b', hb, e0b⟩ := inI_t (by omega) h11
      have er : ixN x = r := by rw [e0x]; exact ixN_nI (by omega)
      have ea : ixN a = a' := by rw [e0a]; exact ixN_nI (by omega)
      have eb : ixN b = b' := by rw [e0b]; exact ixN_nI (by omega)
      have hr12 : r < 12 := by omega
      rw [e0x, e0a, e0b] at hl
      refine lv_aload_n S.1 S.2.1 dX1_has_38 rfl (lv_at hl 0 rfl) ?_
      refine lv_iload_n S.1 S.2.1 dX1_has_39 rfl (lv_at hl 1 rfl) ?_
      refine o_callv oiM S hC (c_X1_learn l hn hr12 (fun q hq => hw q (by omega))) cw_RX1_X1_learn ⟨rfl, rfl, by decide, by decide⟩ rfl hl.1 rfl (Nat.le_of_ble_eq_true rfl) dX1_has_40 ⟨(Nat.le_of_ble_eq_true rfl), (Nat.le_of_ble_eq_true rfl)⟩ (fun S1 H locs hp hC1 => ?_)
      have e1 := hp
      rw [e1] at hC1; replace hC := hC1
      refine lv_aload_n S.1 S.2.1 dX1_has_43 rfl (lv_at hl 0 rfl) ?_
      refine m_get_pairs S hC dX1_has_44 ?_
      refine lv_iload_n S.1 S.2.1 dX1_has_47 rfl (lv_at hl 1 rfl) ?_
      refine lv_iload_n S.1 S.2.1 dX1_has_48 rfl (lv_at hl 2 rfl) ?_
      refine lv_iload_n S.1 S.2.1 dX1_has_49 rfl (lv_at hl 3 rfl) ?_
      refine s_calli S (c_X1_at l r a' b') cw_RX1_X1_at ⟨rfl, rfl, by decide, by decide⟩ rfl hl.1 rfl (Nat.le_of_ble_eq_true rfl) dX1_has_50 ⟨(Nat.le_of_ble_eq_true rfl), (Nat.le_of_ble_eq_true rfl)⟩ (fun r50 hp => ?_)
      subst hp
      refine m_zld S hC 0 (by decide) (ixP_lt hr12 (a := a') (b := b') (by omega) (by omega)) dX1_has_53 ?_
      exact o_iret S hr hlocks hC ⟨by rw [if_pos c38, er], by rw [if_pos c38, er, ea, eb]; rfl⟩ (bI_nar _) dX1_has_54 (Nat.le_of_ble_eq_true rfl) (Nat.le_of_ble_eq_true rfl)
    · have c38 : ¬ tC n R x a b = 0 := by simpa using c33
      refine lv_iconst (v := nI 0) S.1 S.2.1 dX1_has_36 rfl ?_
      exact o_iret S hr hlocks hC ⟨by rw [if_neg c38], by rw [if_neg c38]⟩ rfl dX1_has_37 (Nat.le_of_ble_eq_true rfl) (Nat.le_of_ble_eq_true rfl)
  refine lv_aload_n S.1 S.2.1 dX1_has_0 rfl (lv_at hl 0 rfl) ?_
  refine lv_aload_n S.1 S.2.1 dX1_has_1 rfl (lv_at hl 0 rfl) ?_
  refine lv_iload_n S.1 S.2.1 dX1_has_2 rfl (lv_at hl 1 rfl) ?_
  refine o_calli oiM S hC (c_X1_isRelation l hn hR hrel x) cw_RX1_X1_isRelation ⟨rfl, rfl, by decide, by decide⟩ rfl hl.1 rfl (Nat.le_of_ble_eq_true rfl) dX1_has_3 ⟨(Nat.le_of_ble_eq_true rfl), (Nat.le_of_ble_eq_true rfl)⟩ (fun r3 S1 H locs hp hC1 => ?_)
  obtain ⟨e1, hp⟩ := hp
  rw [e1] at hC1; replace hC := hC1
  subst hp
  refine b_if_eq (tgt := 25) S.1 S.2.1 dX1_has_6 (by decide) (fun c6 => ?_) (fun c6 => ?_)
  · skip
    refine lv_iconst (v := tC n R x a b) S.1 S.2.1 dX1_has_25 (by rw [show tC n R x a b = nI 1 by rw [tC, if_pos (Or.inl c6)]]; rfl) ?_
    refine lv_goto (tgt := 30) S.1 S.2.1 dX1_has_26 (by decide) ?_
    exact tail30 _ _ _ hC (lv_sub hl [0, 1, 2, 3] rfl)
  · skip
    refine lv_aload_n S.1 S.2.1 dX1_has_9 rfl (lv_at hl 0 rfl) ?_
    refine lv_iload_n S.1 S.2.1 dX1_has_10 rfl (lv_at hl 2 rfl) ?_
    refine o_calli oiM S hC (c_X1_isThing l hn a) cw_RX1_X1_isThing ⟨rfl, rfl, by decide, by decide⟩ rfl hl.1 rfl (Nat.le_of_ble_eq_true rfl) dX1_has_11 ⟨(Nat.le_of_ble_eq_true rfl), (Nat.le_of_ble_eq_true rfl)⟩ (fun r11 S1 H locs hp hC1 => ?_)
    obtain ⟨e1, hp⟩ := hp
    rw [e1] at hC1; replace hC := hC1
    subst hp
    refine b_if_eq (tgt := 25) S.1 S.2.1 dX1_has_14 (by decide) (fun c14 => ?_) (fun c14 => ?_)
    · skip
      refine lv_iconst (v := tC n R x a b) S.1 S.2.1 dX1_has_25 (by rw [show tC n R x a b = nI 1 by rw [tC, if_pos (Or.inr (Or.inl c14))]]; rfl) ?_
      refine lv_goto (tgt := 30) S.1 S.2.1 dX1_has_26 (by decide) ?_
      exact tail30 _ _ _ hC (lv_sub hl [0, 1, 2, 3] rfl)
    · skip
      refine lv_aload_n S.1 S.2.1 dX1_has_17 rfl (lv_at hl 0 rfl) ?_
      refine lv_iload_n S.1 S.2.1 dX1_has_18 rfl (lv_at hl 3 rfl) ?_
      refine o_calli oiM S hC (c_X1_isThing l hn b) cw_RX1_X1_isThing ⟨rfl, rfl, by decide, by decide⟩ rfl hl.1 rfl (Nat.le_of_ble_eq_true rfl) dX1_has_19 ⟨(Nat.le_of_ble_eq_true rfl), (Nat.le_of_ble_eq_true rfl)⟩ (fun r19 S1 H locs hp hC1 => ?_)
      obtain ⟨e1, hp⟩ := hp
      rw [e1] at hC1; replace hC := hC1
      subst hp
      refine b_if_ne (tgt := 29) S.1 S.2.1 dX1_has_22 (by decide) (fun c22 => ?_) (fun c22 => ?_)
      · skip
        refine lv_iconst (v := tC n R x a b) S.1 S.2.1 dX1_has_29 (by rw [show tC n R x a b = nI 0 by rw [tC, if_neg (by rw [c6, c14, c22]; simp)]]; rfl) ?_
        exact tail30 _ _ _ hC (lv_sub hl [0, 1, 2, 3] rfl)
      · skip
        refine lv_iconst (v := tC n R x a b) S.1 S.2.1 dX1_has_25 (by rw [show tC n R x a b = nI 1 by rw [tC, if_pos (Or.inr (Or.inr c22))]]; rfl) ?_
        refine lv_goto (tgt := 30) S.1 S.2.1 dX1_has_26 (by decide) ?_
        exact tail30 _ _ _ hC (lv_sub hl [0, 1, 2, 3] rfl)
def idB (r t x : Nat) (v : Bool) : Nat := if v then ixP r t x else ixP r x t
def bsG (S : MS) (r t : Nat) (i0 : Int32) (v : Bool) : Nat → Nat → Nat → Int32
  | 0, _, _ => -1
  | k + 1, x, c => if S.2.2 0 (idB r t x v) then (if nI c = i0 then nI x else bsG S r t i0 v k (x + 1) (c + 1)) else bsG S r t i0 v k (x + 1) c
set_option maxRecDepth 100000 in
set_option maxHeartbeats 4000000 in
theorem c_X1_beside (l : Launch) {loc : Nat → Nat} {n : Nat} {g : Gc} (hn : n ≤ 40) {S0 : MS} {r t : Nat} (hr12 : r < 12) (ht : t < n) (hw : ∀ q, q ≤ r → ¬ S0.2.1 1 q < nI 10 → wfM S0 q) (i0 : Int32) (v : Bool) : MMi l yX1_beside cX1_beside 7 (some .int) (rmL 5 0 0) loc n g S0 [.int (nI r), .int (nI t), .int i0, .int (bI v)] (fun q S' => S' = lrF S0 n (r + 1) ∧ q = bsG S' r t i0 v n 0 0) := by
  refine o_enter (by decide) (Nat.le_of_ble_eq_true rfl) ?_
  intro p e s m below meth c ls S hr hlocks hC hl
  refine lv_aload_n S.1 S.2.1 dX1_beside_0 rfl (lv_at hl 0 rfl) ?_
  refine lv_iload_n S.1 S.2.1 dX1_beside_1 rfl (lv_at hl 1 rfl) ?_
  refine o_callv oiM S hC (c_X1_learn l hn hr12 hw) cw_RX1_X1_learn ⟨rfl, rfl, by decide, by decide⟩ rfl hl.1 rfl (Nat.le_of_ble_eq_true rfl) dX1_beside_2 ⟨(Nat.le_of_ble_eq_true rfl), (Nat.le_of_ble_eq_true rfl)⟩ (fun S1 H locs hp hC1 => ?_)
  have e1 := hp
  rw [e1] at hC1; replace hC := hC1
  refine lv_iconst (v := nI 0) S.1 S.2.1 dX1_beside_5 rfl ?_
  refine lv_istore S.1 S.2.1 dX1_beside_6 hl (by decide) rfl (fun ls hl => ?_)
  refine lv_iconst (v := nI 0) S.1 S.2.1 dX1_beside_8 rfl ?_
  refine lv_istore S.1 S.2.1 dX1_beside_9 hl (by decide) rfl (fun ls hl => ?_)
  have loop : ∀ (k i : Nat), n - i < k → i ≤ n → ∀ (c0 : Nat) (hT : bsG (lrF S0 n (r + 1)) r t i0 v n 0 0 = bsG (lrF S0 n (r + 1)) r t i0 v (n - i) i c0), ∀ (H : Heap) (locs : List Loc) (ls : Array Slot), CM loc n g (lrF S0 n (r + 1)) s H locs → lv_has ls 7 [(0, .ref (loc 0)), (1, .int (nI r)), (2, .int (nI t)), (3, .int i0), (4, .int (bI v)), (5, .int (nI c0)), (6, .int (nI i))] → W p l e (rmL 5 0 0) s m ([.ref (loc 0), .int (nI r), .int (nI t), .int i0, .int (bI v)] : List Value).toArray below meth c H locs 0 0 (MQ below (va_Qi (fun q S' => S' = lrF S0 n (r + 1) ∧ q = bsG S' r t i0 v n 0 0) (fun S' t => HM loc n g S' t.heap) (ZA loc 10)) ([.ref (loc 0), .int (nI r), .int (nI t), .int i0, .int (bI v)] : List Value).toArray s (rmL 5 0 0).cells (rmL 5 0 0).slots (ZA loc 10)) (F0 m 11 ls []) := by
    intro k
    induction k with
    | zero => intro i hk; omega
    | succ k ih =>
      intro i hk hi c0 hT H locs ls hC hl
      refine lv_iload S.1 S.2.1 dX1_beside_11 (lv_at hl 6 rfl) ?_
      refine lv_aload_n S.1 S.2.1 dX1_beside_13 rfl (lv_at hl 0 rfl) ?_
      refine m_get_things S hC dX1_beside_14 ?_
      refine n_icmp_ge (tgt := 68) S.1 S.2.1 dX1_beside_17 (by decide) (by omega) (by omega) (fun c17 => ?_) (fun c17 => ?_)
      · skip
        refine lv_iconst (v := -1) S.1 S.2.1 dX1_beside_68 rfl ?_
        exact o_iret S hr hlocks hC ⟨rfl, by rw [hT, show n - i = 0 by omega, bsG]⟩ rfl dX1_beside_69 (Nat.le_of_ble_eq_true rfl) (Nat.le_of_ble_eq_true rfl)
      · skip
        refine lv_aload_n S.1 S.2.1 dX1_beside_20 rfl (lv_at hl 0 rfl) ?_
        refine m_get_pairs S hC dX1_beside_21 ?_
        refine lv_iload S.1 S.2.1 dX1_beside_24 (lv_at hl 4 rfl) ?_
        refine b_if_eq (tgt := 39) S.1 S.2.1 dX1_beside_26 (by decide) (fun c26 => ?_) (fun c26 => ?_)
        · skip
          refine lv_iload_n S.1 S.2.1 dX1_beside_39 rfl (lv_at hl 1 rfl) ?_
          refine lv_iload S.1 S.2.1 dX1_beside_40 (lv_at hl 6 rfl) ?_
          refine lv_iload_n S.1 S.2.1 dX1_beside_42 rfl (lv_at hl 2 rfl) ?_
          refine s_calli S (c_X1_at l r i t) cw_RX1_X1_at ⟨rfl, rfl, by decide, by decide⟩ rfl hl.1 rfl (Nat.le_of_ble_eq_true rfl) dX1_beside_43 ⟨(Nat.le_of_ble_eq_true rfl), (Nat.le_of_ble_eq_true rfl)⟩ (fun r43 hp => ?_)
          subst hp
          refine m_zld S hC 0 (by decide) (ixP_lt hr12 (a := i) (b := t) (by omega) (by omega)) dX1_beside_46 ?_
          refine b_if_eq (tgt := 62) S.1 S.2.1 dX1_beside_47 (by decide) (fun c47 => ?_) (fun c47 => ?_)
          · skip
            refine lv_iinc (k := 6) S.1 S.2.1 dX1_beside_62 hl rfl (n_inc _) (by decide) rfl (fun ls hl => ?_)
            refine lv_goto (tgt := 11) S.1 S.2.1 dX1_beside_65 (by decide) ?_
            exact ih (i + 1) (by omega) (by omega) c0 (by rw [hT, show n - i = (n - (i + 1)) + 1 by omega, bsG, if_neg (by rw [idB, if_neg (by rw [c26]; decide), c47]; decide)]) _ _ _ hC (lv_sub hl [1, 2, 3, 4, 5, 6, 0] rfl)
          · skip
            refine lv_iload S.1 S.2.1 dX1_beside_50 (lv_at hl 5 rfl) ?_
            refine lv_iload_n S.1 S.2.1 dX1_beside_52 rfl (lv_at hl 3 rfl) ?_
            refine lv_icmp_ne (tgt := 59) S.1 S.2.1 dX1_beside_53 (by decide) (fun c53 => ?_) (fun c53 => ?_)
            · skip
              refine lv_iinc (k := 5) S.1 S.2.1 dX1_beside_59 hl rfl (n_inc _) (by decide) rfl (fun ls hl => ?_)
              refine lv_iinc (k := 6) S.1 S.2.1 dX1_beside_62 hl rfl (n_inc _) (by decide) rfl (fun ls hl => ?_)
              refine lv_goto (tgt := 11) S.1 S.2.1 dX1_beside_65 (by decide) ?_
              exact ih (i + 1) (by omega) (by omega) (c0 + 1) (by rw [hT, show n - i = (n - (i + 1)) + 1 by omega, bsG, if_pos (by rw [idB, if_neg (by rw [c26]; decide), c47]), if_neg c53]) _ _ _ hC (lv_sub hl [2, 3, 4, 5, 6, 1, 0] rfl)
            · skip
              refine lv_iload S.1 S.2.1 dX1_beside_56 (lv_at hl 6 rfl) ?_
              exact o_iret S hr hlocks hC ⟨rfl, by rw [hT, show n - i = (n - (i + 1)) + 1 by omega, bsG, if_pos (by rw [idB, if_neg (by rw [c26]; decide), c47]), if_pos c53]⟩ rfl dX1_beside_58 (Nat.le_of_ble_eq_true rfl) (Nat.le_of_ble_eq_true rfl)
        · skip
          refine lv_iload_n S.1 S.2.1 dX1_beside_29 rfl (lv_at hl 1 rfl) ?_
          refine lv_iload_n S.1 S.2.1 dX1_beside_30 rfl (lv_at hl 2 rfl) ?_
          refine lv_iload S.1 S.2.1 dX1_beside_31 (lv_at hl 6 rfl) ?_
          refine s_calli S (c_X1_at l r t i) cw_RX1_X1_at ⟨rfl, rfl, by decide, by decide⟩ rfl hl.1 rfl (Nat.le_of_ble_eq_true rfl) dX1_beside_33 ⟨(Nat.le_of_ble_eq_true rfl), (Nat.le_of_ble_eq_true rfl)⟩ (fun r33 hp => ?_)
          subst hp
          refine lv_goto (tgt := 46) S.1 S.2.1 dX1_beside_36 (by decide) ?_
          refine m_zld S hC 0 (by decide) (ixP_lt hr12 (a := t) (b := i) (by omega) (by omega)) dX1_beside_46 ?_
          refine b_if_eq (tgt := 62) S.1 S.2.1 dX1_beside_47 (by decide) (fun c47 => ?_) (fun c47 => ?_)
          · skip
            refine lv_iinc (k := 6) S.1 S.2.1 dX1_beside_62 hl rfl (n_inc _) (by decide) rfl (fun ls hl => ?_)
            refine lv_goto (tgt := 11) S.1 S.2.1 dX1_beside_65 (by decide) ?_
            exact ih (i + 1) (by omega) (by omega) c0 (by rw [hT, show n - i = (n - (i + 1)) + 1 by omega, bsG, if_neg (by rw [idB, if_pos c26, c47]; decide)]) _ _ _ hC (lv_sub hl [1, 2, 3, 4, 5, 6, 0] rfl)
          · skip
            refine lv_iload S.1 S.2.1 dX1_beside_50 (lv_at hl 5 rfl) ?_
            refine lv_iload_n S.1 S.2.1 dX1_beside_52 rfl (lv_at hl 3 rfl) ?_
            refine lv_icmp_ne (tgt := 59) S.1 S.2.1 dX1_beside_53 (by decide) (fun c53 => ?_) (fun c53 => ?_)
            · skip
              refine lv_iinc (k := 5) S.1 S.2.1 dX1_beside_59 hl rfl (n_inc _) (by decide) rfl (fun ls hl => ?_)
              refine lv_iinc (k := 6) S.1 S.2.1 dX1_beside_62 hl rfl (n_inc _) (by decide) rfl (fun ls hl => ?_)
              refine lv_goto (tgt := 11) S.1 S.2.1 dX1_beside_65 (by decide) ?_
              exact ih (i + 1) (by omega) (by omega) (c0 + 1) (by rw [hT, show n - i = (n - (i + 1)) + 1 by omega, bsG, if_pos (by rw [idB, if_pos c26, c47]), if_neg c53]) _ _ _ hC (lv_sub hl [2, 3, 4, 5, 6, 1, 0] rfl)
            · skip
              refine lv_iload S.1 S.2.1 dX1_beside_56 (lv_at hl 6 rfl) ?_
              exact o_iret S hr hlocks hC ⟨rfl, by rw [hT, show n - i = (n - (i + 1)) + 1 by omega, bsG, if_pos (by rw [idB, if_pos c26, c47]), if_pos c53]⟩ rfl dX1_beside_58 (Nat.le_of_ble_eq_true rfl) (Nat.le_of_ble_eq_true rfl)
  exact loop (n + 1) 0 (by omega) (by omega) 0 rfl _ _ _ hC (lv_sub hl [2, 3, 4, 5, 6, 1, 0] rfl)
