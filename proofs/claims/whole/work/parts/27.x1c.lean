def thM (S : MS) (x y a b : Nat) : Nat → Bool
  | 0 => false
  | k + 1 => thM S x y a b k || (pM S x a k && pM S y k b)
def wV (S : MS) (n : Nat) (f : Int32) (x y a b : Nat) : Bool :=
  if f = nI 10 then pM S x b a else if f = nI 11 then !pM S x a b else if f = nI 12 then pM S x a b && pM S y a b else if f = nI 13 then pM S x a b || pM S y a b
  else if f = nI 14 then thM S x y a b n else pM S x a b
def wB (S : MS) (n r : Nat) (f : Int32) (x y a : Nat) : Nat → MS
  | 0 => S
  | k + 1 => sW (wB S n r f x y a k) 0 (ixP r a k) (wV (wB S n r f x y a k) n f x y a k)
def wA (S : MS) (n r : Nat) (f : Int32) (x y : Nat) : Nat → MS
  | 0 => S
  | k + 1 => wB (wA S n r f x y k) n r f x y k n
def workM (S : MS) (n r : Nat) : MS :=
  if S.2.1 1 r ≤ nI 14 then wA S n r (S.2.1 1 r) (ixN (S.2.1 2 r)) (ixN (S.2.1 3 r)) n else fa3 (wA S n r (S.2.1 1 r) (ixN (S.2.1 2 r)) (ixN (S.2.1 3 r)) n) n r n
theorem wB_1 (S : MS) (n r : Nat) (f : Int32) (x y a : Nat) : ∀ k, (wB S n r f x y a k).1 = S.1 ∧ (wB S n r f x y a k).2.1 = S.2.1
  | 0 => ⟨rfl, rfl⟩
  | k + 1 => wB_1 S n r f x y a k
theorem wA_1 (S : MS) (n r : Nat) (f : Int32) (x y : Nat) : ∀ k, (wA S n r f x y k).1 = S.1 ∧ (wA S n r f x y k).2.1 = S.2.1
  | 0 => ⟨rfl, rfl⟩
  | k + 1 => ⟨(wB_1 _ n r f x y k n).1.trans (wA_1 S n r f x y k).1, (wB_1 _ n r f x y k n).2.trans (wA_1 S n r f x y k).2⟩
theorem faG_1 (r u a : Nat) : ∀ k b (P : MS), (faG r u a k b P).1 = P.1 ∧ (faG r u a k b P).2.1 = P.2.1
  | 0, _, _ => ⟨rfl, rfl⟩
  | k + 1, b, P => by
    unfold faG
    split
    · exact faG_1 r u a k (b + 1) _
    · exact ⟨rfl, rfl⟩
theorem fa2_1 (S : MS) (n r u : Nat) : ∀ k, (fa2 S n r u k).1 = S.1 ∧ (fa2 S n r u k).2.1 = S.2.1
  | 0 => ⟨rfl, rfl⟩
  | k + 1 => ⟨(faG_1 r u k n 0 _).1.trans (fa2_1 S n r u k).1, (faG_1 r u k n 0 _).2.trans (fa2_1 S n r u k).2⟩
theorem fa3_1 (S : MS) (n r : Nat) : ∀ k, (fa3 S n r k).1 = S.1 ∧ (fa3 S n r k).2.1 = S.2.1
  | 0 => ⟨rfl, rfl⟩
  | k + 1 => ⟨(fa2_1 _ n r k n).1.trans (fa3_1 S n r k).1, (fa2_1 _ n r k n).2.trans (fa3_1 S n r k).2⟩
theorem workM_1 (S : MS) (n r : Nat) : (workM S n r).1 = S.1 ∧ (workM S n r).2.1 = S.2.1 := by
  unfold workM
  split
  · exact wA_1 _ _ _ _ _ _ _
  · exact ⟨(fa3_1 _ _ _ _).1.trans (wA_1 _ _ _ _ _ _ _).1, (fa3_1 _ _ _ _).2.trans (wA_1 _ _ _ _ _ _ _).2⟩
def lrF (S : MS) (n : Nat) : Nat → MS
  | 0 => S
  | k + 1 => if (lrF S n k).2.1 1 k < nI 10 then lrF S n k else workM (lrF S n k) n k
theorem lrF_1 (S : MS) (n : Nat) : ∀ k, (lrF S n k).1 = S.1 ∧ (lrF S n k).2.1 = S.2.1
  | 0 => ⟨rfl, rfl⟩
  | k + 1 => by
    have ih := lrF_1 S n k
    unfold lrF
    split
    · exact ih
    · exact ⟨(workM_1 _ n k).1.trans ih.1, (workM_1 _ n k).2.trans ih.2⟩
def wfM (S : MS) (q : Nat) : Prop := ∃ cn j, cn < 6 ∧ S.2.1 1 q = nI (10 + cn) ∧ j < 12 ∧ S.2.1 2 q = nI j ∧ (2 ≤ cn → cn ≤ 4 → ∃ t, t < 12 ∧ S.2.1 3 q = nI t)
set_option maxRecDepth 100000 in
set_option maxHeartbeats 4000000 in
theorem c_X1_work (l : Launch) {loc : Nat → Nat} {n : Nat} {g : Gc} (hn : n ≤ 40) {S0 : MS} {r cn j : Nat} (hr12 : r < 12) (hcn : cn < 6) (hf : S0.2.1 1 r = nI (10 + cn)) (hj : j < 12) (h1 : S0.2.1 2 r = nI j) (h2 : 2 ≤ cn → cn ≤ 4 → ∃ t, t < 12 ∧ S0.2.1 3 r = nI t) : MMv l yX1_work cX1_work 8 none (rmL 3 0 0) loc n g S0 [.int (nI r)] (fun S' => S' = workM S0 n r) := by
  refine o_enter (by decide) (Nat.le_of_ble_eq_true rfl) ?_
  intro p e s m below meth c ls S hr hlocks hC hl
  refine lv_aload_n S.1 S.2.1 dX1_work_0 rfl (lv_at hl 0 rfl) ?_
  refine m_get_one S hC dX1_work_1 ?_
  refine lv_iload_n S.1 S.2.1 dX1_work_4 rfl (lv_at hl 1 rfl) ?_
  refine m_ild S hC 2 (by decide) hr12 dX1_work_5 ?_
  rw [h1]
  refine lv_istore_n S.1 S.2.1 dX1_work_6 rfl hl (by decide) rfl (fun ls hl => ?_)
  refine lv_aload_n S.1 S.2.1 dX1_work_7 rfl (lv_at hl 1 rfl) ?_
  refine m_get_two S hC dX1_work_8 ?_
  refine lv_iload_n S.1 S.2.1 dX1_work_11 rfl (lv_at hl 2 rfl) ?_
  refine m_ild S hC 3 (by decide) hr12 dX1_work_12 ?_
  refine lv_istore_n S.1 S.2.1 dX1_work_13 rfl hl (by decide) rfl (fun ls hl => ?_)
  refine lv_iconst (v := nI 0) S.1 S.2.1 dX1_work_14 rfl ?_
  refine lv_istore S.1 S.2.1 dX1_work_15 hl (by decide) rfl (fun ls hl => ?_)
  have loopU : ∀ (k u : Nat), n - u < k → u ≤ n → ∀ (H : Heap) (locs : List Loc) (ls : Array Slot), CM loc n g (wA S0 n r (S0.2.1 1 r) j (ixN (S0.2.1 3 r)) u) s H locs → lv_has ls 8 [(0, .ref (loc 0)), (1, .int (nI r)), (2, .int (nI j)), (3, .int (S0.2.1 3 r)), (4, .int (nI u))] → W p l e (rmL 3 0 0) s m ([.ref (loc 0), .int (nI r)] : List Value).toArray below meth c H locs 0 0 (MQ below (va_Qv (fun S' => S' = workM S0 n r) (fun S' t => HM loc n g S' t.heap) (ZA loc 10)) ([.ref (loc 0), .int (nI r)] : List Value).toArray s (rmL 3 0 0).cells (rmL 3 0 0).slots (ZA loc 10)) (F0 m 17 ls []) := by
    intro k
    induction k with
    | zero => intro u hk; omega
    | succ k ihU =>
      intro u hkU hiU  H locs ls hC hl
      refine lv_iload S.1 S.2.1 dX1_work_17 (lv_at hl 4 rfl) ?_
      refine lv_aload_n S.1 S.2.1 dX1_work_19 rfl (lv_at hl 0 rfl) ?_
      refine m_get_things S hC dX1_work_20 ?_
      refine n_icmp_ge (tgt := 318) S.1 S.2.1 dX1_work_23 (by decide) (by omega) (by omega) (fun c23 => ?_) (fun c23 => ?_)
      · skip
        refine lv_aload_n S.1 S.2.1 dX1_work_318 rfl (lv_at hl 0 rfl) ?_
        refine m_get_form S hC dX1_work_319 ?_
        refine lv_iload_n S.1 S.2.1 dX1_work_322 rfl (lv_at hl 1 rfl) ?_
        refine m_ild S hC 1 (by decide) hr12 dX1_work_323 ?_
        rw [show (wA S0 n r (S0.2.1 1 r) j (ixN (S0.2.1 3 r)) u).2.1 1 r = S0.2.1 1 r by rw [(wA_1 _ _ _ _ _ _ _).2], hf]
        refine lv_bipush (v := nI 14) S.1 S.2.1 dX1_work_324 rfl ?_
        refine n_icmp_le (tgt := 334) S.1 S.2.1 dX1_work_326 (by decide) (by omega) (by omega) (fun c326 => ?_) (fun c326 => ?_)
        · skip
          exact o_vret S hr hlocks hC (by rw [workM, if_pos (by rw [hf]; exact (nI_leI (by omega) (by omega)).mpr c326), h1, ixN_nI (show j < 2 ^ 31 by omega), show n = u by omega]) dX1_work_334 (Nat.le_of_ble_eq_true rfl) (Nat.le_of_ble_eq_true rfl)
        · skip
          refine lv_aload_n S.1 S.2.1 dX1_work_329 rfl (lv_at hl 0 rfl) ?_
          refine lv_iload_n S.1 S.2.1 dX1_work_330 rfl (lv_at hl 1 rfl) ?_
          refine o_callv oiM S hC (c_X1_far l hn hr12) cw_RX1_X1_far ⟨rfl, rfl, by decide, by decide⟩ rfl hl.1 rfl (Nat.le_of_ble_eq_true rfl) dX1_work_331 ⟨(Nat.le_of_ble_eq_true rfl), (Nat.le_of_ble_eq_true rfl)⟩ (fun S1 H locs hp hC1 => ?_)
          have e1 := hp
          rw [e1] at hC1; replace hC := hC1
          exact o_vret S hr hlocks hC (by rw [workM, if_neg (by rw [hf]; exact fun q => absurd ((nI_leI (by omega) (by omega)).mp q) (by omega)), h1, ixN_nI (show j < 2 ^ 31 by omega), show n = u by omega]) dX1_work_334 (Nat.le_of_ble_eq_true rfl) (Nat.le_of_ble_eq_true rfl)
      · skip
        refine lv_iconst (v := nI 0) S.1 S.2.1 dX1_work_26 rfl ?_
        refine lv_istore S.1 S.2.1 dX1_work_27 hl (by decide) rfl (fun ls hl => ?_)
        have loop : ∀ (k i : Nat), n - i < k → i ≤ n → ∀ (H : Heap) (locs : List Loc) (ls : Array Slot), CM loc n g (wB (wA S0 n r (S0.2.1 1 r) j (ixN (S0.2.1 3 r)) u) n r (S0.2.1 1 r) j (ixN (S0.2.1 3 r)) u i) s H locs → lv_has ls 8 [(0, .ref (loc 0)), (1, .int (nI r)), (2, .int (nI j)), (3, .int (S0.2.1 3 r)), (4, .int (nI u)), (5, .int (nI i))] → W p l e (rmL 3 0 0) s m ([.ref (loc 0), .int (nI r)] : List Value).toArray below meth c H locs 0 0 (MQ below (va_Qv (fun S' => S' = workM S0 n r) (fun S' t => HM loc n g S' t.heap) (ZA loc 10)) ([.ref (loc 0), .int (nI r)] : List Value).toArray s (rmL 3 0 0).cells (rmL 3 0 0).slots (ZA loc 10)) (F0 m 29 ls []) := by
          intro k
          induction k with
          | zero => intro i hk; omega
          | succ k ih =>
            intro i hk hi  H locs ls hC hl
            refine lv_iload S.1 S.2.1 dX1_work_29 (lv_at hl 5 rfl) ?_
            refine lv_aload_n S.1 S.2.1 dX1_work_31 rfl (lv_at hl 0 rfl) ?_
            refine m_get_things S hC dX1_work_32 ?_
            refine n_icmp_ge (tgt := 312) S.1 S.2.1 dX1_work_35 (by decide) (by omega) (by omega) (fun c35 => ?_) (fun c35 => ?_)
            · skip
              refine lv_iinc (k := 4) S.1 S.2.1 dX1_work_312 hl rfl (n_inc _) (by decide) rfl (fun ls hl => ?_)
              refine lv_goto (tgt := 17) S.1 S.2.1 dX1_work_315 (by decide) ?_
              exact ihU (u + 1) (by omega) (by omega) _ _ _ (by rw [show wA S0 n r (S0.2.1 1 r) j (ixN (S0.2.1 3 r)) (u + 1) = wB (wA S0 n r (S0.2.1 1 r) j (ixN (S0.2.1 3 r)) u) n r (S0.2.1 1 r) j (ixN (S0.2.1 3 r)) u i by rw [show i = n by omega]; rfl]; exact hC) (lv_sub hl [1, 2, 3, 4, 0] rfl)
            · skip
              refine lv_aload_n S.1 S.2.1 dX1_work_38 rfl (lv_at hl 0 rfl) ?_
              refine m_get_form S hC dX1_work_39 ?_
              refine lv_iload_n S.1 S.2.1 dX1_work_42 rfl (lv_at hl 1 rfl) ?_
              refine m_ild S hC 1 (by decide) hr12 dX1_work_43 ?_
              rw [show (wB (wA S0 n r (S0.2.1 1 r) j (ixN (S0.2.1 3 r)) u) n r (S0.2.1 1 r) j (ixN (S0.2.1 3 r)) u i).2.1 1 r = S0.2.1 1 r by rw [(wB_1 _ _ _ _ _ _ _ _).2, (wA_1 _ _ _ _ _ _ _).2]]
              have hsw44 := trivial
              by_cases h44_10 : S0.2.1 1 r = nI 10
              · refine lv_tableIn (off := 36) (tgt := 80) S.1 S.2.1 dX1_work_44 (by rw [h44_10]; decide) (by rw [h44_10]; decide) (by rw [h44_10]; rfl) (by decide) ?_
                refine lv_aload_n S.1 S.2.1 dX1_work_80 rfl (lv_at hl 0 rfl) ?_
                refine m_get_pairs S hC dX1_work_81 ?_
                refine lv_iload_n S.1 S.2.1 dX1_work_84 rfl (lv_at hl 2 rfl) ?_
                refine lv_iload S.1 S.2.1 dX1_work_85 (lv_at hl 5 rfl) ?_
                refine lv_iload S.1 S.2.1 dX1_work_87 (lv_at hl 4 rfl) ?_
                refine s_calli S (c_X1_at l j i u) cw_RX1_X1_at ⟨rfl, rfl, by decide, by decide⟩ rfl hl.1 rfl (Nat.le_of_ble_eq_true rfl) dX1_work_89 ⟨(Nat.le_of_ble_eq_true rfl), (Nat.le_of_ble_eq_true rfl)⟩ (fun r89 hp => ?_)
                subst hp
                refine m_zld S hC 0 (by decide) (ixP_lt hj (by omega) (by omega)) dX1_work_92 ?_
                rw [show (wB (wA S0 n r (S0.2.1 1 r) j (ixN (S0.2.1 3 r)) u) n r (S0.2.1 1 r) j (ixN (S0.2.1 3 r)) u i).2.2 0 (ixP j i u) = wV (wB (wA S0 n r (S0.2.1 1 r) j (ixN (S0.2.1 3 r)) u) n r (S0.2.1 1 r) j (ixN (S0.2.1 3 r)) u i) n (S0.2.1 1 r) j (ixN (S0.2.1 3 r)) u i by rw [wV, if_pos h44_10]; rfl]
                refine lv_istore S.1 S.2.1 dX1_work_93 hl (by decide) rfl (fun ls hl => ?_)
                refine lv_goto (tgt := 291) S.1 S.2.1 dX1_work_95 (by decide) ?_
                refine lv_aload_n S.1 S.2.1 dX1_work_291 rfl (lv_at hl 1 rfl) ?_
                refine m_get_pairs S hC dX1_work_292 ?_
                refine lv_iload_n S.1 S.2.1 dX1_work_295 rfl (lv_at hl 2 rfl) ?_
                refine lv_iload S.1 S.2.1 dX1_work_296 (lv_at hl 5 rfl) ?_
                refine lv_iload S.1 S.2.1 dX1_work_298 (lv_at hl 6 rfl) ?_
                refine s_calli S (c_X1_at l r u i) cw_RX1_X1_at ⟨rfl, rfl, by decide, by decide⟩ rfl hl.1 rfl (Nat.le_of_ble_eq_true rfl) dX1_work_300 ⟨(Nat.le_of_ble_eq_true rfl), (Nat.le_of_ble_eq_true rfl)⟩ (fun r300 hp => ?_)
                subst hp
                refine lv_iload S.1 S.2.1 dX1_work_303 (lv_at hl 0 rfl) ?_
                refine m_zst S hC 0 (by decide) (ixP_lt hr12 (by omega) (by omega)) rfl dX1_work_305 (fun H locs hC => ?_)
                refine lv_iinc (k := 6) S.1 S.2.1 dX1_work_306 hl rfl (n_inc _) (by decide) rfl (fun ls hl => ?_)
                refine lv_goto (tgt := 29) S.1 S.2.1 dX1_work_309 (by decide) ?_
                exact ih (i + 1) (by omega) (by omega) _ _ _ (by rw [wB]; exact hC) (lv_sub hl [2, 3, 4, 5, 6, 0] rfl)
              · skip
                by_cases h44_11 : S0.2.1 1 r = nI 11
                · refine lv_tableIn (off := 54) (tgt := 98) S.1 S.2.1 dX1_work_44 (by rw [h44_11]; decide) (by rw [h44_11]; decide) (by rw [h44_11]; rfl) (by decide) ?_
                  refine lv_aload_n S.1 S.2.1 dX1_work_98 rfl (lv_at hl 0 rfl) ?_
                  refine m_get_pairs S hC dX1_work_99 ?_
                  refine lv_iload_n S.1 S.2.1 dX1_work_102 rfl (lv_at hl 2 rfl) ?_
                  refine lv_iload S.1 S.2.1 dX1_work_103 (lv_at hl 4 rfl) ?_
                  refine lv_iload S.1 S.2.1 dX1_work_105 (lv_at hl 5 rfl) ?_
                  refine s_calli S (c_X1_at l j u i) cw_RX1_X1_at ⟨rfl, rfl, by decide, by decide⟩ rfl hl.1 rfl (Nat.le_of_ble_eq_true rfl) dX1_work_107 ⟨(Nat.le_of_ble_eq_true rfl), (Nat.le_of_ble_eq_true rfl)⟩ (fun r107 hp => ?_)
                  subst hp
                  refine m_zld S hC 0 (by decide) (ixP_lt hj (by omega) (by omega)) dX1_work_110 ?_
                  refine b_if_ne (tgt := 118) S.1 S.2.1 dX1_work_111 (by decide) (fun c111 => ?_) (fun c111 => ?_)
                  · skip
                    refine lv_iconst (v := bI (wV (wB (wA S0 n r (S0.2.1 1 r) j (ixN (S0.2.1 3 r)) u) n r (S0.2.1 1 r) j (ixN (S0.2.1 3 r)) u i) n (S0.2.1 1 r) j (ixN (S0.2.1 3 r)) u i)) S.1 S.2.1 dX1_work_118 (by rw [show wV (wB (wA S0 n r (S0.2.1 1 r) j (ixN (S0.2.1 3 r)) u) n r (S0.2.1 1 r) j (ixN (S0.2.1 3 r)) u i) n (S0.2.1 1 r) j (ixN (S0.2.1 3 r)) u i = false by rw [wV, if_neg h44_10, if_pos h44_11]; rw [show pM (wB (wA S0 n r (S0.2.1 1 r) j (ixN (S0.2.1 3 r)) u) n r (S0.2.1 1 r) j (ixN (S0.2.1 3 r)) u i) j u i = true from c111]; rfl]; rfl) ?_
                    refine lv_istore S.1 S.2.1 dX1_work_119 hl (by decide) rfl (fun ls hl => ?_)
                    refine lv_goto (tgt := 291) S.1 S.2.1 dX1_work_121 (by decide) ?_
                    refine lv_aload_n S.1 S.2.1 dX1_work_291 rfl (lv_at hl 1 rfl) ?_
                    refine m_get_pairs S hC dX1_work_292 ?_
                    refine lv_iload_n S.1 S.2.1 dX1_work_295 rfl (lv_at hl 2 rfl) ?_
                    refine lv_iload S.1 S.2.1 dX1_work_296 (lv_at hl 5 rfl) ?_
                    refine lv_iload S.1 S.2.1 dX1_work_298 (lv_at hl 6 rfl) ?_
                    refine s_calli S (c_X1_at l r u i) cw_RX1_X1_at ⟨rfl, rfl, by decide, by decide⟩ rfl hl.1 rfl (Nat.le_of_ble_eq_true rfl) dX1_work_300 ⟨(Nat.le_of_ble_eq_true rfl), (Nat.le_of_ble_eq_true rfl)⟩ (fun r300 hp => ?_)
                    subst hp
                    refine lv_iload S.1 S.2.1 dX1_work_303 (lv_at hl 0 rfl) ?_
                    refine m_zst S hC 0 (by decide) (ixP_lt hr12 (by omega) (by omega)) rfl dX1_work_305 (fun H locs hC => ?_)
                    refine lv_iinc (k := 6) S.1 S.2.1 dX1_work_306 hl rfl (n_inc _) (by decide) rfl (fun ls hl => ?_)
                    refine lv_goto (tgt := 29) S.1 S.2.1 dX1_work_309 (by decide) ?_
                    exact ih (i + 1) (by omega) (by omega) _ _ _ (by rw [wB]; exact hC) (lv_sub hl [2, 3, 4, 5, 6, 0] rfl)
                  · skip
                    refine lv_iconst (v := bI (wV (wB (wA S0 n r (S0.2.1 1 r) j (ixN (S0.2.1 3 r)) u) n r (S0.2.1 1 r) j (ixN (S0.2.1 3 r)) u i) n (S0.2.1 1 r) j (ixN (S0.2.1 3 r)) u i)) S.1 S.2.1 dX1_work_114 (by rw [show wV (wB (wA S0 n r (S0.2.1 1 r) j (ixN (S0.2.1 3 r)) u) n r (S0.2.1 1 r) j (ixN (S0.2.1 3 r)) u i) n (S0.2.1 1 r) j (ixN (S0.2.1 3 r)) u i = true by rw [wV, if_neg h44_10, if_pos h44_11]; rw [show pM (wB (wA S0 n r (S0.2.1 1 r) j (ixN (S0.2.1 3 r)) u) n r (S0.2.1 1 r) j (ixN (S0.2.1 3 r)) u i) j u i = false from c111]; rfl]; rfl) ?_
                    refine lv_goto (tgt := 119) S.1 S.2.1 dX1_work_115 (by decide) ?_
                    refine lv_istore S.1 S.2.1 dX1_work_119 hl (by decide) rfl (fun ls hl => ?_)
                    refine lv_goto (tgt := 291) S.1 S.2.1 dX1_work_121 (by decide) ?_
                    refine lv_aload_n S.1 S.2.1 dX1_work_291 rfl (lv_at hl 1 rfl) ?_
                    refine m_get_pairs S hC dX1_work_292 ?_
                    refine lv_iload_n S.1 S.2.1 dX1_work_295 rfl (lv_at hl 2 rfl) ?_
                    refine lv_iload S.1 S.2.1 dX1_work_296 (lv_at hl 5 rfl) ?_
                    refine lv_iload S.1 S.2.1 dX1_work_298 (lv_at hl 6 rfl) ?_
                    refine s_calli S (c_X1_at l r u i) cw_RX1_X1_at ⟨rfl, rfl, by decide, by decide⟩ rfl hl.1 rfl (Nat.le_of_ble_eq_true rfl) dX1_work_300 ⟨(Nat.le_of_ble_eq_true rfl), (Nat.le_of_ble_eq_true rfl)⟩ (fun r300 hp => ?_)
                    subst hp
                    refine lv_iload S.1 S.2.1 dX1_work_303 (lv_at hl 0 rfl) ?_
                    refine m_zst S hC 0 (by decide) (ixP_lt hr12 (by omega) (by omega)) rfl dX1_work_305 (fun H locs hC => ?_)
                    refine lv_iinc (k := 6) S.1 S.2.1 dX1_work_306 hl rfl (n_inc _) (by decide) rfl (fun ls hl => ?_)
                    refine lv_goto (tgt := 29) S.1 S.2.1 dX1_work_309 (by decide) ?_
                    exact ih (i + 1) (by omega) (by omega) _ _ _ (by rw [wB]; exact hC) (lv_sub hl [2, 3, 4, 5, 6, 0] rfl)
                · skip
                  by_cases h44_12 : S0.2.1 1 r = nI 12
                  · refine lv_tableIn (off := 80) (tgt := 124) S.1 S.2.1 dX1_work_44 (by rw [h44_12]; decide) (by rw [h44_12]; decide) (by rw [h44_12]; rfl) (by decide) ?_
                    obtain ⟨t, ht12, e3⟩ := h2 (by rcases (show cn = 0 ∨ cn = 1 ∨ 2 ≤ cn by omega) with rfl | rfl | q; exact absurd hf h44_10; exact absurd hf h44_11; exact q) (by rcases (show cn = 5 ∨ cn ≤ 4 by omega) with rfl | q; exact absurd (hf.symm.trans h44_12) (by decide); exact q)
                    have eY : ixN (S0.2.1 3 r) = t := by rw [e3]; exact ixN_nI (by omega)
                    rw [e3] at hl
                    clear h2
                    refine lv_aload_n S.1 S.2.1 dX1_work_124 rfl (lv_at hl 0 rfl) ?_
                    refine m_get_pairs S hC dX1_work_125 ?_
                    refine lv_iload_n S.1 S.2.1 dX1_work_128 rfl (lv_at hl 2 rfl) ?_
                    refine lv_iload S.1 S.2.1 dX1_work_129 (lv_at hl 4 rfl) ?_
                    refine lv_iload S.1 S.2.1 dX1_work_131 (lv_at hl 5 rfl) ?_
                    refine s_calli S (c_X1_at l j u i) cw_RX1_X1_at ⟨rfl, rfl, by decide, by decide⟩ rfl hl.1 rfl (Nat.le_of_ble_eq_true rfl) dX1_work_133 ⟨(Nat.le_of_ble_eq_true rfl), (Nat.le_of_ble_eq_true rfl)⟩ (fun r133 hp => ?_)
                    subst hp
                    refine m_zld S hC 0 (by decide) (ixP_lt hj (by omega) (by omega)) dX1_work_136 ?_
                    refine b_if_eq (tgt := 160) S.1 S.2.1 dX1_work_137 (by decide) (fun c137 => ?_) (fun c137 => ?_)
                    · skip
                      refine lv_iconst (v := bI (wV (wB (wA S0 n r (S0.2.1 1 r) j (ixN (S0.2.1 3 r)) u) n r (S0.2.1 1 r) j (ixN (S0.2.1 3 r)) u i) n (S0.2.1 1 r) j (ixN (S0.2.1 3 r)) u i)) S.1 S.2.1 dX1_work_160 (by rw [show wV (wB (wA S0 n r (S0.2.1 1 r) j (ixN (S0.2.1 3 r)) u) n r (S0.2.1 1 r) j (ixN (S0.2.1 3 r)) u i) n (S0.2.1 1 r) j (ixN (S0.2.1 3 r)) u i = false by rw [wV, if_neg h44_10, if_neg h44_11, if_pos h44_12]; rw [show pM (wB (wA S0 n r (S0.2.1 1 r) j (ixN (S0.2.1 3 r)) u) n r (S0.2.1 1 r) j (ixN (S0.2.1 3 r)) u i) j u i = false from c137]; rfl]; rfl) ?_
                      refine lv_istore S.1 S.2.1 dX1_work_161 hl (by decide) rfl (fun ls hl => ?_)
                      refine lv_goto (tgt := 291) S.1 S.2.1 dX1_work_163 (by decide) ?_
                      refine lv_aload_n S.1 S.2.1 dX1_work_291 rfl (lv_at hl 1 rfl) ?_
                      refine m_get_pairs S hC dX1_work_292 ?_
                      refine lv_iload_n S.1 S.2.1 dX1_work_295 rfl (lv_at hl 2 rfl) ?_
                      refine lv_iload S.1 S.2.1 dX1_work_296 (lv_at hl 5 rfl) ?_
                      refine lv_iload S.1 S.2.1 dX1_work_298 (lv_at hl 6 rfl) ?_
                      refine s_calli S (c_X1_at l r u i) cw_RX1_X1_at ⟨rfl, rfl, by decide, by decide⟩ rfl hl.1 rfl (Nat.le_of_ble_eq_true rfl) dX1_work_300 ⟨(Nat.le_of_ble_eq_true rfl), (Nat.le_of_ble_eq_true rfl)⟩ (fun r300 hp => ?_)
                      subst hp
                      refine lv_iload S.1 S.2.1 dX1_work_303 (lv_at hl 0 rfl) ?_
                      refine m_zst S hC 0 (by decide) (ixP_lt hr12 (by omega) (by omega)) rfl dX1_work_305 (fun H locs hC => ?_)
                      refine lv_iinc (k := 6) S.1 S.2.1 dX1_work_306 hl rfl (n_inc _) (by decide) rfl (fun ls hl => ?_)
                      refine lv_goto (tgt := 29) S.1 S.2.1 dX1_work_309 (by decide) ?_
                      exact ih (i + 1) (by omega) (by omega) _ _ _ (by rw [wB]; exact hC) (by rw [e3]; exact lv_sub hl [2, 3, 4, 5, 6, 0] rfl)
                    · skip
                      refine lv_aload_n S.1 S.2.1 dX1_work_140 rfl (lv_at hl 0 rfl) ?_
                      refine m_get_pairs S hC dX1_work_141 ?_
                      refine lv_iload_n S.1 S.2.1 dX1_work_144 rfl (lv_at hl 3 rfl) ?_
                      refine lv_iload S.1 S.2.1 dX1_work_145 (lv_at hl 4 rfl) ?_
                      refine lv_iload S.1 S.2.1 dX1_work_147 (lv_at hl 5 rfl) ?_
                      refine s_calli S (c_X1_at l t u i) cw_RX1_X1_at ⟨rfl, rfl, by decide, by decide⟩ rfl hl.1 rfl (Nat.le_of_ble_eq_true rfl) dX1_work_149 ⟨(Nat.le_of_ble_eq_true rfl), (Nat.le_of_ble_eq_true rfl)⟩ (fun r149 hp => ?_)
                      subst hp
                      refine m_zld S hC 0 (by decide) (ixP_lt ht12 (by omega) (by omega)) dX1_work_152 ?_
                      refine b_if_eq (tgt := 160) S.1 S.2.1 dX1_work_153 (by decide) (fun c153 => ?_) (fun c153 => ?_)
                      · skip
                        refine lv_iconst (v := bI (wV (wB (wA S0 n r (S0.2.1 1 r) j (ixN (S0.2.1 3 r)) u) n r (S0.2.1 1 r) j (ixN (S0.2.1 3 r)) u i) n (S0.2.1 1 r) j (ixN (S0.2.1 3 r)) u i)) S.1 S.2.1 dX1_work_160 (by rw [show wV (wB (wA S0 n r (S0.2.1 1 r) j (ixN (S0.2.1 3 r)) u) n r (S0.2.1 1 r) j (ixN (S0.2.1 3 r)) u i) n (S0.2.1 1 r) j (ixN (S0.2.1 3 r)) u i = false by rw [wV, if_neg h44_10, if_neg h44_11, if_pos h44_12]; rw [show pM (wB (wA S0 n r (S0.2.1 1 r) j (ixN (S0.2.1 3 r)) u) n r (S0.2.1 1 r) j (ixN (S0.2.1 3 r)) u i) j u i = true from c137, show pM (wB (wA S0 n r (S0.2.1 1 r) j (ixN (S0.2.1 3 r)) u) n r (S0.2.1 1 r) j (ixN (S0.2.1 3 r)) u i) (ixN (S0.2.1 3 r)) u i = false from (by have q := c153; rw [← eY] at q; exact q)]; rfl]; rfl) ?_
                        refine lv_istore S.1 S.2.1 dX1_work_161 hl (by decide) rfl (fun ls hl => ?_)
                        refine lv_goto (tgt := 291) S.1 S.2.1 dX1_work_163 (by decide) ?_
                        refine lv_aload_n S.1 S.2.1 dX1_work_291 rfl (lv_at hl 1 rfl) ?_
                        refine m_get_pairs S hC dX1_work_292 ?_
                        refine lv_iload_n S.1 S.2.1 dX1_work_295 rfl (lv_at hl 2 rfl) ?_
                        refine lv_iload S.1 S.2.1 dX1_work_296 (lv_at hl 5 rfl) ?_
                        refine lv_iload S.1 S.2.1 dX1_work_298 (lv_at hl 6 rfl) ?_
                        refine s_calli S (c_X1_at l r u i) cw_RX1_X1_at ⟨rfl, rfl, by decide, by decide⟩ rfl hl.1 rfl (Nat.le_of_ble_eq_true rfl) dX1_work_300 ⟨(Nat.le_of_ble_eq_true rfl), (Nat.le_of_ble_eq_true rfl)⟩ (fun r300 hp => ?_)
                        subst hp
                        refine lv_iload S.1 S.2.1 dX1_work_303 (lv_at hl 0 rfl) ?_
                        refine m_zst S hC 0 (by decide) (ixP_lt hr12 (by omega) (by omega)) rfl dX1_work_305 (fun H locs hC => ?_)
                        refine lv_iinc (k := 6) S.1 S.2.1 dX1_work_306 hl rfl (n_inc _) (by decide) rfl (fun ls hl => ?_)
                        refine lv_goto (tgt := 29) S.1 S.2.1 dX1_work_309 (by decide) ?_
                        exact ih (i + 1) (by omega) (by omega) _ _ _ (by rw [wB]; exact hC) (by rw [e3]; exact lv_sub hl [2, 3, 4, 5, 6, 0] rfl)
                      · skip
                        refine lv_iconst (v := bI (wV (wB (wA S0 n r (S0.2.1 1 r) j (ixN (S0.2.1 3 r)) u) n r (S0.2.1 1 r) j (ixN (S0.2.1 3 r)) u i) n (S0.2.1 1 r) j (ixN (S0.2.1 3 r)) u i)) S.1 S.2.1 dX1_work_156 (by rw [show wV (wB (wA S0 n r (S0.2.1 1 r) j (ixN (S0.2.1 3 r)) u) n r (S0.2.1 1 r) j (ixN (S0.2.1 3 r)) u i) n (S0.2.1 1 r) j (ixN (S0.2.1 3 r)) u i = true by rw [wV, if_neg h44_10, if_neg h44_11, if_pos h44_12]; rw [show pM (wB (wA S0 n r (S0.2.1 1 r) j (ixN (S0.2.1 3 r)) u) n r (S0.2.1 1 r) j (ixN (S0.2.1 3 r)) u i) j u i = true from c137, show pM (wB (wA S0 n r (S0.2.1 1 r) j (ixN (S0.2.1 3 r)) u) n r (S0.2.1 1 r) j (ixN (S0.2.1 3 r)) u i) (ixN (S0.2.1 3 r)) u i = true from (by have q := c153; rw [← eY] at q; exact q)]; rfl]; rfl) ?_
                        refine lv_goto (tgt := 161) S.1 S.2.1 dX1_work_157 (by decide) ?_
                        refine lv_istore S.1 S.2.1 dX1_work_161 hl (by decide) rfl (fun ls hl => ?_)
                        refine lv_goto (tgt := 291) S.1 S.2.1 dX1_work_163 (by decide) ?_
                        refine lv_aload_n S.1 S.2.1 dX1_work_291 rfl (lv_at hl 1 rfl) ?_
                        refine m_get_pairs S hC dX1_work_292 ?_
                        refine lv_iload_n S.1 S.2.1 dX1_work_295 rfl (lv_at hl 2 rfl) ?_
                        refine lv_iload S.1 S.2.1 dX1_work_296 (lv_at hl 5 rfl) ?_
                        refine lv_iload S.1 S.2.1 dX1_work_298 (lv_at hl 6 rfl) ?_
                        refine s_calli S (c_X1_at l r u i) cw_RX1_X1_at ⟨rfl, rfl, by decide, by decide⟩ rfl hl.1 rfl (Nat.le_of_ble_eq_true rfl) dX1_work_300 ⟨(Nat.le_of_ble_eq_true rfl), (Nat.le_of_ble_eq_true rfl)⟩ (fun r300 hp => ?_)
                        subst hp
                        refine lv_iload S.1 S.2.1 dX1_work_303 (lv_at hl 0 rfl) ?_
                        refine m_zst S hC 0 (by decide) (ixP_lt hr12 (by omega) (by omega)) rfl dX1_work_305 (fun H locs hC => ?_)
                        refine lv_iinc (k := 6) S.1 S.2.1 dX1_work_306 hl rfl (n_inc _) (by decide) rfl (fun ls hl => ?_)
                        refine lv_goto (tgt := 29) S.1 S.2.1 dX1_work_309 (by decide) ?_
                        exact ih (i + 1) (by omega) (by omega) _ _ _ (by rw [wB]; exact hC) (by rw [e3]; exact lv_sub hl [2, 3, 4, 5, 6, 0] rfl)
                  · skip
                    by_cases h44_13 : S0.2.1 1 r = nI 13
                    · refine lv_tableIn (off := 122) (tgt := 166) S.1 S.2.1 dX1_work_44 (by rw [h44_13]; decide) (by rw [h44_13]; decide) (by rw [h44_13]; rfl) (by decide) ?_
                      obtain ⟨t, ht12, e3⟩ := h2 (by rcases (show cn = 0 ∨ cn = 1 ∨ 2 ≤ cn by omega) with rfl | rfl | q; exact absurd hf h44_10; exact absurd hf h44_11; exact q) (by rcases (show cn = 5 ∨ cn ≤ 4 by omega) with rfl | q; exact absurd (hf.symm.trans h44_13) (by decide); exact q)
                      have eY : ixN (S0.2.1 3 r) = t := by rw [e3]; exact ixN_nI (by omega)
                      rw [e3] at hl
                      clear h2
                      refine lv_aload_n S.1 S.2.1 dX1_work_166 rfl (lv_at hl 0 rfl) ?_
                      refine m_get_pairs S hC dX1_work_167 ?_
                      refine lv_iload_n S.1 S.2.1 dX1_work_170 rfl (lv_at hl 2 rfl) ?_
                      refine lv_iload S.1 S.2.1 dX1_work_171 (lv_at hl 4 rfl) ?_
                      refine lv_iload S.1 S.2.1 dX1_work_173 (lv_at hl 5 rfl) ?_
                      refine s_calli S (c_X1_at l j u i) cw_RX1_X1_at ⟨rfl, rfl, by decide, by decide⟩ rfl hl.1 rfl (Nat.le_of_ble_eq_true rfl) dX1_work_175 ⟨(Nat.le_of_ble_eq_true rfl), (Nat.le_of_ble_eq_true rfl)⟩ (fun r175 hp => ?_)
                      subst hp
                      refine m_zld S hC 0 (by decide) (ixP_lt hj (by omega) (by omega)) dX1_work_178 ?_
                      refine b_if_ne (tgt := 198) S.1 S.2.1 dX1_work_179 (by decide) (fun c179 => ?_) (fun c179 => ?_)
                      · skip
                        refine lv_iconst (v := bI (wV (wB (wA S0 n r (S0.2.1 1 r) j (ixN (S0.2.1 3 r)) u) n r (S0.2.1 1 r) j (ixN (S0.2.1 3 r)) u i) n (S0.2.1 1 r) j (ixN (S0.2.1 3 r)) u i)) S.1 S.2.1 dX1_work_198 (by rw [show wV (wB (wA S0 n r (S0.2.1 1 r) j (ixN (S0.2.1 3 r)) u) n r (S0.2.1 1 r) j (ixN (S0.2.1 3 r)) u i) n (S0.2.1 1 r) j (ixN (S0.2.1 3 r)) u i = true by rw [wV, if_neg h44_10, if_neg h44_11, if_neg h44_12, if_pos h44_13]; rw [show pM (wB (wA S0 n r (S0.2.1 1 r) j (ixN (S0.2.1 3 r)) u) n r (S0.2.1 1 r) j (ixN (S0.2.1 3 r)) u i) j u i = true from c179]; rfl]; rfl) ?_
                        refine lv_goto (tgt := 203) S.1 S.2.1 dX1_work_199 (by decide) ?_
                        refine lv_istore S.1 S.2.1 dX1_work_203 hl (by decide) rfl (fun ls hl => ?_)
                        refine lv_goto (tgt := 291) S.1 S.2.1 dX1_work_205 (by decide) ?_
                        refine lv_aload_n S.1 S.2.1 dX1_work_291 rfl (lv_at hl 1 rfl) ?_
                        refine m_get_pairs S hC dX1_work_292 ?_
                        refine lv_iload_n S.1 S.2.1 dX1_work_295 rfl (lv_at hl 2 rfl) ?_
                        refine lv_iload S.1 S.2.1 dX1_work_296 (lv_at hl 5 rfl) ?_
                        refine lv_iload S.1 S.2.1 dX1_work_298 (lv_at hl 6 rfl) ?_
                        refine s_calli S (c_X1_at l r u i) cw_RX1_X1_at ⟨rfl, rfl, by decide, by decide⟩ rfl hl.1 rfl (Nat.le_of_ble_eq_true rfl) dX1_work_300 ⟨(Nat.le_of_ble_eq_true rfl), (Nat.le_of_ble_eq_true rfl)⟩ (fun r300 hp => ?_)
                        subst hp
                        refine lv_iload S.1 S.2.1 dX1_work_303 (lv_at hl 0 rfl) ?_
                        refine m_zst S hC 0 (by decide) (ixP_lt hr12 (by omega) (by omega)) rfl dX1_work_305 (fun H locs hC => ?_)
                        refine lv_iinc (k := 6) S.1 S.2.1 dX1_work_306 hl rfl (n_inc _) (by decide) rfl (fun ls hl => ?_)
                        refine lv_goto (tgt := 29) S.1 S.2.1 dX1_work_309 (by decide) ?_
                        exact ih (i + 1) (by omega) (by omega) _ _ _ (by rw [wB]; exact hC) (by rw [e3]; exact lv_sub hl [2, 3, 4, 5, 6, 0] rfl)
                      · skip
                        refine lv_aload_n S.1 S.2.1 dX1_work_182 rfl (lv_at hl 0 rfl) ?_
                        refine m_get_pairs S hC dX1_work_183 ?_
                        refine lv_iload_n S.1 S.2.1 dX1_work_186 rfl (lv_at hl 3 rfl) ?_
                        refine lv_iload S.1 S.2.1 dX1_work_187 (lv_at hl 4 rfl) ?_
                        refine lv_iload S.1 S.2.1 dX1_work_189 (lv_at hl 5 rfl) ?_
                        refine s_calli S (c_X1_at l t u i) cw_RX1_X1_at ⟨rfl, rfl, by decide, by decide⟩ rfl hl.1 rfl (Nat.le_of_ble_eq_true rfl) dX1_work_191 ⟨(Nat.le_of_ble_eq_true rfl), (Nat.le_of_ble_eq_true rfl)⟩ (fun r191 hp => ?_)
                        subst hp
                        refine m_zld S hC 0 (by decide) (ixP_lt ht12 (by omega) (by omega)) dX1_work_194 ?_
                        refine b_if_eq (tgt := 202) S.1 S.2.1 dX1_work_195 (by decide) (fun c195 => ?_) (fun c195 => ?_)
                        · skip
                          refine lv_iconst (v := bI (wV (wB (wA S0 n r (S0.2.1 1 r) j (ixN (S0.2.1 3 r)) u) n r (S0.2.1 1 r) j (ixN (S0.2.1 3 r)) u i) n (S0.2.1 1 r) j (ixN (S0.2.1 3 r)) u i)) S.1 S.2.1 dX1_work_202 (by rw [show wV (wB (wA S0 n r (S0.2.1 1 r) j (ixN (S0.2.1 3 r)) u) n r (S0.2.1 1 r) j (ixN (S0.2.1 3 r)) u i) n (S0.2.1 1 r) j (ixN (S0.2.1 3 r)) u i = false by rw [wV, if_neg h44_10, if_neg h44_11, if_neg h44_12, if_pos h44_13]; rw [show pM (wB (wA S0 n r (S0.2.1 1 r) j (ixN (S0.2.1 3 r)) u) n r (S0.2.1 1 r) j (ixN (S0.2.1 3 r)) u i) j u i = false from c179, show pM (wB (wA S0 n r (S0.2.1 1 r) j (ixN (S0.2.1 3 r)) u) n r (S0.2.1 1 r) j (ixN (S0.2.1 3 r)) u i) (ixN (S0.2.1 3 r)) u i = false from (by have q := c195; rw [← eY] at q; exact q)]; rfl]; rfl) ?_
                          refine lv_istore S.1 S.2.1 dX1_work_203 hl (by decide) rfl (fun ls hl => ?_)
                          refine lv_goto (tgt := 291) S.1 S.2.1 dX1_work_205 (by decide) ?_
                          refine lv_aload_n S.1 S.2.1 dX1_work_291 rfl (lv_at hl 1 rfl) ?_
                          refine m_get_pairs S hC dX1_work_292 ?_
                          refine lv_iload_n S.1 S.2.1 dX1_work_295 rfl (lv_at hl 2 rfl) ?_
                          refine lv_iload S.1 S.2.1 dX1_work_296 (lv_at hl 5 rfl) ?_
                          refine lv_iload S.1 S.2.1 dX1_work_298 (lv_at hl 6 rfl) ?_
                          refine s_calli S (c_X1_at l r u i) cw_RX1_X1_at ⟨rfl, rfl, by decide, by decide⟩ rfl hl.1 rfl (Nat.le_of_ble_eq_true rfl) dX1_work_300 ⟨(Nat.le_of_ble_eq_true rfl), (Nat.le_of_ble_eq_true rfl)⟩ (fun r300 hp => ?_)
                          subst hp
                          refine lv_iload S.1 S.2.1 dX1_work_303 (lv_at hl 0 rfl) ?_
                          refine m_zst S hC 0 (by decide) (ixP_lt hr12 (by omega) (by omega)) rfl dX1_work_305 (fun H locs hC => ?_)
                          refine lv_iinc (k := 6) S.1 S.2.1 dX1_work_306 hl rfl (n_inc _) (by decide) rfl (fun ls hl => ?_)
                          refine lv_goto (tgt := 29) S.1 S.2.1 dX1_work_309 (by decide) ?_
                          exact ih (i + 1) (by omega) (by omega) _ _ _ (by rw [wB]; exact hC) (by rw [e3]; exact lv_sub hl [2, 3, 4, 5, 6, 0] rfl)
                        · skip
                          refine lv_iconst (v := bI (wV (wB (wA S0 n r (S0.2.1 1 r) j (ixN (S0.2.1 3 r)) u) n r (S0.2.1 1 r) j (ixN (S0.2.1 3 r)) u i) n (S0.2.1 1 r) j (ixN (S0.2.1 3 r)) u i)) S.1 S.2.1 dX1_work_198 (by rw [show wV (wB (wA S0 n r (S0.2.1 1 r) j (ixN (S0.2.1 3 r)) u) n r (S0.2.1 1 r) j (ixN (S0.2.1 3 r)) u i) n (S0.2.1 1 r) j (ixN (S0.2.1 3 r)) u i = true by rw [wV, if_neg h44_10, if_neg h44_11, if_neg h44_12, if_pos h44_13]; rw [show pM (wB (wA S0 n r (S0.2.1 1 r) j (ixN (S0.2.1 3 r)) u) n r (S0.2.1 1 r) j (ixN (S0.2.1 3 r)) u i) j u i = false from c179, show pM (wB (wA S0 n r (S0.2.1 1 r) j (ixN (S0.2.1 3 r)) u) n r (S0.2.1 1 r) j (ixN (S0.2.1 3 r)) u i) (ixN (S0.2.1 3 r)) u i = true from (by have q := c195; rw [← eY] at q; exact q)]; rfl]; rfl) ?_
                          refine lv_goto (tgt := 203) S.1 S.2.1 dX1_work_199 (by decide) ?_
                          refine lv_istore S.1 S.2.1 dX1_work_203 hl (by decide) rfl (fun ls hl => ?_)
                          refine lv_goto (tgt := 291) S.1 S.2.1 dX1_work_205 (by decide) ?_
                          refine lv_aload_n S.1 S.2.1 dX1_work_291 rfl (lv_at hl 1 rfl) ?_
                          refine m_get_pairs S hC dX1_work_292 ?_
                          refine lv_iload_n S.1 S.2.1 dX1_work_295 rfl (lv_at hl 2 rfl) ?_
                          refine lv_iload S.1 S.2.1 dX1_work_296 (lv_at hl 5 rfl) ?_
                          refine lv_iload S.1 S.2.1 dX1_work_298 (lv_at hl 6 rfl) ?_
                          refine s_calli S (c_X1_at l r u i) cw_RX1_X1_at ⟨rfl, rfl, by decide, by decide⟩ rfl hl.1 rfl (Nat.le_of_ble_eq_true rfl) dX1_work_300 ⟨(Nat.le_of_ble_eq_true rfl), (Nat.le_of_ble_eq_true rfl)⟩ (fun r300 hp => ?_)
                          subst hp
                          refine lv_iload S.1 S.2.1 dX1_work_303 (lv_at hl 0 rfl) ?_
                          refine m_zst S hC 0 (by decide) (ixP_lt hr12 (by omega) (by omega)) rfl dX1_work_305 (fun H locs hC => ?_)
                          refine lv_iinc (k := 6) S.1 S.2.1 dX1_work_306 hl rfl (n_inc _) (by decide) rfl (fun ls hl => ?_)
                          refine lv_goto (tgt := 29) S.1 S.2.1 dX1_work_309 (by decide) ?_
                          exact ih (i + 1) (by omega) (by omega) _ _ _ (by rw [wB]; exact hC) (by rw [e3]; exact lv_sub hl [2, 3, 4, 5, 6, 0] rfl)
                    · skip
                      by_cases h44_14 : S0.2.1 1 r = nI 14
                      · refine lv_tableIn (off := 164) (tgt := 208) S.1 S.2.1 dX1_work_44 (by rw [h44_14]; decide) (by rw [h44_14]; decide) (by rw [h44_14]; rfl) (by decide) ?_
                        obtain ⟨t, ht12, e3⟩ := h2 (by rcases (show cn = 0 ∨ cn = 1 ∨ 2 ≤ cn by omega) with rfl | rfl | q; exact absurd hf h44_10; exact absurd hf h44_11; exact q) (by rcases (show cn = 5 ∨ cn ≤ 4 by omega) with rfl | q; exact absurd (hf.symm.trans h44_14) (by decide); exact q)
                        have eY : ixN (S0.2.1 3 r) = t := by rw [e3]; exact ixN_nI (by omega)
                        rw [e3] at hl
                        clear h2
                        refine lv_iconst (v := bI (thM (wB (wA S0 n r (S0.2.1 1 r) j (ixN (S0.2.1 3 r)) u) n r (S0.2.1 1 r) j (ixN (S0.2.1 3 r)) u i) j t u i 0)) S.1 S.2.1 dX1_work_208 rfl ?_
                        refine lv_istore S.1 S.2.1 dX1_work_209 hl (by decide) rfl (fun ls hl => ?_)
                        refine lv_iconst (v := nI 0) S.1 S.2.1 dX1_work_211 rfl ?_
                        refine lv_istore S.1 S.2.1 dX1_work_212 hl (by decide) rfl (fun ls hl => ?_)
                        have loopW : ∀ (k w : Nat), n - w < k → w ≤ n → ∀ (H : Heap) (locs : List Loc) (ls : Array Slot), CM loc n g (wB (wA S0 n r (S0.2.1 1 r) j (ixN (S0.2.1 3 r)) u) n r (S0.2.1 1 r) j (ixN (S0.2.1 3 r)) u i) s H locs → lv_has ls 8 [(0, .ref (loc 0)), (1, .int (nI r)), (2, .int (nI j)), (3, .int (nI t)), (4, .int (nI u)), (5, .int (nI i)), (6, .int (bI (thM (wB (wA S0 n r (S0.2.1 1 r) j (ixN (S0.2.1 3 r)) u) n r (S0.2.1 1 r) j (ixN (S0.2.1 3 r)) u i) j t u i w))), (7, .int (nI w))] → W p l e (rmL 3 0 0) s m ([.ref (loc 0), .int (nI r)] : List Value).toArray below meth c H locs 0 0 (MQ below (va_Qv (fun S' => S' = workM S0 n r) (fun S' t => HM loc n g S' t.heap) (ZA loc 10)) ([.ref (loc 0), .int (nI r)] : List Value).toArray s (rmL 3 0 0).cells (rmL 3 0 0).slots (ZA loc 10)) (F0 m 214 ls []) := by
                          intro k
                          induction k with
                          | zero => intro w hk; omega
                          | succ k ihW =>
                            intro w hkW hiW  H locs ls hC hl
                            refine lv_iload S.1 S.2.1 dX1_work_214 (lv_at hl 7 rfl) ?_
                            refine lv_aload_n S.1 S.2.1 dX1_work_216 rfl (lv_at hl 0 rfl) ?_
                            refine m_get_things S hC dX1_work_217 ?_
                            refine n_icmp_ge (tgt := 273) S.1 S.2.1 dX1_work_220 (by decide) (by omega) (by omega) (fun c220 => ?_) (fun c220 => ?_)
                            · skip
                              rw [show w = n by omega, show thM (wB (wA S0 n r (S0.2.1 1 r) j (ixN (S0.2.1 3 r)) u) n r (S0.2.1 1 r) j (ixN (S0.2.1 3 r)) u i) j t u i n = wV (wB (wA S0 n r (S0.2.1 1 r) j (ixN (S0.2.1 3 r)) u) n r (S0.2.1 1 r) j (ixN (S0.2.1 3 r)) u i) n (S0.2.1 1 r) j (ixN (S0.2.1 3 r)) u i by rw [wV, if_neg h44_10, if_neg h44_11, if_neg h44_12, if_neg h44_13, if_pos h44_14, eY]] at hl
                              refine lv_goto (tgt := 291) S.1 S.2.1 dX1_work_273 (by decide) ?_
                              refine lv_aload_n S.1 S.2.1 dX1_work_291 rfl (lv_at hl 0 rfl) ?_
                              refine m_get_pairs S hC dX1_work_292 ?_
                              refine lv_iload_n S.1 S.2.1 dX1_work_295 rfl (lv_at hl 1 rfl) ?_
                              refine lv_iload S.1 S.2.1 dX1_work_296 (lv_at hl 4 rfl) ?_
                              refine lv_iload S.1 S.2.1 dX1_work_298 (lv_at hl 5 rfl) ?_
                              refine s_calli S (c_X1_at l r u i) cw_RX1_X1_at ⟨rfl, rfl, by decide, by decide⟩ rfl hl.1 rfl (Nat.le_of_ble_eq_true rfl) dX1_work_300 ⟨(Nat.le_of_ble_eq_true rfl), (Nat.le_of_ble_eq_true rfl)⟩ (fun r300 hp => ?_)
                              subst hp
                              refine lv_iload S.1 S.2.1 dX1_work_303 (lv_at hl 6 rfl) ?_
                              refine m_zst S hC 0 (by decide) (ixP_lt hr12 (by omega) (by omega)) rfl dX1_work_305 (fun H locs hC => ?_)
                              refine lv_iinc (k := 5) S.1 S.2.1 dX1_work_306 hl rfl (n_inc _) (by decide) rfl (fun ls hl => ?_)
                              refine lv_goto (tgt := 29) S.1 S.2.1 dX1_work_309 (by decide) ?_
                              exact ih (i + 1) (by omega) (by omega) _ _ _ (by rw [wB]; exact hC) (by rw [e3]; exact lv_sub hl [1, 2, 3, 4, 5, 0] rfl)
                            · skip
                              refine lv_iload S.1 S.2.1 dX1_work_223 (lv_at hl 6 rfl) ?_
                              refine b_if_ne (tgt := 260) S.1 S.2.1 dX1_work_225 (by decide) (fun c225 => ?_) (fun c225 => ?_)
                              · skip
                                refine lv_iconst (v := bI (thM (wB (wA S0 n r (S0.2.1 1 r) j (ixN (S0.2.1 3 r)) u) n r (S0.2.1 1 r) j (ixN (S0.2.1 3 r)) u i) j t u i (w + 1))) S.1 S.2.1 dX1_work_260 (by rw [show thM (wB (wA S0 n r (S0.2.1 1 r) j (ixN (S0.2.1 3 r)) u) n r (S0.2.1 1 r) j (ixN (S0.2.1 3 r)) u i) j t u i (w + 1) = true by rw [thM]; rw [c225]; rfl]; rfl) ?_
                                refine lv_goto (tgt := 265) S.1 S.2.1 dX1_work_261 (by decide) ?_
                                refine lv_istore S.1 S.2.1 dX1_work_265 hl (by decide) rfl (fun ls hl => ?_)
                                refine lv_iinc (k := 7) S.1 S.2.1 dX1_work_267 hl rfl (n_inc _) (by decide) rfl (fun ls hl => ?_)
                                refine lv_goto (tgt := 214) S.1 S.2.1 dX1_work_270 (by decide) ?_
                                exact ihW (w + 1) (by omega) (by omega) _ _ _ hC (lv_sub hl [2, 3, 4, 5, 6, 7, 1, 0] rfl)
                              · skip
                                refine lv_aload_n S.1 S.2.1 dX1_work_228 rfl (lv_at hl 0 rfl) ?_
                                refine m_get_pairs S hC dX1_work_229 ?_
                                refine lv_iload_n S.1 S.2.1 dX1_work_232 rfl (lv_at hl 2 rfl) ?_
                                refine lv_iload S.1 S.2.1 dX1_work_233 (lv_at hl 4 rfl) ?_
                                refine lv_iload S.1 S.2.1 dX1_work_235 (lv_at hl 7 rfl) ?_
                                refine s_calli S (c_X1_at l j u w) cw_RX1_X1_at ⟨rfl, rfl, by decide, by decide⟩ rfl hl.1 rfl (Nat.le_of_ble_eq_true rfl) dX1_work_237 ⟨(Nat.le_of_ble_eq_true rfl), (Nat.le_of_ble_eq_true rfl)⟩ (fun r237 hp => ?_)
                                subst hp
                                refine m_zld S hC 0 (by decide) (ixP_lt hj (by omega) (by omega)) dX1_work_240 ?_
                                refine b_if_eq (tgt := 264) S.1 S.2.1 dX1_work_241 (by decide) (fun c241 => ?_) (fun c241 => ?_)
                                · skip
                                  refine lv_iconst (v := bI (thM (wB (wA S0 n r (S0.2.1 1 r) j (ixN (S0.2.1 3 r)) u) n r (S0.2.1 1 r) j (ixN (S0.2.1 3 r)) u i) j t u i (w + 1))) S.1 S.2.1 dX1_work_264 (by rw [show thM (wB (wA S0 n r (S0.2.1 1 r) j (ixN (S0.2.1 3 r)) u) n r (S0.2.1 1 r) j (ixN (S0.2.1 3 r)) u i) j t u i (w + 1) = false by rw [thM]; rw [c225, show pM (wB (wA S0 n r (S0.2.1 1 r) j (ixN (S0.2.1 3 r)) u) n r (S0.2.1 1 r) j (ixN (S0.2.1 3 r)) u i) j u w = false from c241]; rfl]; rfl) ?_
                                  refine lv_istore S.1 S.2.1 dX1_work_265 hl (by decide) rfl (fun ls hl => ?_)
                                  refine lv_iinc (k := 7) S.1 S.2.1 dX1_work_267 hl rfl (n_inc _) (by decide) rfl (fun ls hl => ?_)
                                  refine lv_goto (tgt := 214) S.1 S.2.1 dX1_work_270 (by decide) ?_
                                  exact ihW (w + 1) (by omega) (by omega) _ _ _ hC (lv_sub hl [2, 3, 4, 5, 6, 7, 1, 0] rfl)
                                · skip
                                  refine lv_aload_n S.1 S.2.1 dX1_work_244 rfl (lv_at hl 0 rfl) ?_
                                  refine m_get_pairs S hC dX1_work_245 ?_
                                  refine lv_iload_n S.1 S.2.1 dX1_work_248 rfl (lv_at hl 3 rfl) ?_
                                  refine lv_iload S.1 S.2.1 dX1_work_249 (lv_at hl 7 rfl) ?_
                                  refine lv_iload S.1 S.2.1 dX1_work_251 (lv_at hl 5 rfl) ?_
                                  refine s_calli S (c_X1_at l t w i) cw_RX1_X1_at ⟨rfl, rfl, by decide, by decide⟩ rfl hl.1 rfl (Nat.le_of_ble_eq_true rfl) dX1_work_253 ⟨(Nat.le_of_ble_eq_true rfl), (Nat.le_of_ble_eq_true rfl)⟩ (fun r253 hp => ?_)
                                  subst hp
                                  refine m_zld S hC 0 (by decide) (ixP_lt ht12 (by omega) (by omega)) dX1_work_256 ?_
                                  refine b_if_eq (tgt := 264) S.1 S.2.1 dX1_work_257 (by decide) (fun c257 => ?_) (fun c257 => ?_)
                                  · skip
                                    refine lv_iconst (v := bI (thM (wB (wA S0 n r (S0.2.1 1 r) j (ixN (S0.2.1 3 r)) u) n r (S0.2.1 1 r) j (ixN (S0.2.1 3 r)) u i) j t u i (w + 1))) S.1 S.2.1 dX1_work_264 (by rw [show thM (wB (wA S0 n r (S0.2.1 1 r) j (ixN (S0.2.1 3 r)) u) n r (S0.2.1 1 r) j (ixN (S0.2.1 3 r)) u i) j t u i (w + 1) = false by rw [thM]; rw [c225, show pM (wB (wA S0 n r (S0.2.1 1 r) j (ixN (S0.2.1 3 r)) u) n r (S0.2.1 1 r) j (ixN (S0.2.1 3 r)) u i) j u w = true from c241, show pM (wB (wA S0 n r (S0.2.1 1 r) j (ixN (S0.2.1 3 r)) u) n r (S0.2.1 1 r) j (ixN (S0.2.1 3 r)) u i) t w i = false from c257]; rfl]; rfl) ?_
                                    refine lv_istore S.1 S.2.1 dX1_work_265 hl (by decide) rfl (fun ls hl => ?_)
                                    refine lv_iinc (k := 7) S.1 S.2.1 dX1_work_267 hl rfl (n_inc _) (by decide) rfl (fun ls hl => ?_)
                                    refine lv_goto (tgt := 214) S.1 S.2.1 dX1_work_270 (by decide) ?_
                                    exact ihW (w + 1) (by omega) (by omega) _ _ _ hC (lv_sub hl [2, 3, 4, 5, 6, 7, 1, 0] rfl)
                                  · skip
                                    refine lv_iconst (v := bI (thM (wB (wA S0 n r (S0.2.1 1 r) j (ixN (S0.2.1 3 r)) u) n r (S0.2.1 1 r) j (ixN (S0.2.1 3 r)) u i) j t u i (w + 1))) S.1 S.2.1 dX1_work_260 (by rw [show thM (wB (wA S0 n r (S0.2.1 1 r) j (ixN (S0.2.1 3 r)) u) n r (S0.2.1 1 r) j (ixN (S0.2.1 3 r)) u i) j t u i (w + 1) = true by rw [thM]; rw [c225, show pM (wB (wA S0 n r (S0.2.1 1 r) j (ixN (S0.2.1 3 r)) u) n r (S0.2.1 1 r) j (ixN (S0.2.1 3 r)) u i) j u w = true from c241, show pM (wB (wA S0 n r (S0.2.1 1 r) j (ixN (S0.2.1 3 r)) u) n r (S0.2.1 1 r) j (ixN (S0.2.1 3 r)) u i) t w i = true from c257]; rfl]; rfl) ?_
                                    refine lv_goto (tgt := 265) S.1 S.2.1 dX1_work_261 (by decide) ?_
                                    refine lv_istore S.1 S.2.1 dX1_work_265 hl (by decide) rfl (fun ls hl => ?_)
                                    refine lv_iinc (k := 7) S.1 S.2.1 dX1_work_267 hl rfl (n_inc _) (by decide) rfl (fun ls hl => ?_)
                                    refine lv_goto (tgt := 214) S.1 S.2.1 dX1_work_270 (by decide) ?_
                                    exact ihW (w + 1) (by omega) (by omega) _ _ _ hC (lv_sub hl [2, 3, 4, 5, 6, 7, 1, 0] rfl)
                        exact loopW (n + 1) 0 (by omega) (by omega) _ _ _ hC (lv_sub hl [2, 3, 4, 5, 6, 7, 1, 0] rfl)
                      · skip
                        refine lv_tableOut (tgt := 276) S.1 S.2.1 dX1_work_44 (Or.inr (by rw [hf, nI_toInt (by omega)]; rcases (show cn = 0 ∨ cn = 1 ∨ cn = 2 ∨ cn = 3 ∨ cn = 4 ∨ cn = 5 by omega) with rfl | rfl | rfl | rfl | rfl | rfl; exact absurd hf h44_10; exact absurd hf h44_11; exact absurd hf h44_12; exact absurd hf h44_13; exact absurd hf h44_14; decide)) (by decide) ?_
                        refine lv_aload_n S.1 S.2.1 dX1_work_276 rfl (lv_at hl 0 rfl) ?_
                        refine m_get_pairs S hC dX1_work_277 ?_
                        refine lv_iload_n S.1 S.2.1 dX1_work_280 rfl (lv_at hl 2 rfl) ?_
                        refine lv_iload S.1 S.2.1 dX1_work_281 (lv_at hl 4 rfl) ?_
                        refine lv_iload S.1 S.2.1 dX1_work_283 (lv_at hl 5 rfl) ?_
                        refine s_calli S (c_X1_at l j u i) cw_RX1_X1_at ⟨rfl, rfl, by decide, by decide⟩ rfl hl.1 rfl (Nat.le_of_ble_eq_true rfl) dX1_work_285 ⟨(Nat.le_of_ble_eq_true rfl), (Nat.le_of_ble_eq_true rfl)⟩ (fun r285 hp => ?_)
                        subst hp
                        refine m_zld S hC 0 (by decide) (ixP_lt hj (by omega) (by omega)) dX1_work_288 ?_
                        rw [show (wB (wA S0 n r (S0.2.1 1 r) j (ixN (S0.2.1 3 r)) u) n r (S0.2.1 1 r) j (ixN (S0.2.1 3 r)) u i).2.2 0 (ixP j u i) = wV (wB (wA S0 n r (S0.2.1 1 r) j (ixN (S0.2.1 3 r)) u) n r (S0.2.1 1 r) j (ixN (S0.2.1 3 r)) u i) n (S0.2.1 1 r) j (ixN (S0.2.1 3 r)) u i by rw [wV, if_neg h44_10, if_neg h44_11, if_neg h44_12, if_neg h44_13, if_neg h44_14]; rfl]
                        refine lv_istore S.1 S.2.1 dX1_work_289 hl (by decide) rfl (fun ls hl => ?_)
                        refine lv_aload_n S.1 S.2.1 dX1_work_291 rfl (lv_at hl 1 rfl) ?_
                        refine m_get_pairs S hC dX1_work_292 ?_
                        refine lv_iload_n S.1 S.2.1 dX1_work_295 rfl (lv_at hl 2 rfl) ?_
                        refine lv_iload S.1 S.2.1 dX1_work_296 (lv_at hl 5 rfl) ?_
                        refine lv_iload S.1 S.2.1 dX1_work_298 (lv_at hl 6 rfl) ?_
                        refine s_calli S (c_X1_at l r u i) cw_RX1_X1_at ⟨rfl, rfl, by decide, by decide⟩ rfl hl.1 rfl (Nat.le_of_ble_eq_true rfl) dX1_work_300 ⟨(Nat.le_of_ble_eq_true rfl), (Nat.le_of_ble_eq_true rfl)⟩ (fun r300 hp => ?_)
                        subst hp
                        refine lv_iload S.1 S.2.1 dX1_work_303 (lv_at hl 0 rfl) ?_
                        refine m_zst S hC 0 (by decide) (ixP_lt hr12 (by omega) (by omega)) rfl dX1_work_305 (fun H locs hC => ?_)
                        refine lv_iinc (k := 6) S.1 S.2.1 dX1_work_306 hl rfl (n_inc _) (by decide) rfl (fun ls hl => ?_)
                        refine lv_goto (tgt := 29) S.1 S.2.1 dX1_work_309 (by decide) ?_
                        exact ih (i + 1) (by omega) (by omega) _ _ _ (by rw [wB]; exact hC) (lv_sub hl [2, 3, 4, 5, 6, 0] rfl)
        exact loop (n + 1) 0 (by omega) (by omega) _ _ _ hC (lv_sub hl [1, 2, 3, 4, 5, 0] rfl)
  exact loopU (n + 1) 0 (by omega) (by omega) _ _ _ hC (lv_sub hl [3, 4, 2, 1, 0] rfl)
