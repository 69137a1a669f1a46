def nC (S : MS) (r t x : Nat) : Bool := pM S r t x && decide (S.2.1 7 x = S.2.1 7 t - nI 1)
def nrM (S : MS) (r t : Nat) : Nat → Nat → Nat
  | 0, x => x
  | k + 1, x => if nC S r t x then x else nrM S r t k (x + 1)
def rtM (S : MS) (r n a : Nat) : Nat → Nat
  | 0 => a
  | k + 1 => nrM S r (rtM S r n a k) n 0
theorem nrM_sI (S : MS) (k : Nat) (v : Int32) (r t : Nat) : ∀ m x, nrM (sI S k v) r t m x = nrM S r t m x
  | 0, _ => rfl
  | m + 1, x => by
    unfold nrM
    rw [nrM_sI S k v r t m (x + 1)]
    rfl
theorem rtM_sI (S : MS) (k : Nat) (v : Int32) (r n a : Nat) : ∀ j, rtM (sI S k v) r n a j = rtM S r n a j
  | 0 => rfl
  | j + 1 => by
    unfold rtM
    rw [rtM_sI S k v r n a j, nrM_sI]
def roC (S : MS) (a : Nat) (i : Int32) : Int32 := if inB i (nI 0) (S.2.1 7 a) = true then nI 0 else nI 2
theorem roC_0 {S : MS} {a : Nat} {i : Int32} (h : roC S a i = 0) : ¬ i < 0 := by
  unfold roC at h
  by_cases q : inB i (nI 0) (S.2.1 7 a) = true
  · simp only [inB, Bool.and_eq_true, decide_eq_true_eq, nI_0] at q
    exact q.1
  · rw [if_neg q] at h; exact absurd h (by decide)
set_option maxRecDepth 100000 in
set_option maxHeartbeats 4000000 in
theorem c_X1_route (l : Launch) {loc : Nat → Nat} {n : Nat} {g : Gc} (hn : n ≤ 40) {S0 : MS} {R : Nat} (hR : R ≤ 12) (hrel : S0.1 1 = nI R) (hw : ∀ q, q < R → ¬ S0.2.1 1 q < nI 10 → wfM S0 q) (x a b i : Int32) (hex : tC n R x a b = 0 → roC (measM (sI S0 0 (tC n R x a b)) n (ixN x) (ixN b)) (ixN a) i = 0 → ∀ k, k < ixN i → rtM (measM (sI S0 0 (tC n R x a b)) n (ixN x) (ixN b)) (ixN x) n (ixN a) k < n ∧ ∃ w, w < n ∧ nC (measM (sI S0 0 (tC n R x a b)) n (ixN x) (ixN b)) (ixN x) (rtM (measM (sI S0 0 (tC n R x a b)) n (ixN x) (ixN b)) (ixN x) n (ixN a) k) w = true) : MMi l yX1_route cX1_route 8 (some .int) (rmL 7 0 0) loc n g S0 [.int x, .int a, .int b, .int i] (fun v S' => S' = (if tC n R x a b = 0 then sI (measM (sI S0 0 (tC n R x a b)) n (ixN x) (ixN b)) 0 (roC (measM (sI S0 0 (tC n R x a b)) n (ixN x) (ixN b)) (ixN a) i) else sI S0 0 (tC n R x a b)) ∧ v = (if tC n R x a b = 0 then (if roC (measM (sI S0 0 (tC n R x a b)) n (ixN x) (ixN b)) (ixN a) i = 0 then nI (rtM S' (ixN x) n (ixN a) (ixN i)) else nI 0) else nI 0)) := by
  refine o_enter (by decide) (Nat.le_of_ble_eq_true rfl) ?_
  intro p e s m below meth c ls S hr hlocks hC hl
  have tail65 : ∀ (r a' b' : Nat) (hr12 : r < 12) (ha : a' < n) (er : ixN x = r) (ea : ixN a = a') (eb : ixN b = b') (c38 : tC n R x a b = 0), ∀ (H : Heap) (locs : List Loc) (ls : Array Slot), CM loc n g (measM (sI S0 0 (tC n R x a b)) n r b') s H locs → lv_has ls 8 [(0, .ref (loc 0)), (1, .int (nI r)), (2, (.int (nI a'))), (4, .int i)] → W p l e (rmL 7 0 0) s m ([.ref (loc 0), .int x, .int a, .int b, .int i] : List Value).toArray below meth c H locs 0 0 (MQ below (va_Qi (fun v S' => S' = (if tC n R x a b = 0 then sI (measM (sI S0 0 (tC n R x a b)) n (ixN x) (ixN b)) 0 (roC (measM (sI S0 0 (tC n R x a b)) n (ixN x) (ixN b)) (ixN a) i) else sI S0 0 (tC n R x a b)) ∧ v = (if tC n R x a b = 0 then (if roC (measM (sI S0 0 (tC n R x a b)) n (ixN x) (ixN b)) (ixN a) i = 0 then nI (rtM S' (ixN x) n (ixN a) (ixN i)) else nI 0) else nI 0)) (fun S' t => HM loc n g S' t.heap) (ZA loc 10)) ([.ref (loc 0), .int x, .int a, .int b, .int i] : List Value).toArray s (rmL 7 0 0).cells (rmL 7 0 0).slots (ZA loc 10)) (F0 m 65 ls [.int (roC (measM (sI S0 0 (tC n R x a b)) n r b') a' i), .ref (loc 0)]) := by
    intro r a' b' hr12 ha er ea eb c38 H locs ls hC hl
    refine o_calli oiM S hC (c_X1_isGood l hn _) cw_RX1_X1_isGood ⟨rfl, rfl, by decide, by decide⟩ rfl hl.1 rfl (Nat.le_of_ble_eq_true rfl) dX1_route_65 ⟨(Nat.le_of_ble_eq_true rfl), (Nat.le_of_ble_eq_true rfl)⟩ (fun r65 S1 H locs hp hC1 => ?_)
    obtain ⟨e1, hp⟩ := hp
    rw [e1] at hC1; replace hC := hC1
    subst hp
    refine b_if_ne (tgt := 73) S.1 S.2.1 dX1_route_68 (by decide) (fun c68 => ?_) (fun c68 => ?_)
    · have c69 : roC (measM (sI S0 0 (tC n R x a b)) n r b') a' i = 0 := by simpa using c68
      have c70 : roC (measM (sI S0 0 (tC n R x a b)) n (ixN x) (ixN b)) (ixN a) i = 0 := by rw [er, ea, eb]; exact c69
      have hx2 := hex c38 c70
      clear hex hw
      obtain ⟨q, hq31, e0i⟩ := nI_of (roC_0 c69)
      have ei : ixN i = q := by rw [e0i]; exact ixN_nI hq31
      rw [e0i] at hl
      rw [er, ea, eb, ei] at hx2
      have hx2 : ∀ k, k < q → rtM (sI (measM (sI S0 0 (tC n R x a b)) n r b') 0 (roC (measM (sI S0 0 (tC n R x a b)) n r b') a' i)) r n a' k < n ∧ ∃ w, w < n ∧ nC (sI (measM (sI S0 0 (tC n R x a b)) n r b') 0 (roC (measM (sI S0 0 (tC n R x a b)) n r b') a' i)) r (rtM (sI (measM (sI S0 0 (tC n R x a b)) n r b') 0 (roC (measM (sI S0 0 (tC n R x a b)) n r b') a' i)) r n a' k) w = true := fun k hk => by rw [rtM_sI]; exact hx2 k hk
      refine lv_iload_n S.1 S.2.1 dX1_route_73 rfl (lv_at hl 2 rfl) ?_
      refine lv_istore S.1 S.2.1 dX1_route_74 hl (by decide) rfl (fun ls hl => ?_)
      refine lv_iconst (v := nI 0) S.1 S.2.1 dX1_route_76 rfl ?_
      refine lv_istore S.1 S.2.1 dX1_route_77 hl (by decide) rfl (fun ls hl => ?_)
      have loopJ : ∀ (k j : Nat), q - j < k → j ≤ q → ∀ (H : Heap) (locs : List Loc) (ls : Array Slot), CM loc n g (sI (measM (sI S0 0 (tC n R x a b)) n r b') 0 (roC (measM (sI S0 0 (tC n R x a b)) n r b') a' i)) s H locs → lv_has ls 8 [(0, .ref (loc 0)), (1, .int (nI r)), (4, .int (nI q)), (5, (.int (nI (rtM (sI (measM (sI S0 0 (tC n R x a b)) n r b') 0 (roC (measM (sI S0 0 (tC n R x a b)) n r b') a' i)) r n a' j)))), (6, .int (nI j))] → W p l e (rmL 7 0 0) s m ([.ref (loc 0), .int x, .int a, .int b, .int i] : List Value).toArray below meth c H locs 0 0 (MQ below (va_Qi (fun v S' => S' = (if tC n R x a b = 0 then sI (measM (sI S0 0 (tC n R x a b)) n (ixN x) (ixN b)) 0 (roC (measM (sI S0 0 (tC n R x a b)) n (ixN x) (ixN b)) (ixN a) i) else sI S0 0 (tC n R x a b)) ∧ v = (if tC n R x a b = 0 then (if roC (measM (sI S0 0 (tC n R x a b)) n (ixN x) (ixN b)) (ixN a) i = 0 then nI (rtM S' (ixN x) n (ixN a) (ixN i)) else nI 0) else nI 0)) (fun S' t => HM loc n g S' t.heap) (ZA loc 10)) ([.ref (loc 0), .int x, .int a, .int b, .int i] : List Value).toArray s (rmL 7 0 0).cells (rmL 7 0 0).slots (ZA loc 10)) (F0 m 79 ls []) := by
        intro k
        induction k with
        | zero => intro j hk; omega
        | succ k ihJ =>
          intro j hkJ hiJ  H locs ls hC hl
          refine lv_iload S.1 S.2.1 dX1_route_79 (lv_at hl 4 rfl) ?_
          refine lv_iload S.1 S.2.1 dX1_route_81 (lv_at hl 2 rfl) ?_
          refine n_icmp_ge (tgt := 140) S.1 S.2.1 dX1_route_83 (by decide) (by omega) (by omega) (fun c83 => ?_) (fun c83 => ?_)
          · skip
            refine lv_iload S.1 S.2.1 dX1_route_140 (lv_at hl 3 rfl) ?_
            exact o_iret S hr hlocks hC ⟨by rw [if_pos c38, er, ea, eb], by rw [if_pos c38, if_pos c70, er, ea, ei, show q = j by omega]⟩ rfl dX1_route_142 (Nat.le_of_ble_eq_true rfl) (Nat.le_of_ble_eq_true rfl)
          · skip
            refine lv_iconst (v := nI 0) S.1 S.2.1 dX1_route_86 rfl ?_
            refine lv_istore S.1 S.2.1 dX1_route_87 hl (by decide) rfl (fun ls hl => ?_)
            have loopW : ∀ (k w : Nat), n - w < k → w ≤ n → ∀ (hT : nrM (sI (measM (sI S0 0 (tC n R x a b)) n r b') 0 (roC (measM (sI S0 0 (tC n R x a b)) n r b') a' i)) r (rtM (sI (measM (sI S0 0 (tC n R x a b)) n r b') 0 (roC (measM (sI S0 0 (tC n R x a b)) n r b') a' i)) r n a' j) n 0 = nrM (sI (measM (sI S0 0 (tC n R x a b)) n r b') 0 (roC (measM (sI S0 0 (tC n R x a b)) n r b') a' i)) r (rtM (sI (measM (sI S0 0 (tC n R x a b)) n r b') 0 (roC (measM (sI S0 0 (tC n R x a b)) n r b') a' i)) r n a' j) (n - w) w) (hx : ∃ y, w ≤ y ∧ y < n ∧ nC (sI (measM (sI S0 0 (tC n R x a b)) n r b') 0 (roC (measM (sI S0 0 (tC n R x a b)) n r b') a' i)) r (rtM (sI (measM (sI S0 0 (tC n R x a b)) n r b') 0 (roC (measM (sI S0 0 (tC n R x a b)) n r b') a' i)) r n a' j) y = true), ∀ (H : Heap) (locs : List Loc) (ls : Array Slot), CM loc n g (sI (measM (sI S0 0 (tC n R x a b)) n r b') 0 (roC (measM (sI S0 0 (tC n R x a b)) n r b') a' i)) s H locs → lv_has ls 8 [(0, .ref (loc 0)), (1, .int (nI r)), (4, .int (nI q)), (5, (.int (nI (rtM (sI (measM (sI S0 0 (tC n R x a b)) n r b') 0 (roC (measM (sI S0 0 (tC n R x a b)) n r b') a' i)) r n a' j)))), (6, .int (nI j)), (7, .int (nI w))] → W p l e (rmL 7 0 0) s m ([.ref (loc 0), .int x, .int a, .int b, .int i] : List Value).toArray below meth c H locs 0 0 (MQ below (va_Qi (fun v S' => S' = (if tC n R x a b = 0 then sI (measM (sI S0 0 (tC n R x a b)) n (ixN x) (ixN b)) 0 (roC (measM (sI S0 0 (tC n R x a b)) n (ixN x) (ixN b)) (ixN a) i) else sI S0 0 (tC n R x a b)) ∧ v = (if tC n R x a b = 0 then (if roC (measM (sI S0 0 (tC n R x a b)) n (ixN x) (ixN b)) (ixN a) i = 0 then nI (rtM S' (ixN x) n (ixN a) (ixN i)) else nI 0) else nI 0)) (fun S' t => HM loc n g S' t.heap) (ZA loc 10)) ([.ref (loc 0), .int x, .int a, .int b, .int i] : List Value).toArray s (rmL 7 0 0).cells (rmL 7 0 0).slots (ZA loc 10)) (F0 m 89 ls []) := by
              intro k
              induction k with
              | zero => intro w hk; omega
              | succ k ihW =>
                intro w hkW hiW hT hx H locs ls hC hl
                obtain ⟨y9, q1, q2, q3⟩ := hx
                have hlt := (hx2 j (by omega)).1
                refine lv_aload_n S.1 S.2.1 dX1_route_89 rfl (lv_at hl 0 rfl) ?_
                refine m_get_pairs S hC dX1_route_90 ?_
                refine lv_iload_n S.1 S.2.1 dX1_route_93 rfl (lv_at hl 1 rfl) ?_
                refine lv_iload S.1 S.2.1 dX1_route_94 (lv_at hl 3 rfl) ?_
                refine lv_iload S.1 S.2.1 dX1_route_96 (lv_at hl 5 rfl) ?_
                refine s_calli S (c_X1_at l r (rtM (sI (measM (sI S0 0 (tC n R x a b)) n r b') 0 (roC (measM (sI S0 0 (tC n R x a b)) n r b') a' i)) r n a' j) w) cw_RX1_X1_at ⟨rfl, rfl, by decide, by decide⟩ rfl hl.1 rfl (Nat.le_of_ble_eq_true rfl) dX1_route_98 ⟨(Nat.le_of_ble_eq_true rfl), (Nat.le_of_ble_eq_true rfl)⟩ (fun r98 hp => ?_)
                subst hp
                refine m_zld S hC 0 (by decide) (ixP_lt hr12 (Nat.lt_of_lt_of_le hlt hn) (by omega)) dX1_route_101 ?_
                refine b_if_eq (tgt := 124) S.1 S.2.1 dX1_route_102 (by decide) (fun c102 => ?_) (fun c102 => ?_)
                · skip
                  refine lv_iinc (k := 5) S.1 S.2.1 dX1_route_124 hl rfl (n_inc _) (by decide) rfl (fun ls hl => ?_)
                  refine lv_goto (tgt := 89) S.1 S.2.1 dX1_route_127 (by decide) ?_
                  have hne : nC (sI (measM (sI S0 0 (tC n R x a b)) n r b') 0 (roC (measM (sI S0 0 (tC n R x a b)) n r b') a' i)) r (rtM (sI (measM (sI S0 0 (tC n R x a b)) n r b') 0 (roC (measM (sI S0 0 (tC n R x a b)) n r b') a' i)) r n a' j) w = false := by unfold nC; rw [show pM (sI (measM (sI S0 0 (tC n R x a b)) n r b') 0 (roC (measM (sI S0 0 (tC n R x a b)) n r b') a' i)) r (rtM (sI (measM (sI S0 0 (tC n R x a b)) n r b') 0 (roC (measM (sI S0 0 (tC n R x a b)) n r b') a' i)) r n a' j) w = false from c102]; rfl
                  have hy : w + 1 ≤ y9 := Nat.lt_of_le_of_ne q1 (fun e => by rw [← e] at q3; rw [hne] at q3; cases q3)
                  exact ihW (w + 1) (by omega) (by omega) (by rw [hT, show n - w = (n - (w + 1)) + 1 by omega, nrM, if_neg (by rw [hne]; decide)]) ⟨y9, hy, q2, q3⟩ _ _ _ hC (lv_sub hl [1, 2, 3, 4, 5, 0] rfl)
                · skip
                  refine lv_aload_n S.1 S.2.1 dX1_route_105 rfl (lv_at hl 0 rfl) ?_
                  refine m_get_steps S hC dX1_route_106 ?_
                  refine lv_iload S.1 S.2.1 dX1_route_109 (lv_at hl 5 rfl) ?_
                  refine m_ild S hC 7 (by decide) (show w < 40 by omega) dX1_route_111 ?_
                  refine lv_aload_n S.1 S.2.1 dX1_route_112 rfl (lv_at hl 0 rfl) ?_
                  refine m_get_steps S hC dX1_route_113 ?_
                  refine lv_iload S.1 S.2.1 dX1_route_116 (lv_at hl 3 rfl) ?_
                  refine m_ild S hC 7 (by decide) (Nat.lt_of_lt_of_le hlt hn) dX1_route_118 ?_
                  refine lv_iconst (v := nI 1) S.1 S.2.1 dX1_route_119 rfl ?_
                  refine lv_isub S.1 S.2.1 dX1_route_120 ?_
                  refine lv_icmp_eq (tgt := 130) S.1 S.2.1 dX1_route_121 (by decide) (fun c121 => ?_) (fun c121 => ?_)
                  · skip
                    refine lv_iload S.1 S.2.1 dX1_route_130 (lv_at hl 5 rfl) ?_
                    refine lv_istore S.1 S.2.1 dX1_route_132 hl (by decide) rfl (fun ls hl => ?_)
                    refine lv_iinc (k := 4) S.1 S.2.1 dX1_route_134 hl rfl (n_inc _) (by decide) rfl (fun ls hl => ?_)
                    refine lv_goto (tgt := 79) S.1 S.2.1 dX1_route_137 (by decide) ?_
                    have e99 : rtM (sI (measM (sI S0 0 (tC n R x a b)) n r b') 0 (roC (measM (sI S0 0 (tC n R x a b)) n r b') a' i)) r n a' (j + 1) = w := by rw [rtM, hT, show n - w = (n - (w + 1)) + 1 by omega, nrM, if_pos (show nC (sI (measM (sI S0 0 (tC n R x a b)) n r b') 0 (roC (measM (sI S0 0 (tC n R x a b)) n r b') a' i)) r (rtM (sI (measM (sI S0 0 (tC n R x a b)) n r b') 0 (roC (measM (sI S0 0 (tC n R x a b)) n r b') a' i)) r n a' j) w = true by unfold nC; rw [show pM (sI (measM (sI S0 0 (tC n R x a b)) n r b') 0 (roC (measM (sI S0 0 (tC n R x a b)) n r b') a' i)) r (rtM (sI (measM (sI S0 0 (tC n R x a b)) n r b') 0 (roC (measM (sI S0 0 (tC n R x a b)) n r b') a' i)) r n a' j) w = true from c102, decide_eq_true c121]; rfl)]
                    exact ihJ (j + 1) (by omega) (by omega) _ _ _ hC (by rw [e99]; exact lv_sub hl [2, 3, 4, 1, 0] rfl)
                  · skip
                    refine lv_iinc (k := 5) S.1 S.2.1 dX1_route_124 hl rfl (n_inc _) (by decide) rfl (fun ls hl => ?_)
                    refine lv_goto (tgt := 89) S.1 S.2.1 dX1_route_127 (by decide) ?_
                    have hne : nC (sI (measM (sI S0 0 (tC n R x a b)) n r b') 0 (roC (measM (sI S0 0 (tC n R x a b)) n r b') a' i)) r (rtM (sI (measM (sI S0 0 (tC n R x a b)) n r b') 0 (roC (measM (sI S0 0 (tC n R x a b)) n r b') a' i)) r n a' j) w = false := by unfold nC; rw [decide_eq_false c121, Bool.and_false]
                    have hy : w + 1 ≤ y9 := Nat.lt_of_le_of_ne q1 (fun e => by rw [← e] at q3; rw [hne] at q3; cases q3)
                    exact ihW (w + 1) (by omega) (by omega) (by rw [hT, show n - w = (n - (w + 1)) + 1 by omega, nrM, if_neg (by rw [hne]; decide)]) ⟨y9, hy, q2, q3⟩ _ _ _ hC (lv_sub hl [1, 2, 3, 4, 5, 0] rfl)
            exact loopW (n + 1) 0 (by omega) (by omega) rfl ((hx2 j (by omega)).2.elim fun y q => ⟨y, Nat.zero_le y, q.1, q.2⟩) _ _ _ hC (lv_sub hl [1, 2, 3, 4, 5, 0] rfl)
      exact loopJ (q + 1) 0 (by omega) (by omega) _ _ _ hC (lv_sub hl [2, 3, 5, 1, 0] rfl)
    · have c69 : ¬ roC (measM (sI S0 0 (tC n R x a b)) n r b') a' i = 0 := by simpa using c68
      have c70 : ¬ roC (measM (sI S0 0 (tC n R x a b)) n (ixN x) (ixN b)) (ixN a) i = 0 := by rw [er, ea, eb]; exact c69
      refine lv_iconst (v := nI 0) S.1 S.2.1 dX1_route_71 rfl ?_
      exact o_iret S hr hlocks hC ⟨by rw [if_pos c38, er, ea, eb], by rw [if_pos c38, if_neg c70]⟩ rfl dX1_route_72 (Nat.le_of_ble_eq_true rfl) (Nat.le_of_ble_eq_true rfl)
  have tail30 : ∀ (H : Heap) (locs : List Loc) (ls : Array Slot), CM loc n g (S0) s H locs → lv_has ls 8 [(0, .ref (loc 0)), (1, .int x), (2, .int a), (3, .int b), (4, .int i)] → W p l e (rmL 7 0 0) s m ([.ref (loc 0), .int x, .int a, .int b, .int i] : List Value).toArray below meth c H locs 0 0 (MQ below (va_Qi (fun v S' => S' = (if tC n R x a b = 0 then sI (measM (sI S0 0 (tC n R x a b)) n (ixN x) (ixN b)) 0 (roC (measM (sI S0 0 (tC n R x a b)) n (ixN x) (ixN b)) (ixN a) i) else sI S0 0 (tC n R x a b)) ∧ v = (if tC n R x a b = 0 then (if roC (measM (sI S0 0 (tC n R x a b)) n (ixN x) (ixN b)) (ixN a) i = 0 then nI (rtM S' (ixN x) n (ixN a) (ixN i)) else nI 0) else nI 0)) (fun S' t => HM loc n g S' t.heap) (ZA loc 10)) ([.ref (loc 0), .int x, .int a, .int b, .int i] : List Value).toArray s (rmL 7 0 0).cells (rmL 7 0 0).slots (ZA loc 10)) (F0 m 30 ls [.int (tC n R x a b), .ref (loc 0)]) := by
    intro  H locs ls hC hl
    refine o_calli oiM S hC (c_X1_isGood l hn _) cw_RX1_X1_isGood ⟨rfl, rfl, by decide, by decide⟩ rfl hl.1 rfl (Nat.le_of_ble_eq_true rfl) dX1_route_30 ⟨(Nat.le_of_ble_eq_true rfl), (Nat.le_of_ble_eq_true rfl)⟩ (fun r30 S1 H locs hp hC1 => ?_)
    obtain ⟨e1, hp⟩ := hp
    rw [e1] at hC1; replace hC := hC1
    subst hp
    refine b_if_ne (tgt := 38) S.1 S.2.1 dX1_route_33 (by decide) (fun c33 => ?_) (fun c33 => ?_)
    · have c38 : tC n R x a b = 0 := by simpa using c33
      obtain ⟨h9, h10, h11⟩ := tC_0 c38
      obtain ⟨r, hrR, e0x⟩ := inI_t (by omega) h9
      obtain ⟨a', ha, e0a⟩ := inI_t (by omega) h10
      obtain ⟨b', hb, e0b⟩ := inI_t (by omega) h11
      have er : ixN x = r := by rw [e0x]; exact ixN_nI (by omega)
      have ea : ixN a = a' := by rw [e0a]; exact ixN_nI (by omega)
      have eb : ixN b = b' := by rw [e0b]; exact ixN_nI (by omega)
      have hr12 : r < 12 := by omega
      rw [e0x, e0a, e0b] at hl
      refine lv_aload_n S.1 S.2.1 dX1_route_38 rfl (lv_at hl 0 rfl) ?_
      refine lv_iload_n S.1 S.2.1 dX1_route_39 rfl (lv_at hl 1 rfl) ?_
      refine lv_iload_n S.1 S.2.1 dX1_route_40 rfl (lv_at hl 3 rfl) ?_
      refine o_callv oiM S hC (c_X1_measure l hn hr12 hb (fun q hq => hw q (by omega))) cw_RX1_X1_measure ⟨rfl, rfl, by decide, by decide⟩ rfl hl.1 rfl (Nat.le_of_ble_eq_true rfl) dX1_route_41 ⟨(Nat.le_of_ble_eq_true rfl), (Nat.le_of_ble_eq_true rfl)⟩ (fun S1 H locs hp hC1 => ?_)
      have e1 := hp
      rw [e1] at hC1; replace hC := hC1
      refine lv_aload_n S.1 S.2.1 dX1_route_44 rfl (lv_at hl 0 rfl) ?_
      refine lv_iload S.1 S.2.1 dX1_route_45 (lv_at hl 4 rfl) ?_
      refine lv_iconst (v := nI 0) S.1 S.2.1 dX1_route_47 rfl ?_
      refine lv_aload_n S.1 S.2.1 dX1_route_48 rfl (lv_at hl 0 rfl) ?_
      refine m_get_steps S hC dX1_route_49 ?_
      refine lv_iload_n S.1 S.2.1 dX1_route_52 rfl (lv_at hl 2 rfl) ?_
      refine m_ild S hC 7 (by decide) (show a' < 40 by omega) dX1_route_53 ?_
      refine s_calli S (c_X1_isIn l _ _ _) cw_RX1_X1_isIn ⟨rfl, rfl, by decide, by decide⟩ rfl hl.1 rfl (Nat.le_of_ble_eq_true rfl) dX1_route_54 ⟨(Nat.le_of_ble_eq_true rfl), (Nat.le_of_ble_eq_true rfl)⟩ (fun r54 hp => ?_)
      subst hp
      refine b_if_ne (tgt := 64) S.1 S.2.1 dX1_route_57 (by decide) (fun c57 => ?_) (fun c57 => ?_)
      · skip
        refine lv_iconst (v := roC (measM (sI S0 0 (tC n R x a b)) n r b') a' i) S.1 S.2.1 dX1_route_64 (by rw [show roC (measM (sI S0 0 (tC n R x a b)) n r b') a' i = nI 0 by rw [roC, if_pos c57]]; rfl) ?_
        exact tail65 r a' b' hr12 ha er ea eb c38 _ _ _ hC (lv_sub hl [0, 1, 2, 4] rfl)
      · skip
        refine lv_iconst (v := roC (measM (sI S0 0 (tC n R x a b)) n r b') a' i) S.1 S.2.1 dX1_route_60 (by rw [show roC (measM (sI S0 0 (tC n R x a b)) n r b') a' i = nI 2 by rw [roC, if_neg (by rw [c57]; decide)]]; rfl) ?_
        refine lv_goto (tgt := 65) S.1 S.2.1 dX1_route_61 (by decide) ?_
        exact tail65 r a' b' hr12 ha er ea eb c38 _ _ _ hC (lv_sub hl [0, 1, 2, 4] rfl)
    · have c38 : ¬ tC n R x a b = 0 := by simpa using c33
      refine lv_iconst (v := nI 0) S.1 S.2.1 dX1_route_36 rfl ?_
      exact o_iret S hr hlocks hC ⟨by rw [if_neg c38], by rw [if_neg c38]⟩ rfl dX1_route_37 (Nat.le_of_ble_eq_true rfl) (Nat.le_of_ble_eq_true rfl)
  refine lv_aload_n S.1 S.2.1 dX1_route_0 rfl (lv_at hl 0 rfl) ?_
  refine lv_aload_n S.1 S.2.1 dX1_route_1 rfl (lv_at hl 0 rfl) ?_
  refine lv_iload_n S.1 S.2.1 dX1_route_2 rfl (lv_at hl 1 rfl) ?_
  refine o_calli oiM S hC (c_X1_isRelation l hn hR hrel x) cw_RX1_X1_isRelation ⟨rfl, rfl, by decide, by decide⟩ rfl hl.1 rfl (Nat.le_of_ble_eq_true rfl) dX1_route_3 ⟨(Nat.le_of_ble_eq_true rfl), (Nat.le_of_ble_eq_true rfl)⟩ (fun r3 S1 H locs hp hC1 => ?_)
  obtain ⟨e1, hp⟩ := hp
  rw [e1] at hC1; replace hC := hC1
  subst hp
  refine b_if_eq (tgt := 25) S.1 S.2.1 dX1_route_6 (by decide) (fun c6 => ?_) (fun c6 => ?_)
  · skip
    refine lv_iconst (v := tC n R x a b) S.1 S.2.1 dX1_route_25 (by rw [show tC n R x a b = nI 1 by rw [tC, if_pos (Or.inl c6)]]; rfl) ?_
    refine lv_goto (tgt := 30) S.1 S.2.1 dX1_route_26 (by decide) ?_
    exact tail30 _ _ _ hC (lv_sub hl [0, 1, 2, 3, 4] rfl)
  · skip
    refine lv_aload_n S.1 S.2.1 dX1_route_9 rfl (lv_at hl 0 rfl) ?_
    refine lv_iload_n S.1 S.2.1 dX1_route_10 rfl (lv_at hl 2 rfl) ?_
    refine o_calli oiM S hC (c_X1_isThing l hn a) cw_RX1_X1_isThing ⟨rfl, rfl, by decide, by decide⟩ rfl hl.1 rfl (Nat.le_of_ble_eq_true rfl) dX1_route_11 ⟨(Nat.le_of_ble_eq_true rfl), (Nat.le_of_ble_eq_true rfl)⟩ (fun r11 S1 H locs hp hC1 => ?_)
    obtain ⟨e1, hp⟩ := hp
    rw [e1] at hC1; replace hC := hC1
    subst hp
    refine b_if_eq (tgt := 25) S.1 S.2.1 dX1_route_14 (by decide) (fun c14 => ?_) (fun c14 => ?_)
    · skip
      refine lv_iconst (v := tC n R x a b) S.1 S.2.1 dX1_route_25 (by rw [show tC n R x a b = nI 1 by rw [tC, if_pos (Or.inr (Or.inl c14))]]; rfl) ?_
      refine lv_goto (tgt := 30) S.1 S.2.1 dX1_route_26 (by decide) ?_
      exact tail30 _ _ _ hC (lv_sub hl [0, 1, 2, 3, 4] rfl)
    · skip
      refine lv_aload_n S.1 S.2.1 dX1_route_17 rfl (lv_at hl 0 rfl) ?_
      refine lv_iload_n S.1 S.2.1 dX1_route_18 rfl (lv_at hl 3 rfl) ?_
      refine o_calli oiM S hC (c_X1_isThing l hn b) cw_RX1_X1_isThing ⟨rfl, rfl, by decide, by decide⟩ rfl hl.1 rfl (Nat.le_of_ble_eq_true rfl) dX1_route_19 ⟨(Nat.le_of_ble_eq_true rfl), (Nat.le_of_ble_eq_true rfl)⟩ (fun r19 S1 H locs hp hC1 => ?_)
      obtain ⟨e1, hp⟩ := hp
      rw [e1] at hC1; replace hC := hC1
      subst hp
      refine b_if_ne (tgt := 29) S.1 S.2.1 dX1_route_22 (by decide) (fun c22 => ?_) (fun c22 => ?_)
      · skip
        refine lv_iconst (v := tC n R x a b) S.1 S.2.1 dX1_route_29 (by rw [show tC n R x a b = nI 0 by rw [tC, if_neg (by rw [c6, c14, c22]; simp)]]; rfl) ?_
        exact tail30 _ _ _ hC (lv_sub hl [0, 1, 2, 3, 4] rfl)
      · skip
        refine lv_iconst (v := tC n R x a b) S.1 S.2.1 dX1_route_25 (by rw [show tC n R x a b = nI 1 by rw [tC, if_pos (Or.inr (Or.inr c22))]]; rfl) ?_
        refine lv_goto (tgt := 30) S.1 S.2.1 dX1_route_26 (by decide) ?_
        exact tail30 _ _ _ hC (lv_sub hl [0, 1, 2, 3, 4] rfl)
def l1C (S : MS) (n R : Nat) (x a : Int32) : Int32 := if inI x (nI R) = false ∨ inI a (nI n) = false then nI 1 else if ¬ S.2.1 1 (ixN x) = nI 6 then nI 2 else nI 0
def lC (S : MS) (n R : Nat) (x a : Int32) : Int32 := if l1C S n R x a = 0 ∧ ofM (S.2.1 0 (ixN a)) (S.2.1 2 (ixN x)) = false then nI 1 else l1C S n R x a
theorem l1C_0 {S : MS} {n R : Nat} {x a : Int32} (h : l1C S n R x a = 0) : inI x (nI R) = true ∧ inI a (nI n) = true := by
  unfold l1C at h
  by_cases q : inI x (nI R) = false ∨ inI a (nI n) = false
  · rw [if_pos q] at h; exact absurd h (by decide)
  · exact ⟨Bool.of_not_eq_false fun z => q (Or.inl z), Bool.of_not_eq_false fun z => q (Or.inr z)⟩
theorem lC_0 {S : MS} {n R : Nat} {x a : Int32} (h : lC S n R x a = 0) : l1C S n R x a = 0 := by
  unfold lC at h
  by_cases q : l1C S n R x a = 0 ∧ ofM (S.2.1 0 (ixN a)) (S.2.1 2 (ixN x)) = false
  · exact q.1
  · rw [if_neg q] at h; exact h
set_option maxRecDepth 100000 in
set_option maxHeartbeats 4000000 in
theorem c_X1_leader (l : Launch) {loc : Nat → Nat} {n : Nat} {g : Gc} (hn : n ≤ 40) {S0 : MS} {R : Nat} (hR : R ≤ 12) (hrel : S0.1 1 = nI R) (hw : ∀ q, q < R → ¬ S0.2.1 1 q < nI 10 → wfM S0 q) (x a : Int32) : MMi l yX1_leader cX1_leader 4 (some .int) (rmL 7 0 0) loc n g S0 [.int x, .int a] (fun v S' => S' = (if lC S0 n R x a = 0 then lrF (sI S0 0 (lC S0 n R x a)) n (ixN x + 1) else sI S0 0 (lC S0 n R x a)) ∧ v = (if lC S0 n R x a = 0 then bsG S' (ixN x) (ixN a) (nI 0) true n 0 0 else nI 0)) := by
  refine o_enter (by decide) (Nat.le_of_ble_eq_true rfl) ?_
  intro p e s m below meth c ls S hr hlocks hC hl
  have tail61 : ∀ (H : Heap) (locs : List Loc) (ls : Array Slot), CM loc n g (S0) s H locs → lv_has ls 4 [(0, .ref (loc 0)), (1, .int x), (2, .int a), (3, .int (lC S0 n R x a))] → W p l e (rmL 7 0 0) s m ([.ref (loc 0), .int x, .int a] : List Value).toArray below meth c H locs 0 0 (MQ below (va_Qi (fun v S' => S' = (if lC S0 n R x a = 0 then lrF (sI S0 0 (lC S0 n R x a)) n (ixN x + 1) else sI S0 0 (lC S0 n R x a)) ∧ v = (if lC S0 n R x a = 0 then bsG S' (ixN x) (ixN a) (nI 0) true n 0 0 else nI 0)) (fun S' t => HM loc n g S' t.heap) (ZA loc 10)) ([.ref (loc 0), .int x, .int a] : List Value).toArray s (rmL 7 0 0).cells (rmL 7 0 0).slots (ZA loc 10)) (F0 m 61 ls []) := by
    intro  H locs ls hC hl
    refine lv_aload_n S.1 S.2.1 dX1_leader_61 rfl (lv_at hl 0 rfl) ?_
    refine lv_iload_n S.1 S.2.1 dX1_leader_62 rfl (lv_at hl 3 rfl) ?_
    refine o_calli oiM S hC (c_X1_isGood l hn _) cw_RX1_X1_isGood ⟨rfl, rfl, by decide, by decide⟩ rfl hl.1 rfl (Nat.le_of_ble_eq_true rfl) dX1_leader_63 ⟨(Nat.le_of_ble_eq_true rfl), (Nat.le_of_ble_eq_true rfl)⟩ (fun r63 S1 H locs hp hC1 => ?_)
    obtain ⟨e1, hp⟩ := hp
    rw [e1] at hC1; replace hC := hC1
    subst hp
    refine b_if_eq (tgt := 80) S.1 S.2.1 dX1_leader_66 (by decide) (fun c66 => ?_) (fun c66 => ?_)
    · have c67 : ¬ lC S0 n R x a = 0 := by simpa using c66
      refine lv_iconst (v := nI 0) S.1 S.2.1 dX1_leader_80 rfl ?_
      exact o_iret S hr hlocks hC ⟨by rw [if_neg c67], by rw [if_neg c67]⟩ rfl dX1_leader_81 (Nat.le_of_ble_eq_true rfl) (Nat.le_of_ble_eq_true rfl)
    · have c67 : lC S0 n R x a = 0 := by simpa using c66
      have c39 := lC_0 c67
      obtain ⟨h9, h10⟩ := l1C_0 c39
      obtain ⟨r, hrR, e0x⟩ := inI_t (by omega) h9
      obtain ⟨a', ha, e0a⟩ := inI_t (by omega) h10
      have er : ixN x = r := by rw [e0x]; exact ixN_nI (by omega)
      have ea : ixN a = a' := by rw [e0a]; exact ixN_nI (by omega)
      have hr12 : r < 12 := by omega
      rw [e0x, e0a] at hl
      refine lv_aload_n S.1 S.2.1 dX1_leader_69 rfl (lv_at hl 0 rfl) ?_
      refine lv_iload_n S.1 S.2.1 dX1_leader_70 rfl (lv_at hl 1 rfl) ?_
      refine lv_iload_n S.1 S.2.1 dX1_leader_71 rfl (lv_at hl 2 rfl) ?_
      refine lv_iconst (v := nI 0) S.1 S.2.1 dX1_leader_72 rfl ?_
      refine lv_iconst (v := bI true) S.1 S.2.1 dX1_leader_73 rfl ?_
      refine o_calli oiM S hC (c_X1_beside l hn (S0 := sI S0 0 (lC S0 n R x a)) hr12 ha (fun q hq => hw q (by omega)) (nI 0) true) cw_RX1_X1_beside ⟨rfl, rfl, by decide, by decide⟩ rfl hl.1 rfl (Nat.le_of_ble_eq_true rfl) dX1_leader_74 ⟨(Nat.le_of_ble_eq_true rfl), (Nat.le_of_ble_eq_true rfl)⟩ (fun r74 S1 H locs hp hC1 => ?_)
      obtain ⟨e1, hp⟩ := hp
      rw [e1] at hC1; replace hC := hC1
      rw [e1] at hp
      subst hp
      refine lv_goto (tgt := 81) S.1 S.2.1 dX1_leader_77 (by decide) ?_
      exact o_iret S hr hlocks hC ⟨by rw [if_pos c67, er], by rw [if_pos c67, er, ea]⟩ rfl dX1_leader_81 (Nat.le_of_ble_eq_true rfl) (Nat.le_of_ble_eq_true rfl)
  have tail36 : ∀ (H : Heap) (locs : List Loc) (ls : Array Slot), CM loc n g (S0) s H locs → lv_has ls 4 [(0, .ref (loc 0)), (1, .int x), (2, .int a)] → W p l e (rmL 7 0 0) s m ([.ref (loc 0), .int x, .int a] : List Value).toArray below meth c H locs 0 0 (MQ below (va_Qi (fun v S' => S' = (if lC S0 n R x a = 0 then lrF (sI S0 0 (lC S0 n R x a)) n (ixN x + 1) else sI S0 0 (lC S0 n R x a)) ∧ v = (if lC S0 n R x a = 0 then bsG S' (ixN x) (ixN a) (nI 0) true n 0 0 else nI 0)) (fun S' t => HM loc n g S' t.heap) (ZA loc 10)) ([.ref (loc 0), .int x, .int a] : List Value).toArray s (rmL 7 0 0).cells (rmL 7 0 0).slots (ZA loc 10)) (F0 m 36 ls [.int (l1C S0 n R x a)]) := by
    intro  H locs ls hC hl
    refine lv_istore_n S.1 S.2.1 dX1_leader_36 rfl hl (by decide) rfl (fun ls hl => ?_)
    refine lv_iload_n S.1 S.2.1 dX1_leader_37 rfl (lv_at hl 0 rfl) ?_
    refine lv_if_ne (tgt := 61) S.1 S.2.1 dX1_leader_38 (by decide) (fun c38 => ?_) (fun c38 => ?_)
    · rw [show l1C S0 n R x a = lC S0 n R x a by rw [lC, if_neg (fun q => c38 q.1)]] at hl
      exact tail61 _ _ _ hC (lv_sub hl [1, 2, 3, 0] rfl)
    · have c39 := c38
      have hl0 := hl
      obtain ⟨h9, h10⟩ := l1C_0 c39
      obtain ⟨r, hrR, e0x⟩ := inI_t (by omega) h9
      obtain ⟨a', ha, e0a⟩ := inI_t (by omega) h10
      have er : ixN x = r := by rw [e0x]; exact ixN_nI (by omega)
      have ea : ixN a = a' := by rw [e0a]; exact ixN_nI (by omega)
      have hr12 : r < 12 := by omega
      rw [e0x, e0a] at hl
      refine lv_aload_n S.1 S.2.1 dX1_leader_41 rfl (lv_at hl 1 rfl) ?_
      refine m_get_kinds S hC dX1_leader_42 ?_
      refine lv_iload_n S.1 S.2.1 dX1_leader_45 rfl (lv_at hl 3 rfl) ?_
      refine m_ild S hC 0 (by decide) (show a' < 40 by omega) dX1_leader_46 ?_
      refine lv_aload_n S.1 S.2.1 dX1_leader_47 rfl (lv_at hl 1 rfl) ?_
      refine m_get_one S hC dX1_leader_48 ?_
      refine lv_iload_n S.1 S.2.1 dX1_leader_51 rfl (lv_at hl 2 rfl) ?_
      refine m_ild S hC 2 (by decide) hr12 dX1_leader_52 ?_
      refine s_calli S (c_X1_isOf l _ _) cw_RX1_X1_isOf ⟨rfl, rfl, by decide, by decide⟩ rfl hl.1 rfl (Nat.le_of_ble_eq_true rfl) dX1_leader_53 ⟨(Nat.le_of_ble_eq_true rfl), (Nat.le_of_ble_eq_true rfl)⟩ (fun r53 hp => ?_)
      subst hp
      refine b_if_ne (tgt := 61) S.1 S.2.1 dX1_leader_56 (by decide) (fun c56 => ?_) (fun c56 => ?_)
      · replace hl := hl0
        rw [show l1C S0 n R x a = lC S0 n R x a by rw [lC, if_neg (fun q => by rw [er, ea] at q; have := q.2; unfold ofM at this; rw [c56] at this; cases this)]] at hl
        exact tail61 _ _ _ hC (lv_sub hl [1, 2, 3, 0] rfl)
      · replace hl := hl0
        refine lv_iconst (v := lC S0 n R x a) S.1 S.2.1 dX1_leader_59 (by rw [show lC S0 n R x a = nI 1 by rw [lC, if_pos ⟨c38, by rw [er, ea]; exact c56⟩]]; rfl) ?_
        refine lv_istore_n S.1 S.2.1 dX1_leader_60 rfl hl (by decide) rfl (fun ls hl => ?_)
        exact tail61 _ _ _ hC (lv_sub hl [1, 2, 3, 0] rfl)
  refine lv_aload_n S.1 S.2.1 dX1_leader_0 rfl (lv_at hl 0 rfl) ?_
  refine lv_iload_n S.1 S.2.1 dX1_leader_1 rfl (lv_at hl 1 rfl) ?_
  refine o_calli oiM S hC (c_X1_isRelation l hn hR hrel x) cw_RX1_X1_isRelation ⟨rfl, rfl, by decide, by decide⟩ rfl hl.1 rfl (Nat.le_of_ble_eq_true rfl) dX1_leader_2 ⟨(Nat.le_of_ble_eq_true rfl), (Nat.le_of_ble_eq_true rfl)⟩ (fun r2 S1 H locs hp hC1 => ?_)
  obtain ⟨e1, hp⟩ := hp
  rw [e1] at hC1; replace hC := hC1
  subst hp
  refine b_if_eq (tgt := 16) S.1 S.2.1 dX1_leader_5 (by decide) (fun c5 => ?_) (fun c5 => ?_)
  · skip
    refine lv_iconst (v := l1C S0 n R x a) S.1 S.2.1 dX1_leader_16 (by rw [show l1C S0 n R x a = nI 1 by rw [l1C, if_pos (Or.inl c5)]]; rfl) ?_
    refine lv_goto (tgt := 36) S.1 S.2.1 dX1_leader_17 (by decide) ?_
    exact tail36 _ _ _ hC (lv_sub hl [0, 1, 2] rfl)
  · skip
    refine lv_aload_n S.1 S.2.1 dX1_leader_8 rfl (lv_at hl 0 rfl) ?_
    refine lv_iload_n S.1 S.2.1 dX1_leader_9 rfl (lv_at hl 2 rfl) ?_
    refine o_calli oiM S hC (c_X1_isThing l hn a) cw_RX1_X1_isThing ⟨rfl, rfl, by decide, by decide⟩ rfl hl.1 rfl (Nat.le_of_ble_eq_true rfl) dX1_leader_10 ⟨(Nat.le_of_ble_eq_true rfl), (Nat.le_of_ble_eq_true rfl)⟩ (fun r10 S1 H locs hp hC1 => ?_)
    obtain ⟨e1, hp⟩ := hp
    rw [e1] at hC1; replace hC := hC1
    subst hp
    refine b_if_ne (tgt := 20) S.1 S.2.1 dX1_leader_13 (by decide) (fun c13 => ?_) (fun c13 => ?_)
    · obtain ⟨r, hrR, e0x⟩ := inI_t (by omega) c5
      have er : ixN x = r := by rw [e0x]; exact ixN_nI (by omega)
      have hl0 := hl
      rw [e0x] at hl
      refine lv_aload_n S.1 S.2.1 dX1_leader_20 rfl (lv_at hl 0 rfl) ?_
      refine m_get_form S hC dX1_leader_21 ?_
      refine lv_iload_n S.1 S.2.1 dX1_leader_24 rfl (lv_at hl 1 rfl) ?_
      refine m_ild S hC 1 (by decide) (show r < 12 by omega) dX1_leader_25 ?_
      refine lv_bipush (v := nI 6) S.1 S.2.1 dX1_leader_26 rfl ?_
      refine lv_icmp_eq (tgt := 35) S.1 S.2.1 dX1_leader_28 (by decide) (fun c28 => ?_) (fun c28 => ?_)
      · replace hl := hl0
        refine lv_iconst (v := l1C S0 n R x a) S.1 S.2.1 dX1_leader_35 (by rw [show l1C S0 n R x a = nI 0 by rw [l1C, if_neg (by rw [c5, c13]; simp), er, if_neg (fun q => q c28)]]; rfl) ?_
        exact tail36 _ _ _ hC (lv_sub hl [0, 1, 2] rfl)
      · replace hl := hl0
        refine lv_iconst (v := l1C S0 n R x a) S.1 S.2.1 dX1_leader_31 (by rw [show l1C S0 n R x a = nI 2 by rw [l1C, if_neg (by rw [c5, c13]; simp), er, if_pos c28]]; rfl) ?_
        refine lv_goto (tgt := 36) S.1 S.2.1 dX1_leader_32 (by decide) ?_
        exact tail36 _ _ _ hC (lv_sub hl [0, 1, 2] rfl)
    · skip
      refine lv_iconst (v := l1C S0 n R x a) S.1 S.2.1 dX1_leader_16 (by rw [show l1C S0 n R x a = nI 1 by rw [l1C, if_pos (Or.inr c13)]]; rfl) ?_
      refine lv_goto (tgt := 36) S.1 S.2.1 dX1_leader_17 (by decide) ?_
      exact tail36 _ _ _ hC (lv_sub hl [0, 1, 2] rfl)
def t3C (R : Nat) (x y : Int32) : Int32 := if inI x (nI R) = false ∨ inI y (nI R) = false then nI 1 else nI 0
theorem t3C_0 {R : Nat} {x y : Int32} (h : t3C R x y = 0) : inI x (nI R) = true ∧ inI y (nI R) = true := by
  unfold t3C at h
  by_cases q : inI x (nI R) = false ∨ inI y (nI R) = false
  · rw [if_pos q] at h; exact absurd h (by decide)
  · exact ⟨Bool.of_not_eq_false fun z => q (Or.inl z), Bool.of_not_eq_false fun z => q (Or.inr z)⟩
theorem bI_inj {a b : Bool} : bI a = bI b ↔ a = b := by cases a <;> cases b <;> simp [bI]
def dfG (S : MS) (r q : Nat) : Nat → Nat → Int32
  | 0, _ => -1
  | m + 1, k => if S.2.2 0 (1600 * r + k) = S.2.2 0 (1600 * q + k) then dfG S r q m (k + 1) else nI k
set_option maxRecDepth 100000 in
set_option maxHeartbeats 4000000 in
theorem c_X1_differ (l : Launch) {loc : Nat → Nat} {n : Nat} {g : Gc} (hn : n ≤ 40) {S0 : MS} {R : Nat} (hR : R ≤ 12) (hrel : S0.1 1 = nI R) (hw : ∀ q, q < R → ¬ S0.2.1 1 q < nI 10 → wfM S0 q) (x y : Int32) : MMi l yX1_differ cX1_differ 4 (some .int) (rmL 6 0 0) loc n g S0 [.int x, .int y] (fun v S' => S' = (if t3C R x y = 0 then lrF (sI S0 0 (t3C R x y)) n (max (ixN x) (ixN y) + 1) else sI S0 0 (t3C R x y)) ∧ v = (if t3C R x y = 0 then dfG S' (ixN x) (ixN y) 1600 0 else nI 0)) := by
  refine o_enter (by decide) (Nat.le_of_ble_eq_true rfl) ?_
  intro p e s m below meth c ls S hr hlocks hC hl
  have tail22 : ∀ (H : Heap) (locs : List Loc) (ls : Array Slot), CM loc n g (S0) s H locs → lv_has ls 4 [(0, .ref (loc 0)), (1, .int x), (2, .int y)] → W p l e (rmL 6 0 0) s m ([.ref (loc 0), .int x, .int y] : List Value).toArray below meth c H locs 0 0 (MQ below (va_Qi (fun v S' => S' = (if t3C R x y = 0 then lrF (sI S0 0 (t3C R x y)) n (max (ixN x) (ixN y) + 1) else sI S0 0 (t3C R x y)) ∧ v = (if t3C R x y = 0 then dfG S' (ixN x) (ixN y) 1600 0 else nI 0)) (fun S' t => HM loc n g S' t.heap) (ZA loc 10)) ([.ref (loc 0), .int x, .int y] : List Value).toArray s (rmL 6 0 0).cells (rmL 6 0 0).slots (ZA loc 10)) (F0 m 22 ls [.int (t3C R x y), .ref (loc 0)]) := by
    intro  H locs ls hC hl
    refine o_calli oiM S hC (c_X1_isGood l hn _) cw_RX1_X1_isGood ⟨rfl, rfl, by decide, by decide⟩ rfl hl.1 rfl (Nat.le_of_ble_eq_true rfl) dX1_differ_22 ⟨(Nat.le_of_ble_eq_true rfl), (Nat.le_of_ble_eq_true rfl)⟩ (fun r22 S1 H locs hp hC1 => ?_)
    obtain ⟨e1, hp⟩ := hp
    rw [e1] at hC1; replace hC := hC1
    subst hp
    refine b_if_ne (tgt := 30) S.1 S.2.1 dX1_differ_25 (by decide) (fun c25 => ?_) (fun c25 => ?_)
    · have c38 : t3C R x y = 0 := by simpa using c25
      obtain ⟨h9, h10⟩ := t3C_0 c38
      obtain ⟨r, hrR, e0x⟩ := inI_t (by omega) h9
      obtain ⟨q, hqR, e0y⟩ := inI_t (by omega) h10
      have er : ixN x = r := by rw [e0x]; exact ixN_nI (by omega)
      have eq : ixN y = q := by rw [e0y]; exact ixN_nI (by omega)
      have hr12 : r < 12 := by omega
      have hq12 : q < 12 := by omega
      rw [e0x, e0y] at hl
      refine lv_aload_n S.1 S.2.1 dX1_differ_30 rfl (lv_at hl 0 rfl) ?_
      refine lv_iload_n S.1 S.2.1 dX1_differ_31 rfl (lv_at hl 1 rfl) ?_
      refine lv_iload_n S.1 S.2.1 dX1_differ_32 rfl (lv_at hl 2 rfl) ?_
      refine n_icmp_le (tgt := 40) S.1 S.2.1 dX1_differ_33 (by decide) (by omega) (by omega) (fun c33 => ?_) (fun c33 => ?_)
      · skip
        refine lv_iload_n S.1 S.2.1 dX1_differ_40 rfl (lv_at hl 2 rfl) ?_
        refine o_callv oiM S hC (c_X1_learn l hn hq12 (fun z hz => hw z (by omega))) cw_RX1_X1_learn ⟨rfl, rfl, by decide, by decide⟩ rfl hl.1 rfl (Nat.le_of_ble_eq_true rfl) dX1_differ_41 ⟨(Nat.le_of_ble_eq_true rfl), (Nat.le_of_ble_eq_true rfl)⟩ (fun S1 H locs hp hC1 => ?_)
        have e1 := hp
        rw [e1] at hC1; replace hC := hC1
        rw [show q + 1 = max r q + 1 by omega] at hC
        refine lv_iconst (v := nI 0) S.1 S.2.1 dX1_differ_44 rfl ?_
        refine lv_istore_n S.1 S.2.1 dX1_differ_45 rfl hl (by decide) rfl (fun ls hl => ?_)
        have loop : ∀ (k i : Nat), 1600 - i < k → i ≤ 1600 → ∀ (hT : dfG (lrF (sI S0 0 (t3C R x y)) n (max r q + 1)) r q 1600 0 = dfG (lrF (sI S0 0 (t3C R x y)) n (max r q + 1)) r q (1600 - i) i), ∀ (H : Heap) (locs : List Loc) (ls : Array Slot), CM loc n g (lrF (sI S0 0 (t3C R x y)) n (max r q + 1)) s H locs → lv_has ls 4 [(0, .ref (loc 0)), (1, .int (nI r)), (2, .int (nI q)), (3, .int (nI i))] → W p l e (rmL 6 0 0) s m ([.ref (loc 0), .int x, .int y] : List Value).toArray below meth c H locs 0 0 (MQ below (va_Qi (fun v S' => S' = (if t3C R x y = 0 then lrF (sI S0 0 (t3C R x y)) n (max (ixN x) (ixN y) + 1) else sI S0 0 (t3C R x y)) ∧ v = (if t3C R x y = 0 then dfG S' (ixN x) (ixN y) 1600 0 else nI 0)) (fun S' t => HM loc n g S' t.heap) (ZA loc 10)) ([.ref (loc 0), .int x, .int y] : List Value).toArray s (rmL 6 0 0).cells (rmL 6 0 0).slots (ZA loc 10)) (F0 m 46 ls []) := by
          intro k
          induction k with
          | zero => intro i hk; omega
          | succ k ih =>
            intro i hk hi hT H locs ls hC hl
            refine lv_iload_n S.1 S.2.1 dX1_differ_46 rfl (lv_at hl 3 rfl) ?_
            refine lv_sipush (v := nI 1600) S.1 S.2.1 dX1_differ_47 rfl ?_
            refine n_icmp_ge (tgt := 88) S.1 S.2.1 dX1_differ_50 (by decide) (by omega) (by omega) (fun c50 => ?_) (fun c50 => ?_)
            · skip
              refine lv_iconst (v := -1) S.1 S.2.1 dX1_differ_88 rfl ?_
              exact o_iret S hr hlocks hC ⟨by rw [if_pos c38, er, eq], by rw [if_pos c38, er, eq, hT, show 1600 - i = 0 by omega, dfG]⟩ rfl dX1_differ_89 (Nat.le_of_ble_eq_true rfl) (Nat.le_of_ble_eq_true rfl)
            · skip
              refine lv_aload_n S.1 S.2.1 dX1_differ_53 rfl (lv_at hl 0 rfl) ?_
              refine m_get_pairs S hC dX1_differ_54 ?_
              refine lv_sipush (v := nI 1600) S.1 S.2.1 dX1_differ_57 rfl ?_
              refine lv_iload_n S.1 S.2.1 dX1_differ_60 rfl (lv_at hl 1 rfl) ?_
              refine t_imul S.1 S.2.1 dX1_differ_61 (pk_mul _ _) ?_
              refine lv_iload_n S.1 S.2.1 dX1_differ_62 rfl (lv_at hl 3 rfl) ?_
              refine t_iadd S.1 S.2.1 dX1_differ_63 (nI_add _ _) ?_
              refine m_zld S hC 0 (by decide) (show 1600 * r + i < 19200 by omega) dX1_differ_64 ?_
              refine lv_aload_n S.1 S.2.1 dX1_differ_65 rfl (lv_at hl 0 rfl) ?_
              refine m_get_pairs S hC dX1_differ_66 ?_
              refine lv_sipush (v := nI 1600) S.1 S.2.1 dX1_differ_69 rfl ?_
              refine lv_iload_n S.1 S.2.1 dX1_differ_72 rfl (lv_at hl 2 rfl) ?_
              refine t_imul S.1 S.2.1 dX1_differ_73 (pk_mul _ _) ?_
              refine lv_iload_n S.1 S.2.1 dX1_differ_74 rfl (lv_at hl 3 rfl) ?_
              refine t_iadd S.1 S.2.1 dX1_differ_75 (nI_add _ _) ?_
              refine m_zld S hC 0 (by decide) (show 1600 * q + i < 19200 by omega) dX1_differ_76 ?_
              refine lv_icmp_eq (tgt := 82) S.1 S.2.1 dX1_differ_77 (by decide) (fun c77 => ?_) (fun c77 => ?_)
              · skip
                refine lv_iinc (k := 3) S.1 S.2.1 dX1_differ_82 hl rfl (n_inc _) (by decide) rfl (fun ls hl => ?_)
                refine lv_goto (tgt := 46) S.1 S.2.1 dX1_differ_85 (by decide) ?_
                exact ih (i + 1) (by omega) (by omega) (by rw [hT, show 1600 - i = (1600 - (i + 1)) + 1 by omega, dfG, if_pos (bI_inj.mp c77)]) _ _ _ hC (lv_sub hl [1, 2, 3, 0] rfl)
              · skip
                refine lv_iload_n S.1 S.2.1 dX1_differ_80 rfl (lv_at hl 3 rfl) ?_
                exact o_iret S hr hlocks hC ⟨by rw [if_pos c38, er, eq], by rw [if_pos c38, er, eq, hT, show 1600 - i = (1600 - (i + 1)) + 1 by omega, dfG, if_neg (fun z => c77 (bI_inj.mpr z))]⟩ rfl dX1_differ_81 (Nat.le_of_ble_eq_true rfl) (Nat.le_of_ble_eq_true rfl)
        exact loop (1600 + 1) 0 (by omega) (by omega) rfl _ _ _ hC (lv_sub hl [1, 2, 3, 0] rfl)
      · skip
        refine lv_iload_n S.1 S.2.1 dX1_differ_36 rfl (lv_at hl 1 rfl) ?_
        refine lv_goto (tgt := 41) S.1 S.2.1 dX1_differ_37 (by decide) ?_
        refine o_callv oiM S hC (c_X1_learn l hn hr12 (fun z hz => hw z (by omega))) cw_RX1_X1_learn ⟨rfl, rfl, by decide, by decide⟩ rfl hl.1 rfl (Nat.le_of_ble_eq_true rfl) dX1_differ_41 ⟨(Nat.le_of_ble_eq_true rfl), (Nat.le_of_ble_eq_true rfl)⟩ (fun S1 H locs hp hC1 => ?_)
        have e1 := hp
        rw [e1] at hC1; replace hC := hC1
        rw [show r + 1 = max r q + 1 by omega] at hC
        refine lv_iconst (v := nI 0) S.1 S.2.1 dX1_differ_44 rfl ?_
        refine lv_istore_n S.1 S.2.1 dX1_differ_45 rfl hl (by decide) rfl (fun ls hl => ?_)
        have loop : ∀ (k i : Nat), 1600 - i < k → i ≤ 1600 → ∀ (hT : dfG (lrF (sI S0 0 (t3C R x y)) n (max r q + 1)) r q 1600 0 = dfG (lrF (sI S0 0 (t3C R x y)) n (max r q + 1)) r q (1600 - i) i), ∀ (H : Heap) (locs : List Loc) (ls : Array Slot), CM loc n g (lrF (sI S0 0 (t3C R x y)) n (max r q + 1)) s H locs → lv_has ls 4 [(0, .ref (loc 0)), (1, .int (nI r)), (2, .int (nI q)), (3, .int (nI i))] → W p l e (rmL 6 0 0) s m ([.ref (loc 0), .int x, .int y] : List Value).toArray below meth c H locs 0 0 (MQ below (va_Qi (fun v S' => S' = (if t3C R x y = 0 then lrF (sI S0 0 (t3C R x y)) n (max (ixN x) (ixN y) + 1) else sI S0 0 (t3C R x y)) ∧ v = (if t3C R x y = 0 then dfG S' (ixN x) (ixN y) 1600 0 else nI 0)) (fun S' t => HM loc n g S' t.heap) (ZA loc 10)) ([.ref (loc 0), .int x, .int y] : List Value).toArray s (rmL 6 0 0).cells (rmL 6 0 0).slots (ZA loc 10)) (F0 m 46 ls []) := by
          intro k
          induction k with
          | zero => intro i hk; omega
          | succ k ih =>
            intro i hk hi hT H locs ls hC hl
            refine lv_iload_n S.1 S.2.1 dX1_differ_46 rfl (lv_at hl 3 rfl) ?_
            refine lv_sipush (v := nI 1600) S.1 S.2.1 dX1_differ_47 rfl ?_
            refine n_icmp_ge (tgt := 88) S.1 S.2.1 dX1_differ_50 (by decide) (by omega) (by omega) (fun c50 => ?_) (fun c50 => ?_)
            · skip
              refine lv_iconst (v := -1) S.1 S.2.1 dX1_differ_88 rfl ?_
              exact o_iret S hr hlocks hC ⟨by rw [if_pos c38, er, eq], by rw [if_pos c38, er, eq, hT, show 1600 - i = 0 by omega, dfG]⟩ rfl dX1_differ_89 (Nat.le_of_ble_eq_true rfl) (Nat.le_of_ble_eq_true rfl)
            · skip
              refine lv_aload_n S.1 S.2.1 dX1_differ_53 rfl (lv_at hl 0 rfl) ?_
              refine m_get_pairs S hC dX1_differ_54 ?_
              refine lv_sipush (v := nI 1600) S.1 S.2.1 dX1_differ_57 rfl ?_
              refine lv_iload_n S.1 S.2.1 dX1_differ_60 rfl (lv_at hl 1 rfl) ?_
              refine t_imul S.1 S.2.1 dX1_differ_61 (pk_mul _ _) ?_
              refine lv_iload_n S.1 S.2.1 dX1_differ_62 rfl (lv_at hl 3 rfl) ?_
              refine t_iadd S.1 S.2.1 dX1_differ_63 (nI_add _ _) ?_
              refine m_zld S hC 0 (by decide) (show 1600 * r + i < 19200 by omega) dX1_differ_64 ?_
              refine lv_aload_n S.1 S.2.1 dX1_differ_65 rfl (lv_at hl 0 rfl) ?_
              refine m_get_pairs S hC dX1_differ_66 ?_
              refine lv_sipush (v := nI 1600) S.1 S.2.1 dX1_differ_69 rfl ?_
              refine lv_iload_n S.1 S.2.1 dX1_differ_72 rfl (lv_at hl 2 rfl) ?_
              refine t_imul S.1 S.2.1 dX1_differ_73 (pk_mul _ _) ?_
              refine lv_iload_n S.1 S.2.1 dX1_differ_74 rfl (lv_at hl 3 rfl) ?_
              refine t_iadd S.1 S.2.1 dX1_differ_75 (nI_add _ _) ?_
              refine m_zld S hC 0 (by decide) (show 1600 * q + i < 19200 by omega) dX1_differ_76 ?_
              refine lv_icmp_eq (tgt := 82) S.1 S.2.1 dX1_differ_77 (by decide) (fun c77 => ?_) (fun c77 => ?_)
              · skip
                refine lv_iinc (k := 3) S.1 S.2.1 dX1_differ_82 hl rfl (n_inc _) (by decide) rfl (fun ls hl => ?_)
                refine lv_goto (tgt := 46) S.1 S.2.1 dX1_differ_85 (by decide) ?_
                exact ih (i + 1) (by omega) (by omega) (by rw [hT, show 1600 - i = (1600 - (i + 1)) + 1 by omega, dfG, if_pos (bI_inj.mp c77)]) _ _ _ hC (lv_sub hl [1, 2, 3, 0] rfl)
              · skip
                refine lv_iload_n S.1 S.2.1 dX1_differ_80 rfl (lv_at hl 3 rfl) ?_
                exact o_iret S hr hlocks hC ⟨by rw [if_pos c38, er, eq], by rw [if_pos c38, er, eq, hT, show 1600 - i = (1600 - (i + 1)) + 1 by omega, dfG, if_neg (fun z => c77 (bI_inj.mpr z))]⟩ rfl dX1_differ_81 (Nat.le_of_ble_eq_true rfl) (Nat.le_of_ble_eq_true rfl)
        exact loop (1600 + 1) 0 (by omega) (by omega) rfl _ _ _ hC (lv_sub hl [1, 2, 3, 0] rfl)
    · have c38 : ¬ t3C R x y = 0 := by simpa using c25
      refine lv_iconst (v := nI 0) S.1 S.2.1 dX1_differ_28 rfl ?_
      exact o_iret S hr hlocks hC ⟨by rw [if_neg c38], by rw [if_neg c38]⟩ rfl dX1_differ_29 (Nat.le_of_ble_eq_true rfl) (Nat.le_of_ble_eq_true rfl)
  refine lv_aload_n S.1 S.2.1 dX1_differ_0 rfl (lv_at hl 0 rfl) ?_
  refine lv_aload_n S.1 S.2.1 dX1_differ_1 rfl (lv_at hl 0 rfl) ?_
  refine lv_iload_n S.1 S.2.1 dX1_differ_2 rfl (lv_at hl 1 rfl) ?_
  refine o_calli oiM S hC (c_X1_isRelation l hn hR hrel x) cw_RX1_X1_isRelation ⟨rfl, rfl, by decide, by decide⟩ rfl hl.1 rfl (Nat.le_of_ble_eq_true rfl) dX1_differ_3 ⟨(Nat.le_of_ble_eq_true rfl), (Nat.le_of_ble_eq_true rfl)⟩ (fun r3 S1 H locs hp hC1 => ?_)
  obtain ⟨e1, hp⟩ := hp
  rw [e1] at hC1; replace hC := hC1
  subst hp
  refine b_if_eq (tgt := 17) S.1 S.2.1 dX1_differ_6 (by decide) (fun c6 => ?_) (fun c6 => ?_)
  · skip
    refine lv_iconst (v := t3C R x y) S.1 S.2.1 dX1_differ_17 (by rw [show t3C R x y = nI 1 by rw [t3C, if_pos (Or.inl c6)]]; rfl) ?_
    refine lv_goto (tgt := 22) S.1 S.2.1 dX1_differ_18 (by decide) ?_
    exact tail22 _ _ _ hC (lv_sub hl [0, 1, 2] rfl)
  · skip
    refine lv_aload_n S.1 S.2.1 dX1_differ_9 rfl (lv_at hl 0 rfl) ?_
    refine lv_iload_n S.1 S.2.1 dX1_differ_10 rfl (lv_at hl 2 rfl) ?_
    refine o_calli oiM S hC (c_X1_isRelation l hn hR hrel y) cw_RX1_X1_isRelation ⟨rfl, rfl, by decide, by decide⟩ rfl hl.1 rfl (Nat.le_of_ble_eq_true rfl) dX1_differ_11 ⟨(Nat.le_of_ble_eq_true rfl), (Nat.le_of_ble_eq_true rfl)⟩ (fun r11 S1 H locs hp hC1 => ?_)
    obtain ⟨e1, hp⟩ := hp
    rw [e1] at hC1; replace hC := hC1
    subst hp
    refine b_if_ne (tgt := 21) S.1 S.2.1 dX1_differ_14 (by decide) (fun c14 => ?_) (fun c14 => ?_)
    · skip
      refine lv_iconst (v := t3C R x y) S.1 S.2.1 dX1_differ_21 (by rw [show t3C R x y = nI 0 by rw [t3C, if_neg (by rw [c6, c14]; simp)]]; rfl) ?_
      exact tail22 _ _ _ hC (lv_sub hl [0, 1, 2] rfl)
    · skip
      refine lv_iconst (v := t3C R x y) S.1 S.2.1 dX1_differ_17 (by rw [show t3C R x y = nI 1 by rw [t3C, if_pos (Or.inr c14)]]; rfl) ?_
      refine lv_goto (tgt := 22) S.1 S.2.1 dX1_differ_18 (by decide) ?_
      exact tail22 _ _ _ hC (lv_sub hl [0, 1, 2] rfl)
def gC (n : Nat) (a b : Int32) : Int32 := if inI a (nI n) = true ∧ inI b (nI n) = true then nI 0 else nI 1
theorem gC_0 {n : Nat} {a b : Int32} (h : gC n a b = 0) : inI a (nI n) = true ∧ inI b (nI n) = true := by
  unfold gC at h
  by_cases q : inI a (nI n) = true ∧ inI b (nI n) = true
  · exact q
  · rw [if_neg q] at h; exact absurd h (by decide)
def oC (w : Int32) : Int32 := if inB w (nI 0) (nI 2) = true then nI 0 else nI 1
def dC (R : Nat) (x w : Int32) : Int32 := if inI x (nI R) = false ∨ inB w (nI 0) (nI 2) = false then nI 1 else nI 0
theorem dC_0 {R : Nat} {x w : Int32} (h : dC R x w = 0) : inI x (nI R) = true := by
  unfold dC at h
  by_cases q : inI x (nI R) = false ∨ inB w (nI 0) (nI 2) = false
  · rw [if_pos q] at h; exact absurd h (by decide)
  · exact Bool.of_not_eq_false fun z => q (Or.inl z)
set_option maxRecDepth 100000 in
set_option maxHeartbeats 4000000 in
theorem c_X1_tally (l : Launch) {loc : Nat → Nat} {n : Nat} {g : Gc} (hn : n ≤ 40) {S0 : MS} (a b : Int32) : MMi l yX1_tally cX1_tally 3 (some .int) (rmL 6 0 0) loc n g S0 [.int a, .int b] (fun v S' => S' = sI S0 0 (gC n a b) ∧ v = (if gC n a b = 0 then S0.2.1 6 (40 * ixN a + ixN b) else nI 0)) := by
  refine o_enter (by decide) (Nat.le_of_ble_eq_true rfl) ?_
  intro p e s m below meth c ls S hr hlocks hC hl
  have tail22 : ∀ (H : Heap) (locs : List Loc) (ls : Array Slot), CM loc n g (S0) s H locs → lv_has ls 3 [(0, .ref (loc 0)), (1, .int a), (2, .int b)] → W p l e (rmL 6 0 0) s m ([.ref (loc 0), .int a, .int b] : List Value).toArray below meth c H locs 0 0 (MQ below (va_Qi (fun v S' => S' = sI S0 0 (gC n a b) ∧ v = (if gC n a b = 0 then S0.2.1 6 (40 * ixN a + ixN b) else nI 0)) (fun S' t => HM loc n g S' t.heap) (ZA loc 10)) ([.ref (loc 0), .int a, .int b] : List Value).toArray s (rmL 6 0 0).cells (rmL 6 0 0).slots (ZA loc 10)) (F0 m 22 ls [.int (gC n a b), .ref (loc 0)]) := by
    intro  H locs ls hC hl
    refine o_calli oiM S hC (c_X1_isGood l hn _) cw_RX1_X1_isGood ⟨rfl, rfl, by decide, by decide⟩ rfl hl.1 rfl (Nat.le_of_ble_eq_true rfl) dX1_tally_22 ⟨(Nat.le_of_ble_eq_true rfl), (Nat.le_of_ble_eq_true rfl)⟩ (fun r22 S1 H locs hp hC1 => ?_)
    obtain ⟨e1, hp⟩ := hp
    rw [e1] at hC1; replace hC := hC1
    subst hp
    refine b_if_eq (tgt := 42) S.1 S.2.1 dX1_tally_25 (by decide) (fun c25 => ?_) (fun c25 => ?_)
    · have c38 : ¬ gC n a b = 0 := by simpa using c25
      refine lv_iconst (v := nI 0) S.1 S.2.1 dX1_tally_42 rfl ?_
      exact o_iret S hr hlocks hC ⟨rfl, by rw [if_neg c38]⟩ rfl dX1_tally_43 (Nat.le_of_ble_eq_true rfl) (Nat.le_of_ble_eq_true rfl)
    · have c38 : gC n a b = 0 := by simpa using c25
      obtain ⟨h10, h11⟩ := gC_0 c38
      obtain ⟨a', ha, e0a⟩ := inI_t (by omega) h10
      obtain ⟨b', hb, e0b⟩ := inI_t (by omega) h11
      have ea : ixN a = a' := by rw [e0a]; exact ixN_nI (by omega)
      have eb : ixN b = b' := by rw [e0b]; exact ixN_nI (by omega)
      rw [e0a, e0b] at hl
      refine lv_aload_n S.1 S.2.1 dX1_tally_28 rfl (lv_at hl 0 rfl) ?_
      refine m_get_tallies S hC dX1_tally_29 ?_
      refine lv_bipush (v := nI 40) S.1 S.2.1 dX1_tally_32 rfl ?_
      refine lv_iload_n S.1 S.2.1 dX1_tally_34 rfl (lv_at hl 1 rfl) ?_
      refine t_imul S.1 S.2.1 dX1_tally_35 (pk_mul _ _) ?_
      refine lv_iload_n S.1 S.2.1 dX1_tally_36 rfl (lv_at hl 2 rfl) ?_
      refine t_iadd S.1 S.2.1 dX1_tally_37 (nI_add _ _) ?_
      refine m_ild S hC 6 (by decide) (show 40 * a' + b' < 1600 by omega) dX1_tally_38 ?_
      refine lv_goto (tgt := 43) S.1 S.2.1 dX1_tally_39 (by decide) ?_
      exact o_iret S hr hlocks hC ⟨rfl, by rw [if_pos c38, ea, eb]; rfl⟩ rfl dX1_tally_43 (Nat.le_of_ble_eq_true rfl) (Nat.le_of_ble_eq_true rfl)
  refine lv_aload_n S.1 S.2.1 dX1_tally_0 rfl (lv_at hl 0 rfl) ?_
  refine lv_aload_n S.1 S.2.1 dX1_tally_1 rfl (lv_at hl 0 rfl) ?_
  refine lv_iload_n S.1 S.2.1 dX1_tally_2 rfl (lv_at hl 1 rfl) ?_
  refine o_calli oiM S hC (c_X1_isThing l hn a) cw_RX1_X1_isThing ⟨rfl, rfl, by decide, by decide⟩ rfl hl.1 rfl (Nat.le_of_ble_eq_true rfl) dX1_tally_3 ⟨(Nat.le_of_ble_eq_true rfl), (Nat.le_of_ble_eq_true rfl)⟩ (fun r3 S1 H locs hp hC1 => ?_)
  obtain ⟨e1, hp⟩ := hp
  rw [e1] at hC1; replace hC := hC1
  subst hp
  refine b_if_eq (tgt := 21) S.1 S.2.1 dX1_tally_6 (by decide) (fun c6 => ?_) (fun c6 => ?_)
  · skip
    refine lv_iconst (v := gC n a b) S.1 S.2.1 dX1_tally_21 (by rw [show gC n a b = nI 1 by rw [gC, if_neg (by rw [c6]; simp)]]; rfl) ?_
    exact tail22 _ _ _ hC (lv_sub hl [0, 1, 2] rfl)
  · skip
    refine lv_aload_n S.1 S.2.1 dX1_tally_9 rfl (lv_at hl 0 rfl) ?_
    refine lv_iload_n S.1 S.2.1 dX1_tally_10 rfl (lv_at hl 2 rfl) ?_
    refine o_calli oiM S hC (c_X1_isThing l hn b) cw_RX1_X1_isThing ⟨rfl, rfl, by decide, by decide⟩ rfl hl.1 rfl (Nat.le_of_ble_eq_true rfl) dX1_tally_11 ⟨(Nat.le_of_ble_eq_true rfl), (Nat.le_of_ble_eq_true rfl)⟩ (fun r11 S1 H locs hp hC1 => ?_)
    obtain ⟨e1, hp⟩ := hp
    rw [e1] at hC1; replace hC := hC1
    subst hp
    refine b_if_eq (tgt := 21) S.1 S.2.1 dX1_tally_14 (by decide) (fun c14 => ?_) (fun c14 => ?_)
    · skip
      refine lv_iconst (v := gC n a b) S.1 S.2.1 dX1_tally_21 (by rw [show gC n a b = nI 1 by rw [gC, if_neg (by rw [c14]; simp)]]; rfl) ?_
      exact tail22 _ _ _ hC (lv_sub hl [0, 1, 2] rfl)
    · skip
      refine lv_iconst (v := gC n a b) S.1 S.2.1 dX1_tally_17 (by rw [show gC n a b = nI 0 by rw [gC, if_pos ⟨c6, c14⟩]]; rfl) ?_
      refine lv_goto (tgt := 22) S.1 S.2.1 dX1_tally_18 (by decide) ?_
      exact tail22 _ _ _ hC (lv_sub hl [0, 1, 2] rfl)
set_option maxRecDepth 100000 in
set_option maxHeartbeats 4000000 in
theorem c_X1_of (l : Launch) {loc : Nat → Nat} {n : Nat} {g : Gc} (hn : n ≤ 40) {S0 : MS} (w : Int32) : MMi l yX1_of cX1_of 2 (some .int) (rmL 6 0 0) loc n g S0 [.int w] (fun v S' => S' = sI S0 0 (oC w) ∧ v = (if oC w = 0 then (if w = 0 then nI n else if w = nI 1 then S0.1 1 else S0.1 2) else nI 0)) := by
  refine o_enter (by decide) (Nat.le_of_ble_eq_true rfl) ?_
  intro p e s m below meth c ls S hr hlocks hC hl
  have tail15 : ∀ (H : Heap) (locs : List Loc) (ls : Array Slot), CM loc n g (S0) s H locs → lv_has ls 2 [(0, .ref (loc 0)), (1, .int w)] → W p l e (rmL 6 0 0) s m ([.ref (loc 0), .int w] : List Value).toArray below meth c H locs 0 0 (MQ below (va_Qi (fun v S' => S' = sI S0 0 (oC w) ∧ v = (if oC w = 0 then (if w = 0 then nI n else if w = nI 1 then S0.1 1 else S0.1 2) else nI 0)) (fun S' t => HM loc n g S' t.heap) (ZA loc 10)) ([.ref (loc 0), .int w] : List Value).toArray s (rmL 6 0 0).cells (rmL 6 0 0).slots (ZA loc 10)) (F0 m 15 ls [.int (oC w), .ref (loc 0)]) := by
    intro  H locs ls hC hl
    refine o_calli oiM S hC (c_X1_isGood l hn _) cw_RX1_X1_isGood ⟨rfl, rfl, by decide, by decide⟩ rfl hl.1 rfl (Nat.le_of_ble_eq_true rfl) dX1_of_15 ⟨(Nat.le_of_ble_eq_true rfl), (Nat.le_of_ble_eq_true rfl)⟩ (fun r15 S1 H locs hp hC1 => ?_)
    obtain ⟨e1, hp⟩ := hp
    rw [e1] at hC1; replace hC := hC1
    subst hp
    refine b_if_ne (tgt := 23) S.1 S.2.1 dX1_of_18 (by decide) (fun c18 => ?_) (fun c18 => ?_)
    · have c38 : oC w = 0 := by simpa using c18
      refine lv_iload_n S.1 S.2.1 dX1_of_23 rfl (lv_at hl 1 rfl) ?_
      refine lv_if_ne (tgt := 34) S.1 S.2.1 dX1_of_24 (by decide) (fun c24 => ?_) (fun c24 => ?_)
      · skip
        refine lv_iload_n S.1 S.2.1 dX1_of_34 rfl (lv_at hl 1 rfl) ?_
        refine lv_iconst (v := nI 1) S.1 S.2.1 dX1_of_35 rfl ?_
        refine lv_icmp_ne (tgt := 46) S.1 S.2.1 dX1_of_36 (by decide) (fun c36 => ?_) (fun c36 => ?_)
        · skip
          refine lv_aload_n S.1 S.2.1 dX1_of_46 rfl (lv_at hl 0 rfl) ?_
          refine m_get_pushes S hC dX1_of_47 ?_
          exact o_iret S hr hlocks hC ⟨rfl, by rw [if_pos c38, if_neg c24, if_neg c36]; rfl⟩ rfl dX1_of_50 (Nat.le_of_ble_eq_true rfl) (Nat.le_of_ble_eq_true rfl)
        · skip
          refine lv_aload_n S.1 S.2.1 dX1_of_39 rfl (lv_at hl 0 rfl) ?_
          refine m_get_relations S hC dX1_of_40 ?_
          refine lv_goto (tgt := 50) S.1 S.2.1 dX1_of_43 (by decide) ?_
          exact o_iret S hr hlocks hC ⟨rfl, by rw [if_pos c38, if_neg c24, if_pos c36]; rfl⟩ rfl dX1_of_50 (Nat.le_of_ble_eq_true rfl) (Nat.le_of_ble_eq_true rfl)
      · skip
        refine lv_aload_n S.1 S.2.1 dX1_of_27 rfl (lv_at hl 0 rfl) ?_
        refine m_get_things S hC dX1_of_28 ?_
        refine lv_goto (tgt := 50) S.1 S.2.1 dX1_of_31 (by decide) ?_
        exact o_iret S hr hlocks hC ⟨rfl, by rw [if_pos c38, if_pos c24]⟩ rfl dX1_of_50 (Nat.le_of_ble_eq_true rfl) (Nat.le_of_ble_eq_true rfl)
    · have c38 : ¬ oC w = 0 := by simpa using c18
      refine lv_iconst (v := nI 0) S.1 S.2.1 dX1_of_21 rfl ?_
      exact o_iret S hr hlocks hC ⟨rfl, by rw [if_neg c38]⟩ rfl dX1_of_22 (Nat.le_of_ble_eq_true rfl) (Nat.le_of_ble_eq_true rfl)
  refine lv_aload_n S.1 S.2.1 dX1_of_0 rfl (lv_at hl 0 rfl) ?_
  refine lv_iload_n S.1 S.2.1 dX1_of_1 rfl (lv_at hl 1 rfl) ?_
  refine lv_iconst (v := nI 0) S.1 S.2.1 dX1_of_2 rfl ?_
  refine lv_iconst (v := nI 2) S.1 S.2.1 dX1_of_3 rfl ?_
  refine s_calli S (c_X1_isIn l _ _ _) cw_RX1_X1_isIn ⟨rfl, rfl, by decide, by decide⟩ rfl hl.1 rfl (Nat.le_of_ble_eq_true rfl) dX1_of_4 ⟨(Nat.le_of_ble_eq_true rfl), (Nat.le_of_ble_eq_true rfl)⟩ (fun r4 hp => ?_)
  subst hp
  refine b_if_eq (tgt := 14) S.1 S.2.1 dX1_of_7 (by decide) (fun c7 => ?_) (fun c7 => ?_)
  · skip
    refine lv_iconst (v := oC w) S.1 S.2.1 dX1_of_14 (by rw [show oC w = nI 1 by rw [oC, if_neg (by rw [c7]; decide)]]; rfl) ?_
    exact tail15 _ _ _ hC (lv_sub hl [0, 1] rfl)
  · skip
    refine lv_iconst (v := oC w) S.1 S.2.1 dX1_of_10 (by rw [show oC w = nI 0 by rw [oC, if_pos c7]]; rfl) ?_
    refine lv_goto (tgt := 15) S.1 S.2.1 dX1_of_11 (by decide) ?_
    exact tail15 _ _ _ hC (lv_sub hl [0, 1] rfl)
set_option maxRecDepth 100000 in
set_option maxHeartbeats 4000000 in
theorem c_X1_told (l : Launch) {loc : Nat → Nat} {n : Nat} {g : Gc} (hn : n ≤ 40) {S0 : MS} {R : Nat} (hR : R ≤ 12) (hrel : S0.1 1 = nI R) (x w : Int32) : MMi l yX1_told cX1_told 3 (some .int) (rmL 6 0 0) loc n g S0 [.int x, .int w] (fun v S' => S' = sI S0 0 (dC R x w) ∧ v = (if dC R x w = 0 then (if w = 0 then S0.2.1 1 (ixN x) else if w = nI 1 then S0.2.1 2 (ixN x) else S0.2.1 3 (ixN x)) else nI 0)) := by
  refine o_enter (by decide) (Nat.le_of_ble_eq_true rfl) ?_
  intro p e s m below meth c ls S hr hlocks hC hl
  have tail23 : ∀ (H : Heap) (locs : List Loc) (ls : Array Slot), CM loc n g (S0) s H locs → lv_has ls 3 [(0, .ref (loc 0)), (1, .int x), (2, .int w)] → W p l e (rmL 6 0 0) s m ([.ref (loc 0), .int x, .int w] : List Value).toArray below meth c H locs 0 0 (MQ below (va_Qi (fun v S' => S' = sI S0 0 (dC R x w) ∧ v = (if dC R x w = 0 then (if w = 0 then S0.2.1 1 (ixN x) else if w = nI 1 then S0.2.1 2 (ixN x) else S0.2.1 3 (ixN x)) else nI 0)) (fun S' t => HM loc n g S' t.heap) (ZA loc 10)) ([.ref (loc 0), .int x, .int w] : List Value).toArray s (rmL 6 0 0).cells (rmL 6 0 0).slots (ZA loc 10)) (F0 m 23 ls [.int (dC R x w), .ref (loc 0)]) := by
    intro  H locs ls hC hl
    refine o_calli oiM S hC (c_X1_isGood l hn _) cw_RX1_X1_isGood ⟨rfl, rfl, by decide, by decide⟩ rfl hl.1 rfl (Nat.le_of_ble_eq_true rfl) dX1_told_23 ⟨(Nat.le_of_ble_eq_true rfl), (Nat.le_of_ble_eq_true rfl)⟩ (fun r23 S1 H locs hp hC1 => ?_)
    obtain ⟨e1, hp⟩ := hp
    rw [e1] at hC1; replace hC := hC1
    subst hp
    refine b_if_ne (tgt := 31) S.1 S.2.1 dX1_told_26 (by decide) (fun c26 => ?_) (fun c26 => ?_)
    · have c38 : dC R x w = 0 := by simpa using c26
      have h9 := dC_0 c38
      obtain ⟨r, hrR, e0x⟩ := inI_t (by omega) h9
      have er : ixN x = r := by rw [e0x]; exact ixN_nI (by omega)
      have hr12 : r < 12 := by omega
      rw [e0x] at hl
      refine lv_iload_n S.1 S.2.1 dX1_told_31 rfl (lv_at hl 2 rfl) ?_
      refine lv_if_ne (tgt := 44) S.1 S.2.1 dX1_told_32 (by decide) (fun c32 => ?_) (fun c32 => ?_)
      · skip
        refine lv_iload_n S.1 S.2.1 dX1_told_44 rfl (lv_at hl 2 rfl) ?_
        refine lv_iconst (v := nI 1) S.1 S.2.1 dX1_told_45 rfl ?_
        refine lv_icmp_ne (tgt := 58) S.1 S.2.1 dX1_told_46 (by decide) (fun c46 => ?_) (fun c46 => ?_)
        · skip
          refine lv_aload_n S.1 S.2.1 dX1_told_58 rfl (lv_at hl 0 rfl) ?_
          refine m_get_two S hC dX1_told_59 ?_
          refine lv_iload_n S.1 S.2.1 dX1_told_62 rfl (lv_at hl 1 rfl) ?_
          refine m_ild S hC 3 (by decide) hr12 dX1_told_63 ?_
          exact o_iret S hr hlocks hC ⟨rfl, by rw [if_pos c38, if_neg c32, if_neg c46, er]; rfl⟩ rfl dX1_told_64 (Nat.le_of_ble_eq_true rfl) (Nat.le_of_ble_eq_true rfl)
        · skip
          refine lv_aload_n S.1 S.2.1 dX1_told_49 rfl (lv_at hl 0 rfl) ?_
          refine m_get_one S hC dX1_told_50 ?_
          refine lv_iload_n S.1 S.2.1 dX1_told_53 rfl (lv_at hl 1 rfl) ?_
          refine m_ild S hC 2 (by decide) hr12 dX1_told_54 ?_
          refine lv_goto (tgt := 64) S.1 S.2.1 dX1_told_55 (by decide) ?_
          exact o_iret S hr hlocks hC ⟨rfl, by rw [if_pos c38, if_neg c32, if_pos c46, er]; rfl⟩ rfl dX1_told_64 (Nat.le_of_ble_eq_true rfl) (Nat.le_of_ble_eq_true rfl)
      · skip
        refine lv_aload_n S.1 S.2.1 dX1_told_35 rfl (lv_at hl 0 rfl) ?_
        refine m_get_form S hC dX1_told_36 ?_
        refine lv_iload_n S.1 S.2.1 dX1_told_39 rfl (lv_at hl 1 rfl) ?_
        refine m_ild S hC 1 (by decide) hr12 dX1_told_40 ?_
        refine lv_goto (tgt := 64) S.1 S.2.1 dX1_told_41 (by decide) ?_
        exact o_iret S hr hlocks hC ⟨rfl, by rw [if_pos c38, if_pos c32, er]; rfl⟩ rfl dX1_told_64 (Nat.le_of_ble_eq_true rfl) (Nat.le_of_ble_eq_true rfl)
    · have c38 : ¬ dC R x w = 0 := by simpa using c26
      refine lv_iconst (v := nI 0) S.1 S.2.1 dX1_told_29 rfl ?_
      exact o_iret S hr hlocks hC ⟨rfl, by rw [if_neg c38]⟩ rfl dX1_told_30 (Nat.le_of_ble_eq_true rfl) (Nat.le_of_ble_eq_true rfl)
  refine lv_aload_n S.1 S.2.1 dX1_told_0 rfl (lv_at hl 0 rfl) ?_
  refine lv_aload_n S.1 S.2.1 dX1_told_1 rfl (lv_at hl 0 rfl) ?_
  refine lv_iload_n S.1 S.2.1 dX1_told_2 rfl (lv_at hl 1 rfl) ?_
  refine o_calli oiM S hC (c_X1_isRelation l hn hR hrel x) cw_RX1_X1_isRelation ⟨rfl, rfl, by decide, by decide⟩ rfl hl.1 rfl (Nat.le_of_ble_eq_true rfl) dX1_told_3 ⟨(Nat.le_of_ble_eq_true rfl), (Nat.le_of_ble_eq_true rfl)⟩ (fun r3 S1 H locs hp hC1 => ?_)
  obtain ⟨e1, hp⟩ := hp
  rw [e1] at hC1; replace hC := hC1
  subst hp
  refine b_if_eq (tgt := 18) S.1 S.2.1 dX1_told_6 (by decide) (fun c6 => ?_) (fun c6 => ?_)
  · skip
    refine lv_iconst (v := dC R x w) S.1 S.2.1 dX1_told_18 (by rw [show dC R x w = nI 1 by rw [dC, if_pos (Or.inl c6)]]; rfl) ?_
    refine lv_goto (tgt := 23) S.1 S.2.1 dX1_told_19 (by decide) ?_
    exact tail23 _ _ _ hC (lv_sub hl [0, 1, 2] rfl)
  · skip
    refine lv_iload_n S.1 S.2.1 dX1_told_9 rfl (lv_at hl 2 rfl) ?_
    refine lv_iconst (v := nI 0) S.1 S.2.1 dX1_told_10 rfl ?_
    refine lv_iconst (v := nI 2) S.1 S.2.1 dX1_told_11 rfl ?_
    refine s_calli S (c_X1_isIn l _ _ _) cw_RX1_X1_isIn ⟨rfl, rfl, by decide, by decide⟩ rfl hl.1 rfl (Nat.le_of_ble_eq_true rfl) dX1_told_12 ⟨(Nat.le_of_ble_eq_true rfl), (Nat.le_of_ble_eq_true rfl)⟩ (fun r12 hp => ?_)
    subst hp
    refine b_if_ne (tgt := 22) S.1 S.2.1 dX1_told_15 (by decide) (fun c15 => ?_) (fun c15 => ?_)
    · skip
      refine lv_iconst (v := dC R x w) S.1 S.2.1 dX1_told_22 (by rw [show dC R x w = nI 0 by rw [dC, if_neg (by rw [c6, c15]; simp)]]; rfl) ?_
      exact tail23 _ _ _ hC (lv_sub hl [0, 1, 2] rfl)
    · skip
      refine lv_iconst (v := dC R x w) S.1 S.2.1 dX1_told_18 (by rw [show dC R x w = nI 1 by rw [dC, if_pos (Or.inr c15)]]; rfl) ?_
      refine lv_goto (tgt := 23) S.1 S.2.1 dX1_told_19 (by decide) ?_
      exact tail23 _ _ _ hC (lv_sub hl [0, 1, 2] rfl)
