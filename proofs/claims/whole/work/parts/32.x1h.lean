theorem wC_0 {S : MS} {n R : Nat} {x a b : Int32} (h : wC S n R x a b = 0) : inI x (nI R) = true ∧ inI a (nI n) = true ∧ inI b (nI n) = true := by
  unfold wC at h
  by_cases q : inI x (nI R) = false ∨ inI a (nI n) = false ∨ inI b (nI n) = false
  · rw [if_pos q] at h; exact absurd h (by decide)
  · exact ⟨Bool.of_not_eq_false fun z => q (Or.inl z), Bool.of_not_eq_false fun z => q (Or.inr (Or.inl z)), Bool.of_not_eq_false fun z => q (Or.inr (Or.inr z))⟩
def sT (S : MS) (a b : Nat) : MS := sA (sI S 2 (nI 0)) 6 (40 * a + b) (S.2.1 6 (40 * a + b) + nI 1)
def sP1 (S : MS) (n : Nat) (f : Int32) (r a : Nat) : MS := if f = 0 ∨ f = nI 2 ∨ f = nI 4 then prM S r a n else S
def sP2 (S : MS) (n : Nat) (f : Int32) (r b : Nat) : MS := if f = 0 ∨ f = nI 1 then pcM S r b n else S
def sP3 (S : MS) (n : Nat) (f : Int32) (r b : Nat) : MS := if f = nI 4 then prM S r b n else S
def sP4 (S : MS) (n : Nat) (f : Int32) (r a b : Nat) : MS := if f = nI 6 then joinM S n r a b else putM S r a b true
def sQ (S : MS) (n r a b : Nat) : MS := sP3 (sP2 (sP1 (sT S a b) n (S.2.1 1 r) r a) n (S.2.1 1 r) r b) n (S.2.1 1 r) r b
def setM (S : MS) (n r a b : Nat) : MS := if pM (sT S a b) r a b then sT S a b else sP4 (sQ S n r a b) n (S.2.1 1 r) r a b
/-- the pushes of a set() find room -/
def puOk (S : MS) (n r a b : Nat) : Prop :=
  ((S.2.1 1 r = 0 ∨ S.2.1 1 r = nI 2 ∨ S.2.1 1 r = nI 4) → ∀ k, k < n → pM (prM (sT S a b) r a k) r a k = true → ∃ q, q < 4 ∧ (prM (sT S a b) r a k).1 2 = nI q)
  ∧ ((S.2.1 1 r = 0 ∨ S.2.1 1 r = nI 1) → ∀ k, k < n → pM (pcM (sP1 (sT S a b) n (S.2.1 1 r) r a) r b k) r k b = true → ∃ q, q < 4 ∧ (pcM (sP1 (sT S a b) n (S.2.1 1 r) r a) r b k).1 2 = nI q)
  ∧ (S.2.1 1 r = nI 4 → ∀ k, k < n → pM (prM (sP2 (sP1 (sT S a b) n (S.2.1 1 r) r a) n (S.2.1 1 r) r b) r b k) r b k = true → ∃ q, q < 4 ∧ (prM (sP2 (sP1 (sT S a b) n (S.2.1 1 r) r a) n (S.2.1 1 r) r b) r b k).1 2 = nI q)
set_option maxRecDepth 100000 in
set_option maxHeartbeats 4000000 in
theorem c_X1_set (l : Launch) {loc : Nat → Nat} {n : Nat} {g : Gc} (hn : n ≤ 40) {S0 : MS} {R : Nat} (hR : R ≤ 12) (hrel : S0.1 1 = nI R) (x a b : Int32) (hpu0 : wC S0 n R x a b = 0 → pM (sT (sI S0 0 (wC S0 n R x a b)) (ixN a) (ixN b)) (ixN x) (ixN a) (ixN b) = false → puOk (sI S0 0 (wC S0 n R x a b)) n (ixN x) (ixN a) (ixN b)) : MMi l yX1_set cX1_set 5 (some .int) (rmL 6 0 0) loc n g S0 [.int x, .int a, .int b] (fun v S' => S' = (if wC S0 n R x a b = 0 then setM (sI S0 0 (wC S0 n R x a b)) n (ixN x) (ixN a) (ixN b) else (sI S0 0 (wC S0 n R x a b))) ∧ v = (if wC S0 n R x a b = 0 then (if pM (sT (sI S0 0 (wC S0 n R x a b)) (ixN a) (ixN b)) (ixN x) (ixN a) (ixN b) then nI 0 else S'.1 2) else nI 0)) := by
  refine o_enter (by decide) (Nat.le_of_ble_eq_true rfl) ?_
  intro p e s m below meth c ls S hr hlocks hC hl
  have tail137 : ∀ (r a' b' : Nat) (hr12 : r < 12) (ha : a' < n) (hb : b' < n) (er : ixN x = r) (ea : ixN a = a') (eb : ixN b = b') (c38 : wC S0 n R x a b = 0) (hpu : puOk (sI S0 0 (wC S0 n R x a b)) n r a' b') (hnp : pM (sT (sI S0 0 (wC S0 n R x a b)) a' b') r a' b' = false), ∀ (H : Heap) (locs : List Loc) (ls : Array Slot), CM loc n g (sP4 (sP3 (sP2 (sP1 (sT (sI S0 0 (wC S0 n R x a b)) a' b') n (S0.2.1 1 r) r a') n (S0.2.1 1 r) r b') n (S0.2.1 1 r) r b') n (S0.2.1 1 r) r a' b') s H locs → lv_has ls 5 [(0, .ref (loc 0))] → W p l e (rmL 6 0 0) s m ([.ref (loc 0), .int x, .int a, .int b] : List Value).toArray below meth c H locs 0 0 (MQ below (va_Qi (fun v S' => S' = (if wC S0 n R x a b = 0 then setM (sI S0 0 (wC S0 n R x a b)) n (ixN x) (ixN a) (ixN b) else (sI S0 0 (wC S0 n R x a b))) ∧ v = (if wC S0 n R x a b = 0 then (if pM (sT (sI S0 0 (wC S0 n R x a b)) (ixN a) (ixN b)) (ixN x) (ixN a) (ixN b) then nI 0 else S'.1 2) else nI 0)) (fun S' t => HM loc n g S' t.heap) (ZA loc 10)) ([.ref (loc 0), .int x, .int a, .int b] : List Value).toArray s (rmL 6 0 0).cells (rmL 6 0 0).slots (ZA loc 10)) (F0 m 137 ls []) := by
    intro r a' b' hr12 ha hb er ea eb c38 hpu hnp H locs ls hC hl
    refine lv_aload_n S.1 S.2.1 dX1_set_137 rfl (lv_at hl 0 rfl) ?_
    refine m_get_pushes S hC dX1_set_138 ?_
    exact o_iret S hr hlocks hC ⟨by rw [if_pos c38, er, ea, eb, setM, if_neg (by rw [hnp]; decide)]; rfl, by rw [if_pos c38, er, ea, eb, if_neg (by rw [hnp]; decide)]⟩ rfl dX1_set_141 (Nat.le_of_ble_eq_true rfl) (Nat.le_of_ble_eq_true rfl)
  have tail112 : ∀ (r a' b' : Nat) (hr12 : r < 12) (ha : a' < n) (hb : b' < n) (er : ixN x = r) (ea : ixN a = a') (eb : ixN b = b') (c38 : wC S0 n R x a b = 0) (hpu : puOk (sI S0 0 (wC S0 n R x a b)) n r a' b') (hnp : pM (sT (sI S0 0 (wC S0 n R x a b)) a' b') r a' b' = false), ∀ (H : Heap) (locs : List Loc) (ls : Array Slot), CM loc n g (sP3 (sP2 (sP1 (sT (sI S0 0 (wC S0 n R x a b)) a' b') n (S0.2.1 1 r) r a') n (S0.2.1 1 r) r b') n (S0.2.1 1 r) r b') s H locs → lv_has ls 5 [(0, .ref (loc 0)), (1, .int (nI r)), (2, (.int (nI a'))), (3, (.int (nI b'))), (4, .int (S0.2.1 1 r))] → W p l e (rmL 6 0 0) s m ([.ref (loc 0), .int x, .int a, .int b] : List Value).toArray below meth c H locs 0 0 (MQ below (va_Qi (fun v S' => S' = (if wC S0 n R x a b = 0 then setM (sI S0 0 (wC S0 n R x a b)) n (ixN x) (ixN a) (ixN b) else (sI S0 0 (wC S0 n R x a b))) ∧ v = (if wC S0 n R x a b = 0 then (if pM (sT (sI S0 0 (wC S0 n R x a b)) (ixN a) (ixN b)) (ixN x) (ixN a) (ixN b) then nI 0 else S'.1 2) else nI 0)) (fun S' t => HM loc n g S' t.heap) (ZA loc 10)) ([.ref (loc 0), .int x, .int a, .int b] : List Value).toArray s (rmL 6 0 0).cells (rmL 6 0 0).slots (ZA loc 10)) (F0 m 112 ls []) := by
    intro r a' b' hr12 ha hb er ea eb c38 hpu hnp H locs ls hC hl
    refine lv_iload S.1 S.2.1 dX1_set_112 (lv_at hl 4 rfl) ?_
    refine lv_bipush (v := nI 6) S.1 S.2.1 dX1_set_114 rfl ?_
    refine lv_icmp_ne (tgt := 129) S.1 S.2.1 dX1_set_116 (by decide) (fun c116 => ?_) (fun c116 => ?_)
    · skip
      refine lv_aload_n S.1 S.2.1 dX1_set_129 rfl (lv_at hl 0 rfl) ?_
      refine lv_iload_n S.1 S.2.1 dX1_set_130 rfl (lv_at hl 1 rfl) ?_
      refine lv_iload_n S.1 S.2.1 dX1_set_131 rfl (lv_at hl 2 rfl) ?_
      refine lv_iload_n S.1 S.2.1 dX1_set_132 rfl (lv_at hl 3 rfl) ?_
      refine lv_iconst (v := bI true) S.1 S.2.1 dX1_set_133 rfl ?_
      refine o_callv oiM S hC (c_X1_put l hn hr12 ha hb true) cw_RX1_X1_put ⟨rfl, rfl, by decide, by decide⟩ rfl hl.1 rfl (Nat.le_of_ble_eq_true rfl) dX1_set_134 ⟨(Nat.le_of_ble_eq_true rfl), (Nat.le_of_ble_eq_true rfl)⟩ (fun S1 H locs hp hC1 => ?_)
      have e1 := hp
      rw [e1] at hC1; replace hC := hC1
      rw [show putM (sP3 (sP2 (sP1 (sT (sI S0 0 (wC S0 n R x a b)) a' b') n (S0.2.1 1 r) r a') n (S0.2.1 1 r) r b') n (S0.2.1 1 r) r b') r a' b' true = (sP4 (sP3 (sP2 (sP1 (sT (sI S0 0 (wC S0 n R x a b)) a' b') n (S0.2.1 1 r) r a') n (S0.2.1 1 r) r b') n (S0.2.1 1 r) r b') n (S0.2.1 1 r) r a' b') by rw [sP4, if_neg c116]] at hC
      exact tail137 r a' b' hr12 ha hb er ea eb c38 hpu hnp _ _ _ hC (lv_sub hl [0] rfl)
    · skip
      refine lv_aload_n S.1 S.2.1 dX1_set_119 rfl (lv_at hl 0 rfl) ?_
      refine lv_iload_n S.1 S.2.1 dX1_set_120 rfl (lv_at hl 1 rfl) ?_
      refine lv_iload_n S.1 S.2.1 dX1_set_121 rfl (lv_at hl 2 rfl) ?_
      refine lv_iload_n S.1 S.2.1 dX1_set_122 rfl (lv_at hl 3 rfl) ?_
      refine o_callv oiM S hC (c_X1_join l hn hr12 ha hb) cw_RX1_X1_join ⟨rfl, rfl, by decide, by decide⟩ rfl hl.1 rfl (Nat.le_of_ble_eq_true rfl) dX1_set_123 ⟨(Nat.le_of_ble_eq_true rfl), (Nat.le_of_ble_eq_true rfl)⟩ (fun S1 H locs hp hC1 => ?_)
      have e1 := hp
      rw [e1] at hC1; replace hC := hC1
      rw [show joinM (sP3 (sP2 (sP1 (sT (sI S0 0 (wC S0 n R x a b)) a' b') n (S0.2.1 1 r) r a') n (S0.2.1 1 r) r b') n (S0.2.1 1 r) r b') n r a' b' = (sP4 (sP3 (sP2 (sP1 (sT (sI S0 0 (wC S0 n R x a b)) a' b') n (S0.2.1 1 r) r a') n (S0.2.1 1 r) r b') n (S0.2.1 1 r) r b') n (S0.2.1 1 r) r a' b') by rw [sP4, if_pos c116]] at hC
      refine lv_goto (tgt := 137) S.1 S.2.1 dX1_set_126 (by decide) ?_
      exact tail137 r a' b' hr12 ha hb er ea eb c38 hpu hnp _ _ _ hC (lv_sub hl [0] rfl)
  have tail100 : ∀ (r a' b' : Nat) (hr12 : r < 12) (ha : a' < n) (hb : b' < n) (er : ixN x = r) (ea : ixN a = a') (eb : ixN b = b') (c38 : wC S0 n R x a b = 0) (hpu : puOk (sI S0 0 (wC S0 n R x a b)) n r a' b') (hnp : pM (sT (sI S0 0 (wC S0 n R x a b)) a' b') r a' b' = false), ∀ (H : Heap) (locs : List Loc) (ls : Array Slot), CM loc n g (sP2 (sP1 (sT (sI S0 0 (wC S0 n R x a b)) a' b') n (S0.2.1 1 r) r a') n (S0.2.1 1 r) r b') s H locs → lv_has ls 5 [(0, .ref (loc 0)), (1, .int (nI r)), (2, (.int (nI a'))), (3, (.int (nI b'))), (4, .int (S0.2.1 1 r))] → W p l e (rmL 6 0 0) s m ([.ref (loc 0), .int x, .int a, .int b] : List Value).toArray below meth c H locs 0 0 (MQ below (va_Qi (fun v S' => S' = (if wC S0 n R x a b = 0 then setM (sI S0 0 (wC S0 n R x a b)) n (ixN x) (ixN a) (ixN b) else (sI S0 0 (wC S0 n R x a b))) ∧ v = (if wC S0 n R x a b = 0 then (if pM (sT (sI S0 0 (wC S0 n R x a b)) (ixN a) (ixN b)) (ixN x) (ixN a) (ixN b) then nI 0 else S'.1 2) else nI 0)) (fun S' t => HM loc n g S' t.heap) (ZA loc 10)) ([.ref (loc 0), .int x, .int a, .int b] : List Value).toArray s (rmL 6 0 0).cells (rmL 6 0 0).slots (ZA loc 10)) (F0 m 100 ls []) := by
    intro r a' b' hr12 ha hb er ea eb c38 hpu hnp H locs ls hC hl
    refine lv_iload S.1 S.2.1 dX1_set_100 (lv_at hl 4 rfl) ?_
    refine lv_iconst (v := nI 4) S.1 S.2.1 dX1_set_102 rfl ?_
    refine lv_icmp_ne (tgt := 112) S.1 S.2.1 dX1_set_103 (by decide) (fun c103 => ?_) (fun c103 => ?_)
    · rw [show (sP2 (sP1 (sT (sI S0 0 (wC S0 n R x a b)) a' b') n (S0.2.1 1 r) r a') n (S0.2.1 1 r) r b') = (sP3 (sP2 (sP1 (sT (sI S0 0 (wC S0 n R x a b)) a' b') n (S0.2.1 1 r) r a') n (S0.2.1 1 r) r b') n (S0.2.1 1 r) r b') by rw [sP3, if_neg c103]] at hC
      exact tail112 r a' b' hr12 ha hb er ea eb c38 hpu hnp _ _ _ hC (lv_sub hl [0, 1, 2, 3, 4] rfl)
    · skip
      refine lv_aload_n S.1 S.2.1 dX1_set_106 rfl (lv_at hl 0 rfl) ?_
      refine lv_iload_n S.1 S.2.1 dX1_set_107 rfl (lv_at hl 1 rfl) ?_
      refine lv_iload_n S.1 S.2.1 dX1_set_108 rfl (lv_at hl 3 rfl) ?_
      refine o_callv oiM S hC (c_X1_pushFrom l hn hr12 hb (hpu.2.2 c103)) cw_RX1_X1_pushFrom ⟨rfl, rfl, by decide, by decide⟩ rfl hl.1 rfl (Nat.le_of_ble_eq_true rfl) dX1_set_109 ⟨(Nat.le_of_ble_eq_true rfl), (Nat.le_of_ble_eq_true rfl)⟩ (fun S1 H locs hp hC1 => ?_)
      have e1 := hp
      rw [e1] at hC1; replace hC := hC1
      rw [show prM (sP2 (sP1 (sT (sI S0 0 (wC S0 n R x a b)) a' b') n (S0.2.1 1 r) r a') n (S0.2.1 1 r) r b') r b' n = (sP3 (sP2 (sP1 (sT (sI S0 0 (wC S0 n R x a b)) a' b') n (S0.2.1 1 r) r a') n (S0.2.1 1 r) r b') n (S0.2.1 1 r) r b') by rw [sP3, if_pos c103]] at hC
      exact tail112 r a' b' hr12 ha hb er ea eb c38 hpu hnp _ _ _ hC (lv_sub hl [0, 1, 2, 3, 4] rfl)
  have tail83 : ∀ (r a' b' : Nat) (hr12 : r < 12) (ha : a' < n) (hb : b' < n) (er : ixN x = r) (ea : ixN a = a') (eb : ixN b = b') (c38 : wC S0 n R x a b = 0) (hpu : puOk (sI S0 0 (wC S0 n R x a b)) n r a' b') (hnp : pM (sT (sI S0 0 (wC S0 n R x a b)) a' b') r a' b' = false), ∀ (H : Heap) (locs : List Loc) (ls : Array Slot), CM loc n g (sP1 (sT (sI S0 0 (wC S0 n R x a b)) a' b') n (S0.2.1 1 r) r a') s H locs → lv_has ls 5 [(0, .ref (loc 0)), (1, .int (nI r)), (2, (.int (nI a'))), (3, (.int (nI b'))), (4, .int (S0.2.1 1 r))] → W p l e (rmL 6 0 0) s m ([.ref (loc 0), .int x, .int a, .int b] : List Value).toArray below meth c H locs 0 0 (MQ below (va_Qi (fun v S' => S' = (if wC S0 n R x a b = 0 then setM (sI S0 0 (wC S0 n R x a b)) n (ixN x) (ixN a) (ixN b) else (sI S0 0 (wC S0 n R x a b))) ∧ v = (if wC S0 n R x a b = 0 then (if pM (sT (sI S0 0 (wC S0 n R x a b)) (ixN a) (ixN b)) (ixN x) (ixN a) (ixN b) then nI 0 else S'.1 2) else nI 0)) (fun S' t => HM loc n g S' t.heap) (ZA loc 10)) ([.ref (loc 0), .int x, .int a, .int b] : List Value).toArray s (rmL 6 0 0).cells (rmL 6 0 0).slots (ZA loc 10)) (F0 m 83 ls []) := by
    intro r a' b' hr12 ha hb er ea eb c38 hpu hnp H locs ls hC hl
    refine lv_iload S.1 S.2.1 dX1_set_83 (lv_at hl 4 rfl) ?_
    refine lv_if_eq (tgt := 94) S.1 S.2.1 dX1_set_85 (by decide) (fun c85 => ?_) (fun c85 => ?_)
    · skip
      refine lv_aload_n S.1 S.2.1 dX1_set_94 rfl (lv_at hl 0 rfl) ?_
      refine lv_iload_n S.1 S.2.1 dX1_set_95 rfl (lv_at hl 1 rfl) ?_
      refine lv_iload_n S.1 S.2.1 dX1_set_96 rfl (lv_at hl 3 rfl) ?_
      refine o_callv oiM S hC (c_X1_pushTo l hn hr12 hb (hpu.2.1 (Or.inl c85))) cw_RX1_X1_pushTo ⟨rfl, rfl, by decide, by decide⟩ rfl hl.1 rfl (Nat.le_of_ble_eq_true rfl) dX1_set_97 ⟨(Nat.le_of_ble_eq_true rfl), (Nat.le_of_ble_eq_true rfl)⟩ (fun S1 H locs hp hC1 => ?_)
      have e1 := hp
      rw [e1] at hC1; replace hC := hC1
      rw [show pcM (sP1 (sT (sI S0 0 (wC S0 n R x a b)) a' b') n (S0.2.1 1 r) r a') r b' n = (sP2 (sP1 (sT (sI S0 0 (wC S0 n R x a b)) a' b') n (S0.2.1 1 r) r a') n (S0.2.1 1 r) r b') by rw [sP2, if_pos (Or.inl c85)]] at hC
      exact tail100 r a' b' hr12 ha hb er ea eb c38 hpu hnp _ _ _ hC (lv_sub hl [0, 1, 2, 3, 4] rfl)
    · skip
      refine lv_iload S.1 S.2.1 dX1_set_88 (lv_at hl 4 rfl) ?_
      refine lv_iconst (v := nI 1) S.1 S.2.1 dX1_set_90 rfl ?_
      refine lv_icmp_ne (tgt := 100) S.1 S.2.1 dX1_set_91 (by decide) (fun c91 => ?_) (fun c91 => ?_)
      · rw [show (sP1 (sT (sI S0 0 (wC S0 n R x a b)) a' b') n (S0.2.1 1 r) r a') = (sP2 (sP1 (sT (sI S0 0 (wC S0 n R x a b)) a' b') n (S0.2.1 1 r) r a') n (S0.2.1 1 r) r b') by rw [sP2, if_neg (fun q => q.elim c85 c91)]] at hC
        exact tail100 r a' b' hr12 ha hb er ea eb c38 hpu hnp _ _ _ hC (lv_sub hl [0, 1, 2, 3, 4] rfl)
      · skip
        refine lv_aload_n S.1 S.2.1 dX1_set_94 rfl (lv_at hl 0 rfl) ?_
        refine lv_iload_n S.1 S.2.1 dX1_set_95 rfl (lv_at hl 1 rfl) ?_
        refine lv_iload_n S.1 S.2.1 dX1_set_96 rfl (lv_at hl 3 rfl) ?_
        refine o_callv oiM S hC (c_X1_pushTo l hn hr12 hb (hpu.2.1 (Or.inr c91))) cw_RX1_X1_pushTo ⟨rfl, rfl, by decide, by decide⟩ rfl hl.1 rfl (Nat.le_of_ble_eq_true rfl) dX1_set_97 ⟨(Nat.le_of_ble_eq_true rfl), (Nat.le_of_ble_eq_true rfl)⟩ (fun S1 H locs hp hC1 => ?_)
        have e1 := hp
        rw [e1] at hC1; replace hC := hC1
        rw [show pcM (sP1 (sT (sI S0 0 (wC S0 n R x a b)) a' b') n (S0.2.1 1 r) r a') r b' n = (sP2 (sP1 (sT (sI S0 0 (wC S0 n R x a b)) a' b') n (S0.2.1 1 r) r a') n (S0.2.1 1 r) r b') by rw [sP2, if_pos (Or.inr c91)]] at hC
        exact tail100 r a' b' hr12 ha hb er ea eb c38 hpu hnp _ _ _ hC (lv_sub hl [0, 1, 2, 3, 4] rfl)
  refine lv_aload_n S.1 S.2.1 dX1_set_0 rfl (lv_at hl 0 rfl) ?_
  refine lv_aload_n S.1 S.2.1 dX1_set_1 rfl (lv_at hl 0 rfl) ?_
  refine lv_iload_n S.1 S.2.1 dX1_set_2 rfl (lv_at hl 1 rfl) ?_
  refine lv_iload_n S.1 S.2.1 dX1_set_3 rfl (lv_at hl 2 rfl) ?_
  refine lv_iload_n S.1 S.2.1 dX1_set_4 rfl (lv_at hl 3 rfl) ?_
  refine o_calli oiM S hC (c_X1_whyNot l hn hR hrel x a b) cw_RX1_X1_whyNot ⟨rfl, rfl, by decide, by decide⟩ rfl hl.1 rfl (Nat.le_of_ble_eq_true rfl) dX1_set_5 ⟨(Nat.le_of_ble_eq_true rfl), (Nat.le_of_ble_eq_true rfl)⟩ (fun r5 S1 H locs hp hC1 => ?_)
  obtain ⟨e1, hp⟩ := hp
  rw [e1] at hC1; replace hC := hC1
  subst hp
  refine o_calli oiM S hC (c_X1_isGood l hn _) cw_RX1_X1_isGood ⟨rfl, rfl, by decide, by decide⟩ rfl hl.1 rfl (Nat.le_of_ble_eq_true rfl) dX1_set_8 ⟨(Nat.le_of_ble_eq_true rfl), (Nat.le_of_ble_eq_true rfl)⟩ (fun r8 S1 H locs hp hC1 => ?_)
  obtain ⟨e1, hp⟩ := hp
  rw [e1] at hC1; replace hC := hC1
  subst hp
  refine b_if_ne (tgt := 16) S.1 S.2.1 dX1_set_11 (by decide) (fun c11 => ?_) (fun c11 => ?_)
  · have c38 : wC S0 n R x a b = 0 := by simpa using c11
    obtain ⟨h9, h10, h11⟩ := wC_0 c38
    obtain ⟨r, hrR, e0x⟩ := inI_t (by omega) h9
    obtain ⟨a', ha, e0a⟩ := inI_t (by omega) h10
    obtain ⟨b', hb, e0b⟩ := inI_t (by omega) h11
    have er : ixN x = r := by rw [e0x]; exact ixN_nI (by omega)
    have ea : ixN a = a' := by rw [e0a]; exact ixN_nI (by omega)
    have eb : ixN b = b' := by rw [e0b]; exact ixN_nI (by omega)
    have hr12 : r < 12 := by omega
    rw [e0x, e0a, e0b] at hl
    refine lv_aload_n S.1 S.2.1 dX1_set_16 rfl (lv_at hl 0 rfl) ?_
    refine lv_iconst (v := nI 0) S.1 S.2.1 dX1_set_17 rfl ?_
    refine m_put_pushes S hC dX1_set_18 (fun H locs hC => ?_)
    refine lv_aload_n S.1 S.2.1 dX1_set_21 rfl (lv_at hl 0 rfl) ?_
    refine m_get_tallies S hC dX1_set_22 ?_
    refine lv_bipush (v := nI 40) S.1 S.2.1 dX1_set_25 rfl ?_
    refine lv_iload_n S.1 S.2.1 dX1_set_27 rfl (lv_at hl 2 rfl) ?_
    refine t_imul S.1 S.2.1 dX1_set_28 (pk_mul _ _) ?_
    refine lv_iload_n S.1 S.2.1 dX1_set_29 rfl (lv_at hl 3 rfl) ?_
    refine t_iadd S.1 S.2.1 dX1_set_30 (nI_add _ _) ?_
    refine lv_dup2_11 S.1 S.2.1 dX1_set_31 rfl rfl ?_
    refine m_ild S hC 6 (by decide) (show 40 * a' + b' < 1600 by omega) dX1_set_32 ?_
    refine lv_iconst (v := nI 1) S.1 S.2.1 dX1_set_33 rfl ?_
    refine lv_iadd S.1 S.2.1 dX1_set_34 ?_
    refine m_ist S hC 6 (by decide) (show 40 * a' + b' < 1600 by omega) dX1_set_35 (fun H locs hC => ?_)
    replace hC : CM loc n g (sT (sI S0 0 (wC S0 n R x a b)) a' b') s _ _ := hC
    refine lv_aload_n S.1 S.2.1 dX1_set_36 rfl (lv_at hl 0 rfl) ?_
    refine m_get_pairs S hC dX1_set_37 ?_
    refine lv_iload_n S.1 S.2.1 dX1_set_40 rfl (lv_at hl 1 rfl) ?_
    refine lv_iload_n S.1 S.2.1 dX1_set_41 rfl (lv_at hl 2 rfl) ?_
    refine lv_iload_n S.1 S.2.1 dX1_set_42 rfl (lv_at hl 3 rfl) ?_
    refine s_calli S (c_X1_at l r a' b') cw_RX1_X1_at ⟨rfl, rfl, by decide, by decide⟩ rfl hl.1 rfl (Nat.le_of_ble_eq_true rfl) dX1_set_43 ⟨(Nat.le_of_ble_eq_true rfl), (Nat.le_of_ble_eq_true rfl)⟩ (fun r43 hp => ?_)
    subst hp
    refine m_zld S hC 0 (by decide) (ixP_lt hr12 (by omega) (by omega)) dX1_set_46 ?_
    refine b_if_eq (tgt := 52) S.1 S.2.1 dX1_set_47 (by decide) (fun c47 => ?_) (fun c47 => ?_)
    · have hnp : pM (sT (sI S0 0 (wC S0 n R x a b)) a' b') r a' b' = false := c47
      have hpu := hpu0 c38 (by rw [er, ea, eb]; exact hnp)
      rw [er, ea, eb] at hpu
      refine lv_aload_n S.1 S.2.1 dX1_set_52 rfl (lv_at hl 0 rfl) ?_
      refine m_get_form S hC dX1_set_53 ?_
      refine lv_iload_n S.1 S.2.1 dX1_set_56 rfl (lv_at hl 1 rfl) ?_
      refine m_ild S hC 1 (by decide) hr12 dX1_set_57 ?_
      rw [show (sT (sI S0 0 (wC S0 n R x a b)) a' b').2.1 1 r = S0.2.1 1 r from rfl]
      refine lv_istore S.1 S.2.1 dX1_set_58 hl (by decide) rfl (fun ls hl => ?_)
      refine lv_iload S.1 S.2.1 dX1_set_60 (lv_at hl 0 rfl) ?_
      refine lv_if_eq (tgt := 77) S.1 S.2.1 dX1_set_62 (by decide) (fun c62 => ?_) (fun c62 => ?_)
      · skip
        refine lv_aload_n S.1 S.2.1 dX1_set_77 rfl (lv_at hl 1 rfl) ?_
        refine lv_iload_n S.1 S.2.1 dX1_set_78 rfl (lv_at hl 2 rfl) ?_
        refine lv_iload_n S.1 S.2.1 dX1_set_79 rfl (lv_at hl 3 rfl) ?_
        refine o_callv oiM S hC (c_X1_pushFrom l hn hr12 ha (hpu.1 (Or.inl c62))) cw_RX1_X1_pushFrom ⟨rfl, rfl, by decide, by decide⟩ rfl hl.1 rfl (Nat.le_of_ble_eq_true rfl) dX1_set_80 ⟨(Nat.le_of_ble_eq_true rfl), (Nat.le_of_ble_eq_true rfl)⟩ (fun S1 H locs hp hC1 => ?_)
        have e1 := hp
        rw [e1] at hC1; replace hC := hC1
        rw [show prM (sT (sI S0 0 (wC S0 n R x a b)) a' b') r a' n = (sP1 (sT (sI S0 0 (wC S0 n R x a b)) a' b') n (S0.2.1 1 r) r a') by rw [sP1, if_pos (Or.inl c62)]] at hC
        exact tail83 r a' b' hr12 ha hb er ea eb c38 hpu hnp _ _ _ hC (lv_sub hl [1, 2, 3, 4, 0] rfl)
      · skip
        refine lv_iload S.1 S.2.1 dX1_set_65 (lv_at hl 0 rfl) ?_
        refine lv_iconst (v := nI 2) S.1 S.2.1 dX1_set_67 rfl ?_
        refine lv_icmp_eq (tgt := 77) S.1 S.2.1 dX1_set_68 (by decide) (fun c68 => ?_) (fun c68 => ?_)
        · skip
          refine lv_aload_n S.1 S.2.1 dX1_set_77 rfl (lv_at hl 1 rfl) ?_
          refine lv_iload_n S.1 S.2.1 dX1_set_78 rfl (lv_at hl 2 rfl) ?_
          refine lv_iload_n S.1 S.2.1 dX1_set_79 rfl (lv_at hl 3 rfl) ?_
          refine o_callv oiM S hC (c_X1_pushFrom l hn hr12 ha (hpu.1 (Or.inr (Or.inl c68)))) cw_RX1_X1_pushFrom ⟨rfl, rfl, by decide, by decide⟩ rfl hl.1 rfl (Nat.le_of_ble_eq_true rfl) dX1_set_80 ⟨(Nat.le_of_ble_eq_true rfl), (Nat.le_of_ble_eq_true rfl)⟩ (fun S1 H locs hp hC1 => ?_)
          have e1 := hp
          rw [e1] at hC1; replace hC := hC1
          rw [show prM (sT (sI S0 0 (wC S0 n R x a b)) a' b') r a' n = (sP1 (sT (sI S0 0 (wC S0 n R x a b)) a' b') n (S0.2.1 1 r) r a') by rw [sP1, if_pos (Or.inr (Or.inl c68))]] at hC
          exact tail83 r a' b' hr12 ha hb er ea eb c38 hpu hnp _ _ _ hC (lv_sub hl [1, 2, 3, 4, 0] rfl)
        · skip
          refine lv_iload S.1 S.2.1 dX1_set_71 (lv_at hl 0 rfl) ?_
          refine lv_iconst (v := nI 4) S.1 S.2.1 dX1_set_73 rfl ?_
          refine lv_icmp_ne (tgt := 83) S.1 S.2.1 dX1_set_74 (by decide) (fun c74 => ?_) (fun c74 => ?_)
          · rw [show (sT (sI S0 0 (wC S0 n R x a b)) a' b') = (sP1 (sT (sI S0 0 (wC S0 n R x a b)) a' b') n (S0.2.1 1 r) r a') by rw [sP1, if_neg (fun q => q.elim c62 (fun q => q.elim c68 c74))]] at hC
            exact tail83 r a' b' hr12 ha hb er ea eb c38 hpu hnp _ _ _ hC (lv_sub hl [1, 2, 3, 4, 0] rfl)
          · skip
            refine lv_aload_n S.1 S.2.1 dX1_set_77 rfl (lv_at hl 1 rfl) ?_
            refine lv_iload_n S.1 S.2.1 dX1_set_78 rfl (lv_at hl 2 rfl) ?_
            refine lv_iload_n S.1 S.2.1 dX1_set_79 rfl (lv_at hl 3 rfl) ?_
            refine o_callv oiM S hC (c_X1_pushFrom l hn hr12 ha (hpu.1 (Or.inr (Or.inr c74)))) cw_RX1_X1_pushFrom ⟨rfl, rfl, by decide, by decide⟩ rfl hl.1 rfl (Nat.le_of_ble_eq_true rfl) dX1_set_80 ⟨(Nat.le_of_ble_eq_true rfl), (Nat.le_of_ble_eq_true rfl)⟩ (fun S1 H locs hp hC1 => ?_)
            have e1 := hp
            rw [e1] at hC1; replace hC := hC1
            rw [show prM (sT (sI S0 0 (wC S0 n R x a b)) a' b') r a' n = (sP1 (sT (sI S0 0 (wC S0 n R x a b)) a' b') n (S0.2.1 1 r) r a') by rw [sP1, if_pos (Or.inr (Or.inr c74))]] at hC
            exact tail83 r a' b' hr12 ha hb er ea eb c38 hpu hnp _ _ _ hC (lv_sub hl [1, 2, 3, 4, 0] rfl)
    · have hnp : pM (sT (sI S0 0 (wC S0 n R x a b)) a' b') r a' b' = true := c47
      refine lv_iconst (v := nI 0) S.1 S.2.1 dX1_set_50 rfl ?_
      exact o_iret S hr hlocks hC ⟨by rw [if_pos c38, er, ea, eb, setM, if_pos hnp], by rw [if_pos c38, er, ea, eb, if_pos hnp]⟩ rfl dX1_set_51 (Nat.le_of_ble_eq_true rfl) (Nat.le_of_ble_eq_true rfl)
  · have c38 : ¬ wC S0 n R x a b = 0 := by simpa using c11
    refine lv_iconst (v := nI 0) S.1 S.2.1 dX1_set_14 rfl ?_
    exact o_iret S hr hlocks hC ⟨by rw [if_neg c38], by rw [if_neg c38]⟩ rfl dX1_set_15 (Nat.le_of_ble_eq_true rfl) (Nat.le_of_ble_eq_true rfl)
def drB (S : MS) (r a b : Nat) : Bool := pM S r a b && !(decide (S.2.1 1 r = nI 6) && decide (a = b))
def dropM (S : MS) (n r a b : Nat) : MS := if S.2.1 1 r = nI 6 then (if drB S r a b then ptM S r a n else S) else putM S r a b false
set_option maxRecDepth 100000 in
set_option maxHeartbeats 4000000 in
theorem c_X1_drop (l : Launch) {loc : Nat → Nat} {n : Nat} {g : Gc} (hn : n ≤ 40) {S0 : MS} {R : Nat} (hR : R ≤ 12) (hrel : S0.1 1 = nI R) (x a b : Int32) : MMi l yX1_drop cX1_drop 5 (some .boolean) (rmL 6 0 0) loc n g S0 [.int x, .int a, .int b] (fun v S' => S' = (if wC S0 n R x a b = 0 then dropM (sI S0 0 (wC S0 n R x a b)) n (ixN x) (ixN a) (ixN b) else (sI S0 0 (wC S0 n R x a b))) ∧ v = (if wC S0 n R x a b = 0 then bI (drB (sI S0 0 (wC S0 n R x a b)) (ixN x) (ixN a) (ixN b)) else nI 0)) := by
  refine o_enter (by decide) (Nat.le_of_ble_eq_true rfl) ?_
  intro p e s m below meth c ls S hr hlocks hC hl
  have tail56 : ∀ (r a' b' : Nat) (hr12 : r < 12) (ha : a' < n) (hb : b' < n) (er : ixN x = r) (ea : ixN a = a') (eb : ixN b = b') (c38 : wC S0 n R x a b = 0) (h6 : (sI S0 0 (wC S0 n R x a b)).2.1 1 r = nI 6), ∀ (H : Heap) (locs : List Loc) (ls : Array Slot), CM loc n g (if drB (sI S0 0 (wC S0 n R x a b)) r a' b' then ptM (sI S0 0 (wC S0 n R x a b)) r a' n else (sI S0 0 (wC S0 n R x a b))) s H locs → lv_has ls 5 [(0, .ref (loc 0)), (1, .int (nI r)), (2, (.int (nI a'))), (3, (.int (nI b'))), (4, (.int (bI (pM (sI S0 0 (wC S0 n R x a b)) r a' b'))))] → W p l e (rmL 6 0 0) s m ([.ref (loc 0), .int x, .int a, .int b] : List Value).toArray below meth c H locs 0 0 (MQ below (va_Qi (fun v S' => S' = (if wC S0 n R x a b = 0 then dropM (sI S0 0 (wC S0 n R x a b)) n (ixN x) (ixN a) (ixN b) else (sI S0 0 (wC S0 n R x a b))) ∧ v = (if wC S0 n R x a b = 0 then bI (drB (sI S0 0 (wC S0 n R x a b)) (ixN x) (ixN a) (ixN b)) else nI 0)) (fun S' t => HM loc n g S' t.heap) (ZA loc 10)) ([.ref (loc 0), .int x, .int a, .int b] : List Value).toArray s (rmL 6 0 0).cells (rmL 6 0 0).slots (ZA loc 10)) (F0 m 56 ls []) := by
    intro r a' b' hr12 ha hb er ea eb c38 h6 H locs ls hC hl
    refine lv_iload S.1 S.2.1 dX1_drop_56 (lv_at hl 4 rfl) ?_
    refine b_if_eq (tgt := 70) S.1 S.2.1 dX1_drop_58 (by decide) (fun c58 => ?_) (fun c58 => ?_)
    · skip
      refine lv_iconst (v := bI (drB (sI S0 0 (wC S0 n R x a b)) r a' b')) S.1 S.2.1 dX1_drop_70 (by rw [show drB (sI S0 0 (wC S0 n R x a b)) r a' b' = false by rw [drB, c58]; rfl]; rfl) ?_
      exact o_iret S hr hlocks hC ⟨by rw [if_pos c38, er, ea, eb, dropM, if_pos h6], by rw [if_pos c38, er, ea, eb]⟩ (bI_nar _) dX1_drop_71 (Nat.le_of_ble_eq_true rfl) (Nat.le_of_ble_eq_true rfl)
    · skip
      refine lv_iload_n S.1 S.2.1 dX1_drop_61 rfl (lv_at hl 2 rfl) ?_
      refine lv_iload_n S.1 S.2.1 dX1_drop_62 rfl (lv_at hl 3 rfl) ?_
      refine n_icmp_eq (tgt := 70) S.1 S.2.1 dX1_drop_63 (by decide) (by omega) (by omega) (fun c63 => ?_) (fun c63 => ?_)
      · skip
        refine lv_iconst (v := bI (drB (sI S0 0 (wC S0 n R x a b)) r a' b')) S.1 S.2.1 dX1_drop_70 (by rw [show drB (sI S0 0 (wC S0 n R x a b)) r a' b' = false by rw [drB, c58, decide_eq_true h6, decide_eq_true c63]; rfl]; rfl) ?_
        exact o_iret S hr hlocks hC ⟨by rw [if_pos c38, er, ea, eb, dropM, if_pos h6], by rw [if_pos c38, er, ea, eb]⟩ (bI_nar _) dX1_drop_71 (Nat.le_of_ble_eq_true rfl) (Nat.le_of_ble_eq_true rfl)
      · skip
        refine lv_iconst (v := bI (drB (sI S0 0 (wC S0 n R x a b)) r a' b')) S.1 S.2.1 dX1_drop_66 (by rw [show drB (sI S0 0 (wC S0 n R x a b)) r a' b' = true by rw [drB, c58, decide_eq_false c63, Bool.and_false]; rfl]; rfl) ?_
        refine lv_goto (tgt := 71) S.1 S.2.1 dX1_drop_67 (by decide) ?_
        exact o_iret S hr hlocks hC ⟨by rw [if_pos c38, er, ea, eb, dropM, if_pos h6], by rw [if_pos c38, er, ea, eb]⟩ (bI_nar _) dX1_drop_71 (Nat.le_of_ble_eq_true rfl) (Nat.le_of_ble_eq_true rfl)
  refine lv_aload_n S.1 S.2.1 dX1_drop_0 rfl (lv_at hl 0 rfl) ?_
  refine lv_aload_n S.1 S.2.1 dX1_drop_1 rfl (lv_at hl 0 rfl) ?_
  refine lv_iload_n S.1 S.2.1 dX1_drop_2 rfl (lv_at hl 1 rfl) ?_
  refine lv_iload_n S.1 S.2.1 dX1_drop_3 rfl (lv_at hl 2 rfl) ?_
  refine lv_iload_n S.1 S.2.1 dX1_drop_4 rfl (lv_at hl 3 rfl) ?_
  refine o_calli oiM S hC (c_X1_whyNot l hn hR hrel x a b) cw_RX1_X1_whyNot ⟨rfl, rfl, by decide, by decide⟩ rfl hl.1 rfl (Nat.le_of_ble_eq_true rfl) dX1_drop_5 ⟨(Nat.le_of_ble_eq_true rfl), (Nat.le_of_ble_eq_true rfl)⟩ (fun r5 S1 H locs hp hC1 => ?_)
  obtain ⟨e1, hp⟩ := hp
  rw [e1] at hC1; replace hC := hC1
  subst hp
  refine o_calli oiM S hC (c_X1_isGood l hn _) cw_RX1_X1_isGood ⟨rfl, rfl, by decide, by decide⟩ rfl hl.1 rfl (Nat.le_of_ble_eq_true rfl) dX1_drop_8 ⟨(Nat.le_of_ble_eq_true rfl), (Nat.le_of_ble_eq_true rfl)⟩ (fun r8 S1 H locs hp hC1 => ?_)
  obtain ⟨e1, hp⟩ := hp
  rw [e1] at hC1; replace hC := hC1
  subst hp
  refine b_if_ne (tgt := 16) S.1 S.2.1 dX1_drop_11 (by decide) (fun c11 => ?_) (fun c11 => ?_)
  · have c38 : wC S0 n R x a b = 0 := by simpa using c11
    obtain ⟨h9, h10, h11⟩ := wC_0 c38
    obtain ⟨r, hrR, e0x⟩ := inI_t (by omega) h9
    obtain ⟨a', ha, e0a⟩ := inI_t (by omega) h10
    obtain ⟨b', hb, e0b⟩ := inI_t (by omega) h11
    have er : ixN x = r := by rw [e0x]; exact ixN_nI (by omega)
    have ea : ixN a = a' := by rw [e0a]; exact ixN_nI (by omega)
    have eb : ixN b = b' := by rw [e0b]; exact ixN_nI (by omega)
    have hr12 : r < 12 := by omega
    rw [e0x, e0a, e0b] at hl
    refine lv_aload_n S.1 S.2.1 dX1_drop_16 rfl (lv_at hl 0 rfl) ?_
    refine m_get_pairs S hC dX1_drop_17 ?_
    refine lv_iload_n S.1 S.2.1 dX1_drop_20 rfl (lv_at hl 1 rfl) ?_
    refine lv_iload_n S.1 S.2.1 dX1_drop_21 rfl (lv_at hl 2 rfl) ?_
    refine lv_iload_n S.1 S.2.1 dX1_drop_22 rfl (lv_at hl 3 rfl) ?_
    refine s_calli S (c_X1_at l r a' b') cw_RX1_X1_at ⟨rfl, rfl, by decide, by decide⟩ rfl hl.1 rfl (Nat.le_of_ble_eq_true rfl) dX1_drop_23 ⟨(Nat.le_of_ble_eq_true rfl), (Nat.le_of_ble_eq_true rfl)⟩ (fun r23 hp => ?_)
    subst hp
    refine m_zld S hC 0 (by decide) (ixP_lt hr12 (by omega) (by omega)) dX1_drop_26 ?_
    refine lv_istore S.1 S.2.1 dX1_drop_27 hl (by decide) rfl (fun ls hl => ?_)
    refine lv_aload_n S.1 S.2.1 dX1_drop_29 rfl (lv_at hl 1 rfl) ?_
    refine m_get_form S hC dX1_drop_30 ?_
    refine lv_iload_n S.1 S.2.1 dX1_drop_33 rfl (lv_at hl 2 rfl) ?_
    refine m_ild S hC 1 (by decide) hr12 dX1_drop_34 ?_
    refine lv_bipush (v := nI 6) S.1 S.2.1 dX1_drop_35 rfl ?_
    refine lv_icmp_ne (tgt := 72) S.1 S.2.1 dX1_drop_37 (by decide) (fun c37 => ?_) (fun c37 => ?_)
    · skip
      refine lv_aload_n S.1 S.2.1 dX1_drop_72 rfl (lv_at hl 1 rfl) ?_
      refine lv_iload_n S.1 S.2.1 dX1_drop_73 rfl (lv_at hl 2 rfl) ?_
      refine lv_iload_n S.1 S.2.1 dX1_drop_74 rfl (lv_at hl 3 rfl) ?_
      refine lv_iload_n S.1 S.2.1 dX1_drop_75 rfl (lv_at hl 4 rfl) ?_
      refine lv_iconst (v := bI false) S.1 S.2.1 dX1_drop_76 rfl ?_
      refine o_callv oiM S hC (c_X1_put l hn hr12 ha hb false) cw_RX1_X1_put ⟨rfl, rfl, by decide, by decide⟩ rfl hl.1 rfl (Nat.le_of_ble_eq_true rfl) dX1_drop_77 ⟨(Nat.le_of_ble_eq_true rfl), (Nat.le_of_ble_eq_true rfl)⟩ (fun S1 H locs hp hC1 => ?_)
      have e1 := hp
      rw [e1] at hC1; replace hC := hC1
      refine lv_iload S.1 S.2.1 dX1_drop_80 (lv_at hl 0 rfl) ?_
      exact o_iret S hr hlocks hC ⟨by rw [if_pos c38, er, ea, eb, dropM, if_neg c37], by rw [if_pos c38, er, ea, eb, drB, decide_eq_false c37]; simp; rfl⟩ (bI_nar _) dX1_drop_82 (Nat.le_of_ble_eq_true rfl) (Nat.le_of_ble_eq_true rfl)
    · skip
      refine lv_iload S.1 S.2.1 dX1_drop_40 (lv_at hl 0 rfl) ?_
      refine b_if_eq (tgt := 56) S.1 S.2.1 dX1_drop_42 (by decide) (fun c42 => ?_) (fun c42 => ?_)
      · replace hC : CM loc n g (if drB (sI S0 0 (wC S0 n R x a b)) r a' b' then ptM (sI S0 0 (wC S0 n R x a b)) r a' n else (sI S0 0 (wC S0 n R x a b))) s _ _ := (by rw [if_neg (by rw [drB, show pM (sI S0 0 (wC S0 n R x a b)) r a' b' = false from c42]; simp)]; exact hC)
        exact tail56 r a' b' hr12 ha hb er ea eb c38 c37 _ _ _ hC (lv_sub hl [1, 2, 3, 4, 0] rfl)
      · skip
        refine lv_iload_n S.1 S.2.1 dX1_drop_45 rfl (lv_at hl 3 rfl) ?_
        refine lv_iload_n S.1 S.2.1 dX1_drop_46 rfl (lv_at hl 4 rfl) ?_
        refine n_icmp_eq (tgt := 56) S.1 S.2.1 dX1_drop_47 (by decide) (by omega) (by omega) (fun c47 => ?_) (fun c47 => ?_)
        · replace hC : CM loc n g (if drB (sI S0 0 (wC S0 n R x a b)) r a' b' then ptM (sI S0 0 (wC S0 n R x a b)) r a' n else (sI S0 0 (wC S0 n R x a b))) s _ _ := (by rw [if_neg (by rw [drB, show pM (sI S0 0 (wC S0 n R x a b)) r a' b' = true from c42, decide_eq_true c37, decide_eq_true c47]; simp)]; exact hC)
          exact tail56 r a' b' hr12 ha hb er ea eb c38 c37 _ _ _ hC (lv_sub hl [1, 2, 3, 4, 0] rfl)
        · skip
          refine lv_aload_n S.1 S.2.1 dX1_drop_50 rfl (lv_at hl 1 rfl) ?_
          refine lv_iload_n S.1 S.2.1 dX1_drop_51 rfl (lv_at hl 2 rfl) ?_
          refine lv_iload_n S.1 S.2.1 dX1_drop_52 rfl (lv_at hl 3 rfl) ?_
          refine o_callv oiM S hC (c_X1_part l hn hr12 ha) cw_RX1_X1_part ⟨rfl, rfl, by decide, by decide⟩ rfl hl.1 rfl (Nat.le_of_ble_eq_true rfl) dX1_drop_53 ⟨(Nat.le_of_ble_eq_true rfl), (Nat.le_of_ble_eq_true rfl)⟩ (fun S1 H locs hp hC1 => ?_)
          have e1 := hp
          rw [e1] at hC1; replace hC := hC1
          replace hC : CM loc n g (if drB (sI S0 0 (wC S0 n R x a b)) r a' b' then ptM (sI S0 0 (wC S0 n R x a b)) r a' n else (sI S0 0 (wC S0 n R x a b))) s _ _ := (by rw [if_pos (by rw [drB, show pM (sI S0 0 (wC S0 n R x a b)) r a' b' = true from c42, decide_eq_false c47, Bool.and_false]; rfl)]; exact hC)
          exact tail56 r a' b' hr12 ha hb er ea eb c38 c37 _ _ _ hC (lv_sub hl [1, 2, 3, 4, 0] rfl)
  · have c38 : ¬ wC S0 n R x a b = 0 := by simpa using c11
    refine lv_iconst (v := nI 0) S.1 S.2.1 dX1_drop_14 rfl ?_
    exact o_iret S hr hlocks hC ⟨by rw [if_neg c38], by rw [if_neg c38]⟩ rfl dX1_drop_15 (Nat.le_of_ble_eq_true rfl) (Nat.le_of_ble_eq_true rfl)
