def bC (q : Int32) : Int32 := if q = -1 then nI 2 else nI 0
def boS (S : MS) (n R : Nat) (x a : Int32) : MS := lrF (sI S 0 (t2C n R x a)) n (ixN x + 1)
def boQ (S : MS) (n R : Nat) (x a i : Int32) (v : Bool) : Int32 := bsG (boS S n R x a) (ixN x) (ixN a) i v n 0 0
set_option maxRecDepth 100000 in
set_option maxHeartbeats 4000000 in
theorem c_X1_besideOr (l : Launch) {loc : Nat → Nat} {n : Nat} {g : Gc} (hn : n ≤ 40) {S0 : MS} {R : Nat} (hR : R ≤ 12) (hrel : S0.1 1 = nI R) (hw : ∀ q, q < R → ¬ S0.2.1 1 q < nI 10 → wfM S0 q) (x a i : Int32) (v : Bool) : MMi l yX1_besideOr cX1_besideOr 6 (some .int) (rmL 7 0 0) loc n g S0 [.int x, .int a, .int i, .int (bI v)] (fun q S' => S' = (if t2C n R x a = 0 then sI (boS S0 n R x a) 0 (bC (boQ S0 n R x a i v)) else sI S0 0 (t2C n R x a)) ∧ q = (if t2C n R x a = 0 then (if bC (boQ S0 n R x a i v) = 0 then boQ S0 n R x a i v else nI 0) else nI 0)) := by
  refine o_enter (by decide) (Nat.le_of_ble_eq_true rfl) ?_
  intro p e s m below meth c ls S hr hlocks hC hl
  have tail53 : ∀ (c38 : t2C n R x a = 0), ∀ (H : Heap) (locs : List Loc) (ls : Array Slot), CM loc n g (boS S0 n R x a) s H locs → lv_has ls 6 [(5, .int (boQ S0 n R x a i v))] → W p l e (rmL 7 0 0) s m ([.ref (loc 0), .int x, .int a, .int i, .int (bI v)] : List Value).toArray below meth c H locs 0 0 (MQ below (va_Qi (fun q S' => S' = (if t2C n R x a = 0 then sI (boS S0 n R x a) 0 (bC (boQ S0 n R x a i v)) else sI S0 0 (t2C n R x a)) ∧ q = (if t2C n R x a = 0 then (if bC (boQ S0 n R x a i v) = 0 then boQ S0 n R x a i v else nI 0) else nI 0)) (fun S' t => HM loc n g S' t.heap) (ZA loc 10)) ([.ref (loc 0), .int x, .int a, .int i, .int (bI v)] : List Value).toArray s (rmL 7 0 0).cells (rmL 7 0 0).slots (ZA loc 10)) (F0 m 53 ls [.int (bC (boQ S0 n R x a i v)), .ref (loc 0)]) := by
    intro c38 H locs ls hC hl
    refine o_calli oiM S hC (c_X1_isGood l hn _) cw_RX1_X1_isGood ⟨rfl, rfl, by decide, by decide⟩ rfl hl.1 rfl (Nat.le_of_ble_eq_true rfl) dX1_besideOr_53 ⟨(Nat.le_of_ble_eq_true rfl), (Nat.le_of_ble_eq_true rfl)⟩ (fun r53 S1 H locs hp hC1 => ?_)
    obtain ⟨e1, hp⟩ := hp
    rw [e1] at hC1; replace hC := hC1
    subst hp
    refine b_if_eq (tgt := 64) S.1 S.2.1 dX1_besideOr_56 (by decide) (fun c56 => ?_) (fun c56 => ?_)
    · have c57 : ¬ bC (boQ S0 n R x a i v) = 0 := by simpa using c56
      refine lv_iconst (v := nI 0) S.1 S.2.1 dX1_besideOr_64 rfl ?_
      exact o_iret S hr hlocks hC ⟨by rw [if_pos c38], by rw [if_pos c38, if_neg c57]⟩ rfl dX1_besideOr_65 (Nat.le_of_ble_eq_true rfl) (Nat.le_of_ble_eq_true rfl)
    · have c57 : bC (boQ S0 n R x a i v) = 0 := by simpa using c56
      refine lv_iload S.1 S.2.1 dX1_besideOr_59 (lv_at hl 0 rfl) ?_
      refine lv_goto (tgt := 65) S.1 S.2.1 dX1_besideOr_61 (by decide) ?_
      exact o_iret S hr hlocks hC ⟨by rw [if_pos c38], by rw [if_pos c38, if_pos c57]⟩ rfl dX1_besideOr_65 (Nat.le_of_ble_eq_true rfl) (Nat.le_of_ble_eq_true rfl)
  have tail22 : ∀ (H : Heap) (locs : List Loc) (ls : Array Slot), CM loc n g (S0) s H locs → lv_has ls 6 [(0, .ref (loc 0)), (1, .int x), (2, .int a), (3, .int i), (4, .int (bI v))] → W p l e (rmL 7 0 0) s m ([.ref (loc 0), .int x, .int a, .int i, .int (bI v)] : List Value).toArray below meth c H locs 0 0 (MQ below (va_Qi (fun q S' => S' = (if t2C n R x a = 0 then sI (boS S0 n R x a) 0 (bC (boQ S0 n R x a i v)) else sI S0 0 (t2C n R x a)) ∧ q = (if t2C n R x a = 0 then (if bC (boQ S0 n R x a i v) = 0 then boQ S0 n R x a i v else nI 0) else nI 0)) (fun S' t => HM loc n g S' t.heap) (ZA loc 10)) ([.ref (loc 0), .int x, .int a, .int i, .int (bI v)] : List Value).toArray s (rmL 7 0 0).cells (rmL 7 0 0).slots (ZA loc 10)) (F0 m 22 ls [.int (t2C n R x a), .ref (loc 0)]) := by
    intro  H locs ls hC hl
    refine o_calli oiM S hC (c_X1_isGood l hn _) cw_RX1_X1_isGood ⟨rfl, rfl, by decide, by decide⟩ rfl hl.1 rfl (Nat.le_of_ble_eq_true rfl) dX1_besideOr_22 ⟨(Nat.le_of_ble_eq_true rfl), (Nat.le_of_ble_eq_true rfl)⟩ (fun r22 S1 H locs hp hC1 => ?_)
    obtain ⟨e1, hp⟩ := hp
    rw [e1] at hC1; replace hC := hC1
    subst hp
    refine b_if_ne (tgt := 30) S.1 S.2.1 dX1_besideOr_25 (by decide) (fun c25 => ?_) (fun c25 => ?_)
    · have c38 : t2C n R x a = 0 := by simpa using c25
      obtain ⟨h9, h10⟩ := t2C_0 c38
      obtain ⟨r, hrR, e0x⟩ := inI_t (by omega) h9
      obtain ⟨a', ha, e0a⟩ := inI_t (by omega) h10
      have er : ixN x = r := by rw [e0x]; exact ixN_nI (by omega)
      have ea : ixN a = a' := by rw [e0a]; exact ixN_nI (by omega)
      have hr12 : r < 12 := by omega
      rw [e0x, e0a] at hl
      refine lv_aload_n S.1 S.2.1 dX1_besideOr_30 rfl (lv_at hl 0 rfl) ?_
      refine lv_iload_n S.1 S.2.1 dX1_besideOr_31 rfl (lv_at hl 1 rfl) ?_
      refine lv_iload_n S.1 S.2.1 dX1_besideOr_32 rfl (lv_at hl 2 rfl) ?_
      refine lv_iload_n S.1 S.2.1 dX1_besideOr_33 rfl (lv_at hl 3 rfl) ?_
      refine lv_iload S.1 S.2.1 dX1_besideOr_34 (lv_at hl 4 rfl) ?_
      refine o_calli oiM S hC (c_X1_beside l hn (S0 := sI S0 0 (t2C n R x a)) hr12 ha (fun q hq => hw q (by omega)) i v) cw_RX1_X1_beside ⟨rfl, rfl, by decide, by decide⟩ rfl hl.1 rfl (Nat.le_of_ble_eq_true rfl) dX1_besideOr_36 ⟨(Nat.le_of_ble_eq_true rfl), (Nat.le_of_ble_eq_true rfl)⟩ (fun r36 S1 H locs hp hC1 => ?_)
      obtain ⟨e1, hp⟩ := hp
      rw [e1] at hC1; replace hC := hC1
      rw [e1] at hp
      subst hp
      rw [show lrF (sI S0 0 (t2C n R x a)) n (r + 1) = boS S0 n R x a by rw [boS, er]] at hC ⊢
      rw [show bsG (boS S0 n R x a) r a' i v n 0 0 = boQ S0 n R x a i v by rw [boQ, er, ea]]
      refine lv_istore S.1 S.2.1 dX1_besideOr_39 hl (by decide) rfl (fun ls hl => ?_)
      refine lv_aload_n S.1 S.2.1 dX1_besideOr_41 rfl (lv_at hl 1 rfl) ?_
      refine lv_iload S.1 S.2.1 dX1_besideOr_42 (lv_at hl 0 rfl) ?_
      refine lv_iconst (v := -1) S.1 S.2.1 dX1_besideOr_44 rfl ?_
      refine lv_icmp_ne (tgt := 52) S.1 S.2.1 dX1_besideOr_45 (by decide) (fun c45 => ?_) (fun c45 => ?_)
      · skip
        refine lv_iconst (v := bC (boQ S0 n R x a i v)) S.1 S.2.1 dX1_besideOr_52 (by rw [show bC (boQ S0 n R x a i v) = nI 0 by rw [bC, if_neg c45]]; rfl) ?_
        exact tail53 c38 _ _ _ hC (lv_sub hl [0] rfl)
      · skip
        refine lv_iconst (v := bC (boQ S0 n R x a i v)) S.1 S.2.1 dX1_besideOr_48 (by rw [show bC (boQ S0 n R x a i v) = nI 2 by rw [bC, if_pos c45]]; rfl) ?_
        refine lv_goto (tgt := 53) S.1 S.2.1 dX1_besideOr_49 (by decide) ?_
        exact tail53 c38 _ _ _ hC (lv_sub hl [0] rfl)
    · have c38 : ¬ t2C n R x a = 0 := by simpa using c25
      refine lv_iconst (v := nI 0) S.1 S.2.1 dX1_besideOr_28 rfl ?_
      exact o_iret S hr hlocks hC ⟨by rw [if_neg c38], by rw [if_neg c38]⟩ rfl dX1_besideOr_29 (Nat.le_of_ble_eq_true rfl) (Nat.le_of_ble_eq_true rfl)
  refine lv_aload_n S.1 S.2.1 dX1_besideOr_0 rfl (lv_at hl 0 rfl) ?_
  refine lv_aload_n S.1 S.2.1 dX1_besideOr_1 rfl (lv_at hl 0 rfl) ?_
  refine lv_iload_n S.1 S.2.1 dX1_besideOr_2 rfl (lv_at hl 1 rfl) ?_
  refine o_calli oiM S hC (c_X1_isRelation l hn hR hrel x) cw_RX1_X1_isRelation ⟨rfl, rfl, by decide, by decide⟩ rfl hl.1 rfl (Nat.le_of_ble_eq_true rfl) dX1_besideOr_3 ⟨(Nat.le_of_ble_eq_true rfl), (Nat.le_of_ble_eq_true rfl)⟩ (fun r3 S1 H locs hp hC1 => ?_)
  obtain ⟨e1, hp⟩ := hp
  rw [e1] at hC1; replace hC := hC1
  subst hp
  refine b_if_eq (tgt := 17) S.1 S.2.1 dX1_besideOr_6 (by decide) (fun c6 => ?_) (fun c6 => ?_)
  · skip
    refine lv_iconst (v := t2C n R x a) S.1 S.2.1 dX1_besideOr_17 (by rw [show t2C n R x a = nI 1 by rw [t2C, if_pos (Or.inl c6)]]; rfl) ?_
    refine lv_goto (tgt := 22) S.1 S.2.1 dX1_besideOr_18 (by decide) ?_
    exact tail22 _ _ _ hC (lv_sub hl [0, 1, 2, 3, 4] rfl)
  · skip
    refine lv_aload_n S.1 S.2.1 dX1_besideOr_9 rfl (lv_at hl 0 rfl) ?_
    refine lv_iload_n S.1 S.2.1 dX1_besideOr_10 rfl (lv_at hl 2 rfl) ?_
    refine o_calli oiM S hC (c_X1_isThing l hn a) cw_RX1_X1_isThing ⟨rfl, rfl, by decide, by decide⟩ rfl hl.1 rfl (Nat.le_of_ble_eq_true rfl) dX1_besideOr_11 ⟨(Nat.le_of_ble_eq_true rfl), (Nat.le_of_ble_eq_true rfl)⟩ (fun r11 S1 H locs hp hC1 => ?_)
    obtain ⟨e1, hp⟩ := hp
    rw [e1] at hC1; replace hC := hC1
    subst hp
    refine b_if_ne (tgt := 21) S.1 S.2.1 dX1_besideOr_14 (by decide) (fun c14 => ?_) (fun c14 => ?_)
    · skip
      refine lv_iconst (v := t2C n R x a) S.1 S.2.1 dX1_besideOr_21 (by rw [show t2C n R x a = nI 0 by rw [t2C, if_neg (by rw [c6, c14]; simp)]]; rfl) ?_
      exact tail22 _ _ _ hC (lv_sub hl [0, 1, 2, 3, 4] rfl)
    · skip
      refine lv_iconst (v := t2C n R x a) S.1 S.2.1 dX1_besideOr_17 (by rw [show t2C n R x a = nI 1 by rw [t2C, if_pos (Or.inr c14)]]; rfl) ?_
      refine lv_goto (tgt := 22) S.1 S.2.1 dX1_besideOr_18 (by decide) ?_
      exact tail22 _ _ _ hC (lv_sub hl [0, 1, 2, 3, 4] rfl)
set_option maxRecDepth 100000 in
set_option maxHeartbeats 4000000 in
theorem c_X1_next (l : Launch) {loc : Nat → Nat} {n : Nat} {g : Gc} (hn : n ≤ 40) {S0 : MS} {R : Nat} (hR : R ≤ 12) (hrel : S0.1 1 = nI R) (hw : ∀ q, q < R → ¬ S0.2.1 1 q < nI 10 → wfM S0 q) (x a i : Int32) : MMi l yX1_next cX1_next 4 (some .int) (rmL 8 0 0) loc n g S0 [.int x, .int a, .int i] (fun q S' => S' = (if t2C n R x a = 0 then sI (boS S0 n R x a) 0 (bC (boQ S0 n R x a i true)) else sI S0 0 (t2C n R x a)) ∧ q = (if t2C n R x a = 0 then (if bC (boQ S0 n R x a i true) = 0 then boQ S0 n R x a i true else nI 0) else nI 0)) := by
  refine o_enter (by decide) (Nat.le_of_ble_eq_true rfl) ?_
  intro p e s m below meth c ls S hr hlocks hC hl
  refine lv_aload_n S.1 S.2.1 dX1_next_0 rfl (lv_at hl 0 rfl) ?_
  refine lv_iload_n S.1 S.2.1 dX1_next_1 rfl (lv_at hl 1 rfl) ?_
  refine lv_iload_n S.1 S.2.1 dX1_next_2 rfl (lv_at hl 2 rfl) ?_
  refine lv_iload_n S.1 S.2.1 dX1_next_3 rfl (lv_at hl 3 rfl) ?_
  refine lv_iconst (v := bI true) S.1 S.2.1 dX1_next_4 rfl ?_
  refine o_calli oiM S hC (c_X1_besideOr l hn hR hrel hw x a i true) cw_RX1_X1_besideOr ⟨rfl, rfl, by decide, by decide⟩ rfl hl.1 rfl (Nat.le_of_ble_eq_true rfl) dX1_next_5 ⟨(Nat.le_of_ble_eq_true rfl), (Nat.le_of_ble_eq_true rfl)⟩ (fun r5 S1 H locs hp hC1 => ?_)
  obtain ⟨e1, hp⟩ := hp
  rw [e1] at hC1; replace hC := hC1
  subst hp
  exact o_iret S hr hlocks hC ⟨rfl, rfl⟩ rfl dX1_next_8 (Nat.le_of_ble_eq_true rfl) (Nat.le_of_ble_eq_true rfl)
set_option maxRecDepth 100000 in
set_option maxHeartbeats 4000000 in
theorem c_X1_back (l : Launch) {loc : Nat → Nat} {n : Nat} {g : Gc} (hn : n ≤ 40) {S0 : MS} {R : Nat} (hR : R ≤ 12) (hrel : S0.1 1 = nI R) (hw : ∀ q, q < R → ¬ S0.2.1 1 q < nI 10 → wfM S0 q) (x a i : Int32) : MMi l yX1_back cX1_back 4 (some .int) (rmL 8 0 0) loc n g S0 [.int x, .int a, .int i] (fun q S' => S' = (if t2C n R x a = 0 then sI (boS S0 n R x a) 0 (bC (boQ S0 n R x a i false)) else sI S0 0 (t2C n R x a)) ∧ q = (if t2C n R x a = 0 then (if bC (boQ S0 n R x a i false) = 0 then boQ S0 n R x a i false else nI 0) else nI 0)) := by
  refine o_enter (by decide) (Nat.le_of_ble_eq_true rfl) ?_
  intro p e s m below meth c ls S hr hlocks hC hl
  refine lv_aload_n S.1 S.2.1 dX1_back_0 rfl (lv_at hl 0 rfl) ?_
  refine lv_iload_n S.1 S.2.1 dX1_back_1 rfl (lv_at hl 1 rfl) ?_
  refine lv_iload_n S.1 S.2.1 dX1_back_2 rfl (lv_at hl 2 rfl) ?_
  refine lv_iload_n S.1 S.2.1 dX1_back_3 rfl (lv_at hl 3 rfl) ?_
  refine lv_iconst (v := bI false) S.1 S.2.1 dX1_back_4 rfl ?_
  refine o_calli oiM S hC (c_X1_besideOr l hn hR hrel hw x a i false) cw_RX1_X1_besideOr ⟨rfl, rfl, by decide, by decide⟩ rfl hl.1 rfl (Nat.le_of_ble_eq_true rfl) dX1_back_5 ⟨(Nat.le_of_ble_eq_true rfl), (Nat.le_of_ble_eq_true rfl)⟩ (fun r5 S1 H locs hp hC1 => ?_)
  obtain ⟨e1, hp⟩ := hp
  rw [e1] at hC1; replace hC := hC1
  subst hp
  exact o_iret S hr hlocks hC ⟨rfl, rfl⟩ rfl dX1_back_8 (Nat.le_of_ble_eq_true rfl) (Nat.le_of_ble_eq_true rfl)
def r1C (R : Nat) (x : Int32) : Int32 := if inI x (nI R) = true then nI 0 else nI 1
theorem r1C_0 {R : Nat} {x : Int32} (h : r1C R x = 0) : inI x (nI R) = true := by
  unfold r1C at h
  by_cases q : inI x (nI R) = true
  · exact q
  · rw [if_neg q] at h; exact absurd h (by decide)
set_option maxRecDepth 100000 in
set_option maxHeartbeats 4000000 in
theorem c_X1_count (l : Launch) {loc : Nat → Nat} {n : Nat} {g : Gc} (hn : n ≤ 40) {S0 : MS} {R : Nat} (hR : R ≤ 12) (hrel : S0.1 1 = nI R) (hw : ∀ q, q < R → ¬ S0.2.1 1 q < nI 10 → wfM S0 q) (x : Int32) : MMi l yX1_count cX1_count 2 (some .int) (rmL 6 0 0) loc n g S0 [.int x] (fun v S' => S' = (if r1C R x = 0 then lrF (sI S0 0 (r1C R x)) n (ixN x + 1) else sI S0 0 (r1C R x)) ∧ v = (if r1C R x = 0 then cnM S' (ixN x) 1600 else nI 0)) := by
  refine o_enter (by decide) (Nat.le_of_ble_eq_true rfl) ?_
  intro p e s m below meth c ls S hr hlocks hC hl
  have tail14 : ∀ (H : Heap) (locs : List Loc) (ls : Array Slot), CM loc n g (S0) s H locs → lv_has ls 2 [(0, .ref (loc 0)), (1, .int x)] → W p l e (rmL 6 0 0) s m ([.ref (loc 0), .int x] : List Value).toArray below meth c H locs 0 0 (MQ below (va_Qi (fun v S' => S' = (if r1C R x = 0 then lrF (sI S0 0 (r1C R x)) n (ixN x + 1) else sI S0 0 (r1C R x)) ∧ v = (if r1C R x = 0 then cnM S' (ixN x) 1600 else nI 0)) (fun S' t => HM loc n g S' t.heap) (ZA loc 10)) ([.ref (loc 0), .int x] : List Value).toArray s (rmL 6 0 0).cells (rmL 6 0 0).slots (ZA loc 10)) (F0 m 14 ls [.int (r1C R x), .ref (loc 0)]) := by
    intro  H locs ls hC hl
    refine o_calli oiM S hC (c_X1_isGood l hn _) cw_RX1_X1_isGood ⟨rfl, rfl, by decide, by decide⟩ rfl hl.1 rfl (Nat.le_of_ble_eq_true rfl) dX1_count_14 ⟨(Nat.le_of_ble_eq_true rfl), (Nat.le_of_ble_eq_true rfl)⟩ (fun r14 S1 H locs hp hC1 => ?_)
    obtain ⟨e1, hp⟩ := hp
    rw [e1] at hC1; replace hC := hC1
    subst hp
    refine b_if_ne (tgt := 22) S.1 S.2.1 dX1_count_17 (by decide) (fun c17 => ?_) (fun c17 => ?_)
    · have c38 : r1C R x = 0 := by simpa using c17
      have h9 := r1C_0 c38
      obtain ⟨r, hrR, e0x⟩ := inI_t (by omega) h9
      have er : ixN x = r := by rw [e0x]; exact ixN_nI (by omega)
      have hr12 : r < 12 := by omega
      rw [e0x] at hl
      refine lv_aload_n S.1 S.2.1 dX1_count_22 rfl (lv_at hl 0 rfl) ?_
      refine lv_iload_n S.1 S.2.1 dX1_count_23 rfl (lv_at hl 1 rfl) ?_
      refine o_callv oiM S hC (c_X1_learn l hn hr12 (fun q hq => hw q (by omega))) cw_RX1_X1_learn ⟨rfl, rfl, by decide, by decide⟩ rfl hl.1 rfl (Nat.le_of_ble_eq_true rfl) dX1_count_24 ⟨(Nat.le_of_ble_eq_true rfl), (Nat.le_of_ble_eq_true rfl)⟩ (fun S1 H locs hp hC1 => ?_)
      have e1 := hp
      rw [e1] at hC1; replace hC := hC1
      refine lv_aload_n S.1 S.2.1 dX1_count_27 rfl (lv_at hl 0 rfl) ?_
      refine lv_iload_n S.1 S.2.1 dX1_count_28 rfl (lv_at hl 1 rfl) ?_
      refine o_calli oiM S hC (c_X1_countOf l hn hr12) cw_RX1_X1_countOf ⟨rfl, rfl, by decide, by decide⟩ rfl hl.1 rfl (Nat.le_of_ble_eq_true rfl) dX1_count_29 ⟨(Nat.le_of_ble_eq_true rfl), (Nat.le_of_ble_eq_true rfl)⟩ (fun r29 S1 H locs hp hC1 => ?_)
      obtain ⟨e1, hp⟩ := hp
      rw [e1] at hC1; replace hC := hC1
      subst hp
      exact o_iret S hr hlocks hC ⟨by rw [if_pos c38, er], by rw [if_pos c38, er]⟩ rfl dX1_count_32 (Nat.le_of_ble_eq_true rfl) (Nat.le_of_ble_eq_true rfl)
    · have c38 : ¬ r1C R x = 0 := by simpa using c17
      refine lv_iconst (v := nI 0) S.1 S.2.1 dX1_count_20 rfl ?_
      exact o_iret S hr hlocks hC ⟨by rw [if_neg c38], by rw [if_neg c38]⟩ rfl dX1_count_21 (Nat.le_of_ble_eq_true rfl) (Nat.le_of_ble_eq_true rfl)
  refine lv_aload_n S.1 S.2.1 dX1_count_0 rfl (lv_at hl 0 rfl) ?_
  refine lv_aload_n S.1 S.2.1 dX1_count_1 rfl (lv_at hl 0 rfl) ?_
  refine lv_iload_n S.1 S.2.1 dX1_count_2 rfl (lv_at hl 1 rfl) ?_
  refine o_calli oiM S hC (c_X1_isRelation l hn hR hrel x) cw_RX1_X1_isRelation ⟨rfl, rfl, by decide, by decide⟩ rfl hl.1 rfl (Nat.le_of_ble_eq_true rfl) dX1_count_3 ⟨(Nat.le_of_ble_eq_true rfl), (Nat.le_of_ble_eq_true rfl)⟩ (fun r3 S1 H locs hp hC1 => ?_)
  obtain ⟨e1, hp⟩ := hp
  rw [e1] at hC1; replace hC := hC1
  subst hp
  refine b_if_eq (tgt := 13) S.1 S.2.1 dX1_count_6 (by decide) (fun c6 => ?_) (fun c6 => ?_)
  · skip
    refine lv_iconst (v := r1C R x) S.1 S.2.1 dX1_count_13 (by rw [show r1C R x = nI 1 by rw [r1C, if_neg (by rw [c6]; decide)]]; rfl) ?_
    exact tail14 _ _ _ hC (lv_sub hl [0, 1] rfl)
  · skip
    refine lv_iconst (v := r1C R x) S.1 S.2.1 dX1_count_9 (by rw [show r1C R x = nI 0 by rw [r1C, if_pos c6]]; rfl) ?_
    refine lv_goto (tgt := 14) S.1 S.2.1 dX1_count_10 (by decide) ?_
    exact tail14 _ _ _ hC (lv_sub hl [0, 1] rfl)
def msI (S : MS) (b : Nat) : Nat → MS
  | 0 => S
  | k + 1 => sA (msI S b k) 7 k (if k = b then nI 0 else -1)
def msX (r u t : Nat) : Nat → Nat → MS → MS
  | 0, _, P => P
  | k + 1, x, P => if P.2.1 7 t = -1 then msX r u t k (x + 1) (if pM P r t x = true ∧ P.2.1 7 x = nI (u - 1) then sA P 7 t (nI u) else P) else P
def msT (S : MS) (n r u : Nat) : Nat → MS
  | 0 => S
  | k + 1 => msX r u k n 0 (msT S n r u k)
def msU (S : MS) (n r : Nat) : Nat → MS
  | 0 => S
  | k + 1 => msT (msU S n r k) n r (k + 1) n
def measM (S : MS) (n r b : Nat) : MS := msU (msI (lrF S n (r + 1)) b n) n r (n - 1)
set_option maxRecDepth 100000 in
set_option maxHeartbeats 4000000 in
theorem c_X1_measure (l : Launch) {loc : Nat → Nat} {n : Nat} {g : Gc} (hn : n ≤ 40) {S0 : MS} {r b : Nat} (hr12 : r < 12) (hb : b < n) (hw : ∀ q, q ≤ r → ¬ S0.2.1 1 q < nI 10 → wfM S0 q) : MMv l yX1_measure cX1_measure 6 none (rmL 5 0 0) loc n g S0 [.int (nI r), .int (nI b)] (fun S' => S' = measM S0 n r b) := by
  refine o_enter (by decide) (Nat.le_of_ble_eq_true rfl) ?_
  intro p e s m below meth c ls S hr hlocks hC hl
  refine lv_aload_n S.1 S.2.1 dX1_measure_0 rfl (lv_at hl 0 rfl) ?_
  refine lv_iload_n S.1 S.2.1 dX1_measure_1 rfl (lv_at hl 1 rfl) ?_
  refine o_callv oiM S hC (c_X1_learn l hn hr12 hw) cw_RX1_X1_learn ⟨rfl, rfl, by decide, by decide⟩ rfl hl.1 rfl (Nat.le_of_ble_eq_true rfl) dX1_measure_2 ⟨(Nat.le_of_ble_eq_true rfl), (Nat.le_of_ble_eq_true rfl)⟩ (fun S1 H locs hp hC1 => ?_)
  have e1 := hp
  rw [e1] at hC1; replace hC := hC1
  clear hw
  refine lv_iconst (v := nI 0) S.1 S.2.1 dX1_measure_5 rfl ?_
  refine lv_istore_n S.1 S.2.1 dX1_measure_6 rfl hl (by decide) rfl (fun ls hl => ?_)
  have loopI : ∀ (k i : Nat), n - i < k → i ≤ n → ∀ (H : Heap) (locs : List Loc) (ls : Array Slot), CM loc n g (msI (lrF S0 n (r + 1)) b i) s H locs → lv_has ls 6 [(0, .ref (loc 0)), (1, .int (nI r)), (2, .int (nI b)), (3, .int (nI i))] → W p l e (rmL 5 0 0) s m ([.ref (loc 0), .int (nI r), .int (nI b)] : List Value).toArray below meth c H locs 0 0 (MQ below (va_Qv (fun S' => S' = measM S0 n r b) (fun S' t => HM loc n g S' t.heap) (ZA loc 10)) ([.ref (loc 0), .int (nI r), .int (nI b)] : List Value).toArray s (rmL 5 0 0).cells (rmL 5 0 0).slots (ZA loc 10)) (F0 m 7 ls []) := by
    intro k
    induction k with
    | zero => intro i hk; omega
    | succ k ihI =>
      intro i hkI hiI  H locs ls hC hl
      refine lv_iload_n S.1 S.2.1 dX1_measure_7 rfl (lv_at hl 3 rfl) ?_
      refine lv_aload_n S.1 S.2.1 dX1_measure_8 rfl (lv_at hl 0 rfl) ?_
      refine m_get_things S hC dX1_measure_9 ?_
      refine n_icmp_ge (tgt := 37) S.1 S.2.1 dX1_measure_12 (by decide) (by omega) (by omega) (fun c12 => ?_) (fun c12 => ?_)
      · skip
        refine lv_iconst (v := nI 1) S.1 S.2.1 dX1_measure_37 rfl ?_
        refine lv_istore_n S.1 S.2.1 dX1_measure_38 rfl hl (by decide) rfl (fun ls hl => ?_)
        have loopU : ∀ (k u : Nat), n - u < k → u ≤ n → ∀ (hu1 : 1 ≤ u), ∀ (H : Heap) (locs : List Loc) (ls : Array Slot), CM loc n g (msU (msI (lrF S0 n (r + 1)) b n) n r (u - 1)) s H locs → lv_has ls 6 [(0, .ref (loc 0)), (1, .int (nI r)), (2, .int (nI b)), (3, .int (nI u))] → W p l e (rmL 5 0 0) s m ([.ref (loc 0), .int (nI r), .int (nI b)] : List Value).toArray below meth c H locs 0 0 (MQ below (va_Qv (fun S' => S' = measM S0 n r b) (fun S' t => HM loc n g S' t.heap) (ZA loc 10)) ([.ref (loc 0), .int (nI r), .int (nI b)] : List Value).toArray s (rmL 5 0 0).cells (rmL 5 0 0).slots (ZA loc 10)) (F0 m 39 ls []) := by
          intro k
          induction k with
          | zero => intro u hk; omega
          | succ k ihU =>
            intro u hkU hiU hu1 H locs ls hC hl
            refine lv_iload_n S.1 S.2.1 dX1_measure_39 rfl (lv_at hl 3 rfl) ?_
            refine lv_aload_n S.1 S.2.1 dX1_measure_40 rfl (lv_at hl 0 rfl) ?_
            refine m_get_things S hC dX1_measure_41 ?_
            refine n_icmp_ge (tgt := 137) S.1 S.2.1 dX1_measure_44 (by decide) (by omega) (by omega) (fun c44 => ?_) (fun c44 => ?_)
            · skip
              exact o_vret S hr hlocks hC (by rw [measM, show n - 1 = u - 1 by omega]) dX1_measure_137 (Nat.le_of_ble_eq_true rfl) (Nat.le_of_ble_eq_true rfl)
            · skip
              refine lv_iconst (v := nI 0) S.1 S.2.1 dX1_measure_47 rfl ?_
              refine lv_istore S.1 S.2.1 dX1_measure_48 hl (by decide) rfl (fun ls hl => ?_)
              have loopT : ∀ (k t : Nat), n - t < k → t ≤ n → ∀ (H : Heap) (locs : List Loc) (ls : Array Slot), CM loc n g (msT (msU (msI (lrF S0 n (r + 1)) b n) n r (u - 1)) n r u t) s H locs → lv_has ls 6 [(0, .ref (loc 0)), (1, .int (nI r)), (2, .int (nI b)), (3, .int (nI u)), (4, .int (nI t))] → W p l e (rmL 5 0 0) s m ([.ref (loc 0), .int (nI r), .int (nI b)] : List Value).toArray below meth c H locs 0 0 (MQ below (va_Qv (fun S' => S' = measM S0 n r b) (fun S' t => HM loc n g S' t.heap) (ZA loc 10)) ([.ref (loc 0), .int (nI r), .int (nI b)] : List Value).toArray s (rmL 5 0 0).cells (rmL 5 0 0).slots (ZA loc 10)) (F0 m 50 ls []) := by
                intro k
                induction k with
                | zero => intro t hk; omega
                | succ k ihT =>
                  intro t hkT hiT  H locs ls hC hl
                  refine lv_iload S.1 S.2.1 dX1_measure_50 (lv_at hl 4 rfl) ?_
                  refine lv_aload_n S.1 S.2.1 dX1_measure_52 rfl (lv_at hl 0 rfl) ?_
                  refine m_get_things S hC dX1_measure_53 ?_
                  refine n_icmp_ge (tgt := 131) S.1 S.2.1 dX1_measure_56 (by decide) (by omega) (by omega) (fun c56 => ?_) (fun c56 => ?_)
                  · skip
                    refine lv_iinc (k := 3) S.1 S.2.1 dX1_measure_131 hl rfl (n_inc _) (by decide) rfl (fun ls hl => ?_)
                    refine lv_goto (tgt := 39) S.1 S.2.1 dX1_measure_134 (by decide) ?_
                    exact ihU (u + 1) (by omega) (by omega) (by omega) _ _ _ (by rw [show u + 1 - 1 = (u - 1) + 1 by omega, msU, show u - 1 + 1 = u by omega, show msT (msU (msI (lrF S0 n (r + 1)) b n) n r (u - 1)) n r u n = (msT (msU (msI (lrF S0 n (r + 1)) b n) n r (u - 1)) n r u t) by rw [show t = n by omega]]; exact hC) (lv_sub hl [1, 2, 3, 0] rfl)
                  · skip
                    refine lv_iconst (v := nI 0) S.1 S.2.1 dX1_measure_59 rfl ?_
                    refine lv_istore S.1 S.2.1 dX1_measure_60 hl (by decide) rfl (fun ls hl => ?_)
                    have loop : ∀ (k i : Nat), n - i < k → i ≤ n → ∀ (P : MS) (hT : msX r u t n 0 (msT (msU (msI (lrF S0 n (r + 1)) b n) n r (u - 1)) n r u t) = msX r u t (n - i) i P), ∀ (H : Heap) (locs : List Loc) (ls : Array Slot), CM loc n g (P) s H locs → lv_has ls 6 [(0, .ref (loc 0)), (1, .int (nI r)), (2, .int (nI b)), (3, .int (nI u)), (4, .int (nI t)), (5, .int (nI i))] → W p l e (rmL 5 0 0) s m ([.ref (loc 0), .int (nI r), .int (nI b)] : List Value).toArray below meth c H locs 0 0 (MQ below (va_Qv (fun S' => S' = measM S0 n r b) (fun S' t => HM loc n g S' t.heap) (ZA loc 10)) ([.ref (loc 0), .int (nI r), .int (nI b)] : List Value).toArray s (rmL 5 0 0).cells (rmL 5 0 0).slots (ZA loc 10)) (F0 m 62 ls []) := by
                      intro k
                      induction k with
                      | zero => intro i hk; omega
                      | succ k ih =>
                        intro i hk hi P hT H locs ls hC hl
                        refine lv_iload S.1 S.2.1 dX1_measure_62 (lv_at hl 5 rfl) ?_
                        refine lv_aload_n S.1 S.2.1 dX1_measure_64 rfl (lv_at hl 0 rfl) ?_
                        refine m_get_things S hC dX1_measure_65 ?_
                        refine n_icmp_ge (tgt := 125) S.1 S.2.1 dX1_measure_68 (by decide) (by omega) (by omega) (fun c68 => ?_) (fun c68 => ?_)
                        · skip
                          refine lv_iinc (k := 4) S.1 S.2.1 dX1_measure_125 hl rfl (n_inc _) (by decide) rfl (fun ls hl => ?_)
                          refine lv_goto (tgt := 50) S.1 S.2.1 dX1_measure_128 (by decide) ?_
                          exact ihT (t + 1) (by omega) (by omega) _ _ _ (by rw [show msT (msU (msI (lrF S0 n (r + 1)) b n) n r (u - 1)) n r u (t + 1) = P by rw [msT, hT, show n - i = 0 by omega, msX]]; exact hC) (lv_sub hl [1, 2, 3, 4, 0] rfl)
                        · skip
                          refine lv_aload_n S.1 S.2.1 dX1_measure_71 rfl (lv_at hl 0 rfl) ?_
                          refine m_get_steps S hC dX1_measure_72 ?_
                          refine lv_iload S.1 S.2.1 dX1_measure_75 (lv_at hl 4 rfl) ?_
                          refine m_ild S hC 7 (by decide) (show t < 40 by omega) dX1_measure_77 ?_
                          refine lv_iconst (v := -1) S.1 S.2.1 dX1_measure_78 rfl ?_
                          refine lv_icmp_ne (tgt := 125) S.1 S.2.1 dX1_measure_79 (by decide) (fun c79 => ?_) (fun c79 => ?_)
                          · skip
                            refine lv_iinc (k := 4) S.1 S.2.1 dX1_measure_125 hl rfl (n_inc _) (by decide) rfl (fun ls hl => ?_)
                            refine lv_goto (tgt := 50) S.1 S.2.1 dX1_measure_128 (by decide) ?_
                            exact ihT (t + 1) (by omega) (by omega) _ _ _ (by rw [show msT (msU (msI (lrF S0 n (r + 1)) b n) n r (u - 1)) n r u (t + 1) = P by rw [msT, hT, show n - i = (n - (i + 1)) + 1 by omega, msX, if_neg c79]]; exact hC) (lv_sub hl [1, 2, 3, 4, 0] rfl)
                          · skip
                            refine lv_aload_n S.1 S.2.1 dX1_measure_82 rfl (lv_at hl 0 rfl) ?_
                            refine m_get_pairs S hC dX1_measure_83 ?_
                            refine lv_iload_n S.1 S.2.1 dX1_measure_86 rfl (lv_at hl 1 rfl) ?_
                            refine lv_iload S.1 S.2.1 dX1_measure_87 (lv_at hl 4 rfl) ?_
                            refine lv_iload S.1 S.2.1 dX1_measure_89 (lv_at hl 5 rfl) ?_
                            refine s_calli S (c_X1_at l r t i) cw_RX1_X1_at ⟨rfl, rfl, by decide, by decide⟩ rfl hl.1 rfl (Nat.le_of_ble_eq_true rfl) dX1_measure_91 ⟨(Nat.le_of_ble_eq_true rfl), (Nat.le_of_ble_eq_true rfl)⟩ (fun r91 hp => ?_)
                            subst hp
                            refine m_zld S hC 0 (by decide) (ixP_lt hr12 (a := t) (b := i) (by omega) (by omega)) dX1_measure_94 ?_
                            refine b_if_eq (tgt := 119) S.1 S.2.1 dX1_measure_95 (by decide) (fun c95 => ?_) (fun c95 => ?_)
                            · skip
                              refine lv_iinc (k := 5) S.1 S.2.1 dX1_measure_119 hl rfl (n_inc _) (by decide) rfl (fun ls hl => ?_)
                              refine lv_goto (tgt := 62) S.1 S.2.1 dX1_measure_122 (by decide) ?_
                              exact ih (i + 1) (by omega) (by omega) _ (by rw [hT, show n - i = (n - (i + 1)) + 1 by omega, msX, if_pos c79, if_neg (by rw [show pM P r t i = false from c95]; simp)]) _ _ _ hC (lv_sub hl [1, 2, 3, 4, 5, 0] rfl)
                            · skip
                              refine lv_aload_n S.1 S.2.1 dX1_measure_98 rfl (lv_at hl 0 rfl) ?_
                              refine m_get_steps S hC dX1_measure_99 ?_
                              refine lv_iload S.1 S.2.1 dX1_measure_102 (lv_at hl 5 rfl) ?_
                              refine m_ild S hC 7 (by decide) (show i < 40 by omega) dX1_measure_104 ?_
                              refine lv_iload_n S.1 S.2.1 dX1_measure_105 rfl (lv_at hl 3 rfl) ?_
                              refine lv_iconst (v := nI 1) S.1 S.2.1 dX1_measure_106 rfl ?_
                              refine t_isub S.1 S.2.1 dX1_measure_107 (pk_sub (show 1 ≤ u by omega)) ?_
                              refine lv_icmp_ne (tgt := 119) S.1 S.2.1 dX1_measure_108 (by decide) (fun c108 => ?_) (fun c108 => ?_)
                              · skip
                                refine lv_iinc (k := 5) S.1 S.2.1 dX1_measure_119 hl rfl (n_inc _) (by decide) rfl (fun ls hl => ?_)
                                refine lv_goto (tgt := 62) S.1 S.2.1 dX1_measure_122 (by decide) ?_
                                exact ih (i + 1) (by omega) (by omega) _ (by rw [hT, show n - i = (n - (i + 1)) + 1 by omega, msX, if_pos c79, if_neg (fun q => c108 q.2)]) _ _ _ hC (lv_sub hl [1, 2, 3, 4, 5, 0] rfl)
                              · skip
                                refine lv_aload_n S.1 S.2.1 dX1_measure_111 rfl (lv_at hl 0 rfl) ?_
                                refine m_get_steps S hC dX1_measure_112 ?_
                                refine lv_iload S.1 S.2.1 dX1_measure_115 (lv_at hl 4 rfl) ?_
                                refine lv_iload_n S.1 S.2.1 dX1_measure_117 rfl (lv_at hl 3 rfl) ?_
                                refine m_ist S hC 7 (by decide) (show t < 40 by omega) dX1_measure_118 (fun H locs hC => ?_)
                                refine lv_iinc (k := 5) S.1 S.2.1 dX1_measure_119 hl rfl (n_inc _) (by decide) rfl (fun ls hl => ?_)
                                refine lv_goto (tgt := 62) S.1 S.2.1 dX1_measure_122 (by decide) ?_
                                exact ih (i + 1) (by omega) (by omega) _ (by rw [hT, show n - i = (n - (i + 1)) + 1 by omega, msX, if_pos c79, if_pos ⟨show pM P r t i = true from c95, c108⟩]) _ _ _ hC (lv_sub hl [1, 2, 3, 4, 5, 0] rfl)
                    exact loop (n + 1) 0 (by omega) (by omega) _ rfl _ _ _ hC (lv_sub hl [1, 2, 3, 4, 5, 0] rfl)
              exact loopT (n + 1) 0 (by omega) (by omega) _ _ _ hC (lv_sub hl [1, 2, 3, 4, 0] rfl)
        exact loopU (n + 1) 1 (by omega) (by omega) (Nat.le_refl 1) _ _ _ (by rw [show msI (lrF S0 n (r + 1)) b n = msI (lrF S0 n (r + 1)) b i by rw [show i = n by omega]]; exact hC) (lv_sub hl [1, 2, 3, 0] rfl)
      · skip
        refine lv_aload_n S.1 S.2.1 dX1_measure_15 rfl (lv_at hl 0 rfl) ?_
        refine m_get_steps S hC dX1_measure_16 ?_
        refine lv_iload_n S.1 S.2.1 dX1_measure_19 rfl (lv_at hl 3 rfl) ?_
        refine lv_iload_n S.1 S.2.1 dX1_measure_20 rfl (lv_at hl 3 rfl) ?_
        refine lv_iload_n S.1 S.2.1 dX1_measure_21 rfl (lv_at hl 2 rfl) ?_
        refine n_icmp_ne (tgt := 29) S.1 S.2.1 dX1_measure_22 (by decide) (by omega) (by omega) (fun c22 => ?_) (fun c22 => ?_)
        · skip
          refine lv_iconst (v := (if i = b then nI 0 else -1)) S.1 S.2.1 dX1_measure_29 (by rw [if_neg c22]; rfl) ?_
          refine m_ist S hC 7 (by decide) (show i < 40 by omega) dX1_measure_30 (fun H locs hC => ?_)
          refine lv_iinc (k := 3) S.1 S.2.1 dX1_measure_31 hl rfl (n_inc _) (by decide) rfl (fun ls hl => ?_)
          refine lv_goto (tgt := 7) S.1 S.2.1 dX1_measure_34 (by decide) ?_
          exact ihI (i + 1) (by omega) (by omega) _ _ _ hC (lv_sub hl [1, 2, 3, 0] rfl)
        · skip
          refine lv_iconst (v := (if i = b then nI 0 else -1)) S.1 S.2.1 dX1_measure_25 (by rw [if_pos c22]; rfl) ?_
          refine lv_goto (tgt := 30) S.1 S.2.1 dX1_measure_26 (by decide) ?_
          refine m_ist S hC 7 (by decide) (show i < 40 by omega) dX1_measure_30 (fun H locs hC => ?_)
          refine lv_iinc (k := 3) S.1 S.2.1 dX1_measure_31 hl rfl (n_inc _) (by decide) rfl (fun ls hl => ?_)
          refine lv_goto (tgt := 7) S.1 S.2.1 dX1_measure_34 (by decide) ?_
          exact ihI (i + 1) (by omega) (by omega) _ _ _ hC (lv_sub hl [1, 2, 3, 0] rfl)
  exact loopI (n + 1) 0 (by omega) (by omega) _ _ _ hC (lv_sub hl [1, 2, 3, 0] rfl)
set_option maxRecDepth 100000 in
set_option maxHeartbeats 4000000 in
theorem c_X1_length (l : Launch) {loc : Nat → Nat} {n : Nat} {g : Gc} (hn : n ≤ 40) {S0 : MS} {R : Nat} (hR : R ≤ 12) (hrel : S0.1 1 = nI R) (hw : ∀ q, q < R → ¬ S0.2.1 1 q < nI 10 → wfM S0 q) (x a b : Int32) : MMi l yX1_length cX1_length 4 (some .int) (rmL 7 0 0) loc n g S0 [.int x, .int a, .int b] (fun v S' => S' = (if tC n R x a b = 0 then measM (sI S0 0 (tC n R x a b)) n (ixN x) (ixN b) else sI S0 0 (tC n R x a b)) ∧ v = (if tC n R x a b = 0 then S'.2.1 7 (ixN a) else nI 0)) := by
  refine o_enter (by decide) (Nat.le_of_ble_eq_true rfl) ?_
  intro p e s m below meth c ls S hr hlocks hC hl
  have tail30 : ∀ (H : Heap) (locs : List Loc) (ls : Array Slot), CM loc n g (S0) s H locs → lv_has ls 4 [(0, .ref (loc 0)), (1, .int x), (2, .int a), (3, .int b)] → W p l e (rmL 7 0 0) s m ([.ref (loc 0), .int x, .int a, .int b] : List Value).toArray below meth c H locs 0 0 (MQ below (va_Qi (fun v S' => S' = (if tC n R x a b = 0 then measM (sI S0 0 (tC n R x a b)) n (ixN x) (ixN b) else sI S0 0 (tC n R x a b)) ∧ v = (if tC n R x a b = 0 then S'.2.1 7 (ixN a) else nI 0)) (fun S' t => HM loc n g S' t.heap) (ZA loc 10)) ([.ref (loc 0), .int x, .int a, .int b] : List Value).toArray s (rmL 7 0 0).cells (rmL 7 0 0).slots (ZA loc 10)) (F0 m 30 ls [.int (tC n R x a b), .ref (loc 0)]) := by
    intro  H locs ls hC hl
    refine o_calli oiM S hC (c_X1_isGood l hn _) cw_RX1_X1_isGood ⟨rfl, rfl, by decide, by decide⟩ rfl hl.1 rfl (Nat.le_of_ble_eq_true rfl) dX1_length_30 ⟨(Nat.le_of_ble_eq_true rfl), (Nat.le_of_ble_eq_true rfl)⟩ (fun r30 S1 H locs hp hC1 => ?_)
    obtain ⟨e1, hp⟩ := hp
    rw [e1] at hC1; replace hC := hC1
    subst hp
    refine b_if_ne (tgt := 38) S.1 S.2.1 dX1_length_33 (by decide) (fun c33 => ?_) (fun c33 => ?_)
    · have c38 : tC n R x a b = 0 := by simpa using c33
      obtain ⟨h9, h10, h11⟩ := tC_0 c38
      obtain ⟨r, hrR, e0x⟩ := inI_t (by omega) h9
      obtain ⟨a', ha, e0a⟩ := inI_t (by omega) h10
      obtain ⟨b', hb, e0b⟩ := inI_t (by omega) h11
      have er : ixN x = r := by rw [e0x]; exact ixN_nI (by omega)
      have ea : ixN a = a' := by rw [e0a]; exact ixN_nI (by omega)
      have eb : ixN b = b' := by rw [e0b]; exact ixN_nI (by omega)
      have hr12 : r < 12 := by omega
      rw [e0x, e0a, e0b] at hl
      refine lv_aload_n S.1 S.2.1 dX1_length_38 rfl (lv_at hl 0 rfl) ?_
      refine lv_iload_n S.1 S.2.1 dX1_length_39 rfl (lv_at hl 1 rfl) ?_
      refine lv_iload_n S.1 S.2.1 dX1_length_40 rfl (lv_at hl 3 rfl) ?_
      refine o_callv oiM S hC (c_X1_measure l hn hr12 hb (fun q hq => hw q (by omega))) cw_RX1_X1_measure ⟨rfl, rfl, by decide, by decide⟩ rfl hl.1 rfl (Nat.le_of_ble_eq_true rfl) dX1_length_41 ⟨(Nat.le_of_ble_eq_true rfl), (Nat.le_of_ble_eq_true rfl)⟩ (fun S1 H locs hp hC1 => ?_)
      have e1 := hp
      rw [e1] at hC1; replace hC := hC1
      refine lv_aload_n S.1 S.2.1 dX1_length_44 rfl (lv_at hl 0 rfl) ?_
      refine m_get_steps S hC dX1_length_45 ?_
      refine lv_iload_n S.1 S.2.1 dX1_length_48 rfl (lv_at hl 2 rfl) ?_
      refine m_ild S hC 7 (by decide) (show a' < 40 by omega) dX1_length_49 ?_
      exact o_iret S hr hlocks hC ⟨by rw [if_pos c38, er, eb], by rw [if_pos c38, ea]⟩ rfl dX1_length_50 (Nat.le_of_ble_eq_true rfl) (Nat.le_of_ble_eq_true rfl)
    · have c38 : ¬ tC n R x a b = 0 := by simpa using c33
      refine lv_iconst (v := nI 0) S.1 S.2.1 dX1_length_36 rfl ?_
      exact o_iret S hr hlocks hC ⟨by rw [if_neg c38], by rw [if_neg c38]⟩ rfl dX1_length_37 (Nat.le_of_ble_eq_true rfl) (Nat.le_of_ble_eq_true rfl)
  refine lv_aload_n S.1 S.2.1 dX1_length_0 rfl (lv_at hl 0 rfl) ?_
  refine lv_aload_n S.1 S.2.1 dX1_length_1 rfl (lv_at hl 0 rfl) ?_
  refine lv_iload_n S.1 S.2.1 dX1_length_2 rfl (lv_at hl 1 rfl) ?_
  refine o_calli oiM S hC (c_X1_isRelation l hn hR hrel x) cw_RX1_X1_isRelation ⟨rfl, rfl, by decide, by decide⟩ rfl hl.1 rfl (Nat.le_of_ble_eq_true rfl) dX1_length_3 ⟨(Nat.le_of_ble_eq_true rfl), (Nat.le_of_ble_eq_true rfl)⟩ (fun r3 S1 H locs hp hC1 => ?_)
  obtain ⟨e1, hp⟩ := hp
  rw [e1] at hC1; replace hC := hC1
  subst hp
  refine b_if_eq (tgt := 25) S.1 S.2.1 dX1_length_6 (by decide) (fun c6 => ?_) (fun c6 => ?_)
  · skip
    refine lv_iconst (v := tC n R x a b) S.1 S.2.1 dX1_length_25 (by rw [show tC n R x a b = nI 1 by rw [tC, if_pos (Or.inl c6)]]; rfl) ?_
    refine lv_goto (tgt := 30) S.1 S.2.1 dX1_length_26 (by decide) ?_
    exact tail30 _ _ _ hC (lv_sub hl [0, 1, 2, 3] rfl)
  · skip
    refine lv_aload_n S.1 S.2.1 dX1_length_9 rfl (lv_at hl 0 rfl) ?_
    refine lv_iload_n S.1 S.2.1 dX1_length_10 rfl (lv_at hl 2 rfl) ?_
    refine o_calli oiM S hC (c_X1_isThing l hn a) cw_RX1_X1_isThing ⟨rfl, rfl, by decide, by decide⟩ rfl hl.1 rfl (Nat.le_of_ble_eq_true rfl) dX1_length_11 ⟨(Nat.le_of_ble_eq_true rfl), (Nat.le_of_ble_eq_true rfl)⟩ (fun r11 S1 H locs hp hC1 => ?_)
    obtain ⟨e1, hp⟩ := hp
    rw [e1] at hC1; replace hC := hC1
    subst hp
    refine b_if_eq (tgt := 25) S.1 S.2.1 dX1_length_14 (by decide) (fun c14 => ?_) (fun c14 => ?_)
    · skip
      refine lv_iconst (v := tC n R x a b) S.1 S.2.1 dX1_length_25 (by rw [show tC n R x a b = nI 1 by rw [tC, if_pos (Or.inr (Or.inl c14))]]; rfl) ?_
      refine lv_goto (tgt := 30) S.1 S.2.1 dX1_length_26 (by decide) ?_
      exact tail30 _ _ _ hC (lv_sub hl [0, 1, 2, 3] rfl)
    · skip
      refine lv_aload_n S.1 S.2.1 dX1_length_17 rfl (lv_at hl 0 rfl) ?_
      refine lv_iload_n S.1 S.2.1 dX1_length_18 rfl (lv_at hl 3 rfl) ?_
      refine o_calli oiM S hC (c_X1_isThing l hn b) cw_RX1_X1_isThing ⟨rfl, rfl, by decide, by decide⟩ rfl hl.1 rfl (Nat.le_of_ble_eq_true rfl) dX1_length_19 ⟨(Nat.le_of_ble_eq_true rfl), (Nat.le_of_ble_eq_true rfl)⟩ (fun r19 S1 H locs hp hC1 => ?_)
      obtain ⟨e1, hp⟩ := hp
      rw [e1] at hC1; replace hC := hC1
      subst hp
      refine b_if_ne (tgt := 29) S.1 S.2.1 dX1_length_22 (by decide) (fun c22 => ?_) (fun c22 => ?_)
      · skip
        refine lv_iconst (v := tC n R x a b) S.1 S.2.1 dX1_length_29 (by rw [show tC n R x a b = nI 0 by rw [tC, if_neg (by rw [c6, c14, c22]; simp)]]; rfl) ?_
        exact tail30 _ _ _ hC (lv_sub hl [0, 1, 2, 3] rfl)
      · skip
        refine lv_iconst (v := tC n R x a b) S.1 S.2.1 dX1_length_25 (by rw [show tC n R x a b = nI 1 by rw [tC, if_pos (Or.inr (Or.inr c22))]]; rfl) ?_
        refine lv_goto (tgt := 30) S.1 S.2.1 dX1_length_26 (by decide) ?_
        exact tail30 _ _ _ hC (lv_sub hl [0, 1, 2, 3] rfl)
