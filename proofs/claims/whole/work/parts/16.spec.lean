theorem n_min {a b : Nat} (ha : a < 2 ^ 31) (hb : b < 2 ^ 31) : (if nI b < nI a then nI b else nI a) = nI (min a b) := by
  by_cases h : b < a
  · rw [if_pos ((nI_ltI hb ha).mpr h), Nat.min_eq_right (by omega)]
  · rw [if_neg (fun q => h ((nI_ltI hb ha).mp q)), Nat.min_eq_left (by omega)]
theorem n_max {a b : Nat} (ha : a < 2 ^ 31) (hb : b < 2 ^ 31) : (if nI a < nI b then nI b else nI a) = nI (max a b) := by
  by_cases h : a < b
  · rw [if_pos ((nI_ltI ha hb).mpr h), Nat.max_eq_right (by omega)]
  · rw [if_neg (fun q => h ((nI_ltI ha hb).mp q)), Nat.max_eq_left (by omega)]
section SP
variable {p : Program} {l : Launch} {e : Env} {R : Room} {s : State} {m : MethodId} {args : Array Value} {below : List Frame} {meth : Method} {c : Code} {H : Heap} {locs : List Loc} {cells slots : Nat} {Q : State → Prop}
variable {cc : ByteArray} {pc nL : Nat} {ls : Array Slot} {rest : List Value} {loc : Nat → Nat} {n : Nat} {g : Gc} {S0 : RS}
theorem x_min (S : CallFix p m c cc nL s args WA RX0) (hl : ls.size = nL) {a b : Nat} (ha : a < 2 ^ 31) (hb : b < 2 ^ 31) (hR : 1 ≤ R.frames ∧ (rest.map fun v => v.category).sum + 13 ≤ R.locals ∧ cells ≤ R.cells ∧ slots ≤ R.slots) (hdg : decode cc pc = .ok (.invokestatic 9, 3))
    (kk : W p l e R s m args below meth c H locs cells slots Q (F0 m (pc + 3) ls (.int (nI (min a b)) :: rest))) : W p l e R s m args below meth c H locs cells slots Q (F0 m pc ls (.int (nI b) :: .int (nI a) :: rest)) := by
  refine va_mmin S.1 S.2.1 (S.2.2.1.trans hl.symm) S.2.2.2.1 (S.2.2.2.2 _ w_4) (S.2.2.2.2 _ w_5) (S.2.2.2.2 _ w_6) (S.2.2.2.2 _ w_7) hR.1 hR.2.1 hR.2.2.1 hR.2.2.2 hdg ?_
  rw [n_min ha hb]
  exact kk
theorem x_max (S : CallFix p m c cc nL s args WA RX0) (hl : ls.size = nL) {a b : Nat} (ha : a < 2 ^ 31) (hb : b < 2 ^ 31) (hR : 1 ≤ R.frames ∧ (rest.map fun v => v.category).sum + 13 ≤ R.locals ∧ cells ≤ R.cells ∧ slots ≤ R.slots) (hdg : decode cc pc = .ok (.invokestatic 15, 3))
    (kk : W p l e R s m args below meth c H locs cells slots Q (F0 m (pc + 3) ls (.int (nI (max a b)) :: rest))) : W p l e R s m args below meth c H locs cells slots Q (F0 m pc ls (.int (nI b) :: .int (nI a) :: rest)) := by
  refine va_mmax S.1 S.2.1 (S.2.2.1.trans hl.symm) S.2.2.2.1 (S.2.2.2.2 _ w_8) (S.2.2.2.2 _ w_9) (S.2.2.2.2 _ w_6) (S.2.2.2.2 _ w_10) hR.1 hR.2.1 hR.2.2.1 hR.2.2.2 hdg ?_
  rw [n_max ha hb]
  exact kk
def cpF (S : RS) (r j : Nat) : RS := (S.1, S.2.1, fun q a => if q = r then S.2.2 j a else S.2.2 q a)
theorem x_rowc (h : HX loc n g S0 H) {r : Nat} (hr : r < 12) : H[loc (10 + r)]? = some (vp_cell (g.2 3) (n, .inr (.inl (S0.2.2 r)))) := by
  have := h.2 (9 + r) (by omega)
  rw [show 9 + r + 1 = 10 + r by omega, show clX0 g (9 + r) = g.2 3 by unfold clX0; rw [if_neg (by omega), if_neg (by omega)], show lnX0 n (9 + r) = n by rw [Nat.add_comm]; rfl] at this
  rw [this]
  show some (arrV (g.2 3) n (cX0 loc S0.2.1 S0.2.2 (9 + r))) = some (arrV (g.2 3) n (fun j => .long (S0.2.2 r j)))
  refine congrArg some (congrArg (arrV _ _) (funext fun b => ?_))
  unfold cX0
  rw [if_neg (by omega), if_neg (by omega), show 9 + r - 9 = r by omega]
theorem x_copy (S : CallFix p m c cc nL s args WA RX0) (hC : CX loc n g S0 s H locs) (hn : n ≤ 40) {j r : Nat} (hj : j < 12) (hr : r < 12) (hl : ls.size = nL) (hR : 1 ≤ R.frames ∧ (rest.map fun v => v.category).sum + (nativeFrameWords "java/lang/System" "arraycopy" 5 + 11) ≤ R.locals) (hdg : decode cc pc = .ok (.invokestatic 247, 3))
    (kk : ∀ (H1 : Heap) (locs1 : List Loc), CX loc n g (cpF S0 r j) s H1 locs1 → W p l e R s m args below meth c H1 locs1 cells slots Q (F0 m (pc + 3) ls rest)) : W p l e R s m args below meth c H locs cells slots Q (F0 m pc ls (.int (nI n) :: .int (nI 0) :: .ref (loc (10 + r)) :: .int (nI 0) :: .ref (loc (10 + j)) :: rest)) := by
  intro T hT X
  obtain ⟨hE, hH, hS⟩ := hC
  have hc0 := x_rowc hH hj
  have hc1 := x_rowc hH hr
  have hA := hE.1.2.2.2.1
  obtain ⟨-, k0, hk0, cm0, hkk0⟩ := hA n (fun b => .long (S0.2.2 j b))
  obtain ⟨-, k1, hk1, cm1, hkk1⟩ := hA n (fun b => .long (S0.2.2 r b))
  have hN : (nI n).toInt = (n : Int) := nI_toInt (by omega)
  have hz : (nI 0).toInt = 0 := by decide
  obtain ⟨vm', X', step⟩ := X.arraycopy S.1 S.2.2.2.1 (S.2.2.2.2 _ w_150) (S.2.2.2.2 _ w_151) (S.2.2.2.2 _ w_152) (S.2.2.2.2 _ w_153) (src := loc (10 + j)) (dst := loc (10 + r)) (cs := vp_cell (g.2 3) (n, .inr (.inl (S0.2.2 j)))) (cd := vp_cell (g.2 3) (n, .inr (.inl (S0.2.2 r)))) (srcPos := nI 0) (destPos := nI 0) (n := nI n) (by rw [hT]; exact hc0) (by rw [hT]; exact hc1)
    (fun _ h => by cases h) (fun _ h => by cases h) (fun h => by cases h) (fun h => by cases h) hk0 hk1 hkk0 hkk1 rfl (by decide) (by decide) (nI_pos (by omega))
    (by rw [hz, hN]; show ¬ _ > ((arrV _ n _).slots.size : Int); rw [arrV_size]; omega)
    (by rw [hz, hN]; show ¬ _ > ((arrV _ n _).slots.size : Int); rw [arrV_size]; omega)
    (fun vm₁ _ i hi => by
      rw [nI_clamp (by omega)] at hi
      have e : (vp_cell (g.2 3) (n, .inr (.inl (S0.2.2 j)))).slots.getD ((nI 0).toNatClampNeg + i) .null = .long (S0.2.2 j i) := by
        show (arrV (g.2 3) n (fun b => .long (S0.2.2 j b))).slots.getD _ _ = _
        rw [Array.getD_eq_getD_getElem?, arrV_read _ _ (by simpa [nI_clamp] using hi)]
        simp [nI_clamp]
      exact ⟨by rw [e]; rfl, by rw [e]; exact trivial⟩)
    (g := F0 m pc ls (.int (nI n) :: .int (nI 0) :: .ref (loc (10 + r)) :: .int (nI 0) :: .ref (loc (10 + j)) :: rest)) rfl (by rw [S.2.2.1]; exact hl) (rest := rest) rfl (by rw [S.2.1]; exact hdg) hR.1 (by show 2 * 0 + _ + _ ≤ _; have := hR.2; omega)
  have ec : copied (vp_cell (g.2 3) (n, .inr (.inl (S0.2.2 j)))) (vp_cell (g.2 3) (n, .inr (.inl (S0.2.2 r)))) (nI 0) (nI 0) (nI n) = vp_cell (g.2 3) (n, .inr (.inl (va_cpy (S0.2.2 j) (S0.2.2 r) (nI 0).toNatClampNeg (nI 0).toNatClampNeg (nI n).toNatClampNeg))) := va_copied (fun z => .long z) (g.2 3) (g.2 3) (S0.2.2 j) (S0.2.2 r) (by rw [nI_clamp (by omega), nI_clamp (by omega)]; omega)
  rw [ec] at X' step
  have hlt : loc (10 + r) < H.size := (Array.getElem?_eq_some_iff.mp hc1).1
  generalize hcell : vp_cell (g.2 3) (n, .inr (.inl (va_cpy (S0.2.2 j) (S0.2.2 r) (nI 0).toNatClampNeg (nI 0).toNatClampNeg (nI n).toNatClampNeg))) = cell at X' step
  have oq : ∀ q : Nat, q ≠ loc (10 + r) → (H.setIfInBounds (loc (10 + r)) cell)[q]? = H[q]? := fun q hq => by simp [Array.getElem?_setIfInBounds, Ne.symm hq]
  have hself : (H.setIfInBounds (loc (10 + r)) cell)[loc (10 + r)]? = some cell := by simp [Array.getElem?_setIfInBounds, hlt]
  have hZ : ∀ k, k < 21 → (H.setIfInBounds (loc (10 + r)) cell)[loc (k + 1)]? = some (arrV (clX0 g k) (lnX0 n k) (cX0 loc (cpF S0 r j).2.1 (cpF S0 r j).2.2 k)) := by
    intro k hk
    by_cases hkr : k = 9 + r
    · subst hkr
      rw [show 9 + r + 1 = 10 + r by omega, hself, ← hcell, show clX0 g (9 + r) = g.2 3 by unfold clX0; rw [if_neg (by omega), if_neg (by omega)], show lnX0 n (9 + r) = n by rw [Nat.add_comm]; rfl]
      show some (arrV (g.2 3) n (fun b => .long (va_cpy (S0.2.2 j) (S0.2.2 r) (nI 0).toNatClampNeg (nI 0).toNatClampNeg (nI n).toNatClampNeg b))) = _
      refine congrArg some (arrV_congr _ fun b hb => ?_)
      have e0 : (nI 0).toNatClampNeg = 0 := by decide
      rw [e0, nI_clamp (by omega), pk_cpy_in (by omega) (by omega)]
      simp only [cX0, cpF]
      rw [if_neg (by omega), if_neg (by omega), if_pos (by omega)]
      simp
    · rw [oq _ (fun e => hkr (by have := hE.2.2 (k + 1) (10 + r) (by omega) (by omega) e; omega)), hH.2 k hk]
      refine congrArg some (arrV_congr _ fun b hb => ?_)
      simp only [cX0, cpF]
      by_cases h8 : k < 8
      · rw [if_pos h8, if_pos h8]
      · rw [if_neg h8, if_neg h8]
        by_cases h9 : k = 8
        · rw [if_pos h9, if_pos h9]
        · rw [if_neg h9, if_neg h9, if_neg (by omega)]
  obtain ⟨t, a1, b1⟩ := kk (H.setIfInBounds (loc (10 + r)) cell) _ ⟨hE, ⟨hH.1.kept (oq _ fun e => absurd (hE.2.2 0 (10 + r) (by omega) (by omega) e) (by omega)), hZ⟩, ⟨by simp; exact hS.1, fun q g1 g2 => by
      rw [oq q (fun e => g2 (by rw [e]; exact ⟨10 + r, by omega, rfl⟩))]
      exact hS.2.1 q g1 g2, fun q hq => by
      rcases List.mem_append.mp hq with h | h
      · exact hS.2.2 q h
      · obtain ⟨z, -, hz⟩ := List.mem_map.mp h
        rw [← hz]
        exact ⟨10 + r, by omega, rfl⟩⟩⟩ _ (by rw [← hT]; rfl) X'
  exact ⟨t, step t a1, b1⟩
/-- Arrays.fill over one array of ints -/
def HF (a : Nat) (cI : ClassId) (N : Nat) (f : Nat → Int32) (H : Heap) : Prop := H[a]? = some (arrV cI N (fun j => .int (f j)))
def EF (cI : ClassId) (s : State) (_ : Heap) : Prop := ArrOfT s cI .int
def filF (f : Nat → Int32) (v : Int32) (k : Nat) : Nat → Int32 := fun j => if j < k then v else f j
end SP
set_option maxRecDepth 100000 in
set_option maxHeartbeats 4000000 in
theorem c_fill (l : Launch) {a N : Nat} {cI : ClassId} (hN : N < 2 ^ 31) {f : Nat → Int32} (v : Int32) : Met l yJ7_fill_53178 (wsM yJ7_fill_53178 cJ7_fill_53178 4 none) (rmL 1 0 0) (PcO (HF a cI N) (EF cI) f [.ref a, .int v]) (va_Qv (fun f' => f' = filF f v N) (fun f' t => HF a cI N f' t.heap) (fun q => q = a)) 0 0 (fun q => q = a) := by
  refine o_enter (by decide) (Nat.le_of_ble_eq_true rfl) ?_
  intro p e s m below meth c ls S hr hlocks hC hl
  refine lv_iconst (v := nI 0) S.1 S.2.1 dJ7_fill_53178_0 rfl ?_
  refine lv_istore_n S.1 S.2.1 dJ7_fill_53178_1 rfl hl (by decide) rfl (fun ls hl => ?_)
  refine lv_aload_n S.1 S.2.1 dJ7_fill_53178_2 rfl (lv_at hl 1 rfl) ?_
  refine W.alen (n := nI N) S.1 S.2.1 hC.2.1 (hC.1 _ _) (by rw [arrV_size]; rfl) rfl rfl dJ7_fill_53178_3 ?_
  refine lv_istore_n S.1 S.2.1 dJ7_fill_53178_4 rfl hl (by decide) rfl (fun ls hl => ?_)
  have loop : ∀ (k i : Nat), N - i < k → i ≤ N → ∀ (H : Heap) (locs : List Loc) (ls : Array Slot), Cn (fun q => q = a) (HF a cI N) (EF cI) (filF f v i) s H locs → lv_has ls 4 [(0, .ref a), (1, .int v), (2, .int (nI i)), (3, .int (nI N))] → W p l e (rmL 1 0 0) s m ([.ref a, .int v] : List Value).toArray below meth c H locs 0 0 (MQ below (va_Qv (fun f' => f' = filF f v N) (fun f' t => HF a cI N f' t.heap) (fun q => q = a)) ([.ref a, .int v] : List Value).toArray s 0 0 (fun q => q = a)) (F0 m 5 ls []) := by
    intro k
    induction k with
    | zero => intro i hk; omega
    | succ k ih =>
      intro i hk hi H locs ls hC hl
      refine lv_iload_n S.1 S.2.1 dJ7_fill_53178_5 rfl (lv_at hl 2 rfl) ?_
      refine lv_iload_n S.1 S.2.1 dJ7_fill_53178_6 rfl (lv_at hl 3 rfl) ?_
      refine n_icmp_ge (tgt := 20) S.1 S.2.1 dJ7_fill_53178_7 (by decide) (by omega) (by omega) (fun c7 => ?_) (fun c7 => ?_)
      · exact o_vret S hr hlocks hC (by rw [show N = i by omega]) dJ7_fill_53178_20 (Nat.le_of_ble_eq_true rfl) (Nat.le_of_ble_eq_true rfl)
      · refine lv_aload_n S.1 S.2.1 dJ7_fill_53178_10 rfl (lv_at hl 0 rfl) ?_
        refine lv_iload_n S.1 S.2.1 dJ7_fill_53178_11 rfl (lv_at hl 2 rfl) ?_
        refine lv_iload_n S.1 S.2.1 dJ7_fill_53178_12 rfl (lv_at hl 1 rfl) ?_
        refine W.iast S.1 S.2.1 hC.2.1 (hC.1 _ _) (fun q => by cases q) (z_in (i := 0) c7 hN) rfl rfl dJ7_fill_53178_13 fun H1 e1 z oq => ?_
        refine W.eq (g2 := F0 m 14 ls []) rfl ?_
        refine lv_iinc (k := 2) S.1 S.2.1 dJ7_fill_53178_14 hl rfl (n_inc _) (by decide) rfl (fun ls hl => ?_)
        refine lv_goto (tgt := 5) S.1 S.2.1 dJ7_fill_53178_17 (by decide) ?_
        refine ih (i + 1) (by omega) (by omega) _ _ _ ⟨hC.1, ?_, hC.2.2.put z oq rfl⟩ (lv_sub hl [1, 2, 0, 3] rfl)
        show H1[a]? = _
        rw [e1, nI_clamp (by omega), arrV_store]
        refine congrArg some (congrArg (arrV _ _) (funext fun b => ?_))
        by_cases hb : b = i
        · simp [updV, filF, hb]
        · by_cases hb2 : b < i
          · simp [updV, filF, hb, hb2, Nat.lt_succ_of_lt hb2]
          · simp [updV, filF, hb, hb2, show ¬ b < i + 1 by omega]
  exact loop (N + 1) 0 (by omega) (by omega) _ _ _ ⟨hC.1, by have := hC.2.1; exact this, hC.2.2⟩ (lv_sub hl [2, 3, 1, 0] rfl)
section SQ
variable {p : Program} {l : Launch} {e : Env} {R : Room} {s : State} {m : MethodId} {args : Array Value} {below : List Frame} {meth : Method} {c : Code} {H : Heap} {locs : List Loc} {cells slots : Nat} {Q : State → Prop}
variable {cc : ByteArray} {pc nL : Nat} {ls : Array Slot} {rest : List Value} {loc : Nat → Nat} {n : Nat} {g : Gc} {S0 : RS}
/-- the int array k holds v everywhere -/
def fillF (S : RS) (k : Nat) (v : Int32) : RS := (S.1, (fun q j => if q = k then v else S.2.1 q j), S.2.2)
theorem x_fill (S : CallFix p m c cc nL s args WA RX0) (hC : CX loc n g S0 s H locs) (hn : n ≤ 40) (k : Nat) (hk : k < 8) {v : Int32} (hl : ls.size = nL) (hW : (rest.map fun v => v.category).sum ≤ 8) (hR : 2 ≤ R.frames ∧ 63 ≤ R.locals ∧ cells ≤ R.cells ∧ slots ≤ R.slots) (hdg : decode cc pc = .ok (.invokestatic 65, 3))
    (kk : ∀ (H1 : Heap) (locs1 : List Loc), CX loc n g (fillF S0 k v) s H1 locs1 → W p l e R s m args below meth c H1 locs1 cells slots Q (F0 m (pc + 3) ls rest)) : W p l e R s m args below meth c H locs cells slots Q (F0 m pc ls (.int v :: .ref (loc (k + 1)) :: rest)) := by
  obtain ⟨hE, hH, hS⟩ := hC
  have hcell : HF (loc (k + 1)) (g.2 1) (lnX0 n k) (S0.2.1 k) H := by
    have := hH.2 k (by omega)
    rw [x_clI hk] at this
    rw [HF, this]
    exact congrArg some (congrArg (arrV _ _) (funext fun b => if_pos hk))
  refine va_callv (va_runS (As := [.ref (loc (k + 1)), .int v]) (rest := rest) S (c_fill l (a := loc (k + 1)) (cI := g.2 1) (lnX0_lt hn k) (f := S0.2.1 k) v) (va_cwS 2 S.2.2.2.2 (sw_good cw_RX0_J7_fill_53178) rfl rfl rfl cw_RX0_J7_fill_53178.2 ⟨hR.1, hR.2.1⟩) ⟨fun a U gg mk q => ⟨q.1, q.2.1, arrOfT_moved (Vm.Alike.refl U.vm) q.2.2⟩, fun U hU hW => ⟨rfl, by rw [hU]; exact hcell, arrOfT_moved hW.alike hE.1.2.1⟩⟩ rfl rfl hl rfl (lv_room hW) hdg ⟨hR.2.2.1, hR.2.2.2⟩) hS (fun q _ h => by rw [h]; exact ⟨k + 1, by omega, rfl⟩) (fun q h => by rw [h]; exact ⟨k + 1, by omega, rfl⟩) (fun u t H1 locs1 ht hvm hp hB hz hk1 hS1 => ?_)
  rw [Nat.add_zero, Nat.add_zero]
  have hlt : ∀ i, i < 22 → loc i < H.size := fun i hi => by
    rcases Nat.eq_zero_or_pos i with h0 | h0
    · subst h0
      obtain ⟨cell, q1, -⟩ := hH.1
      exact (Array.getElem?_eq_some_iff.mp q1).1
    · have q1 := hH.2 (i - 1) (by omega)
      rw [show i - 1 + 1 = i by omega] at q1
      exact (Array.getElem?_eq_some_iff.mp q1).1
  refine kk H1 locs1 ⟨hE, ⟨hH.1.kept (hk1 _ (hlt 0 (by omega)) (fun e => absurd (hE.2.2 0 (k + 1) (by omega) (by omega) e) (by omega))), fun i hi => ?_⟩, hS1⟩
  by_cases hik : i = k
  · subst hik
    have hB : HF (loc (i + 1)) (g.2 1) (lnX0 n i) u t.heap := hB
    rw [HF, ht] at hB
    rw [hB, hp, x_clI hk]
    refine congrArg some (arrV_congr _ fun b hb => ?_)
    simp [filF, hb, cX0, fillF, hk]
  · rw [hk1 _ (hlt (i + 1) (by omega)) (fun e => hik (by have := hE.2.2 (i + 1) (k + 1) (by omega) (by omega) e; omega)), hH.2 i hi]
    refine congrArg some (congrArg (arrV _ _) (funext fun b => ?_))
    simp [cX0, fillF, hik]
end SQ
