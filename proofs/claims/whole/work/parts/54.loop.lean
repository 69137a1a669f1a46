def R_law : String := "RelationRowsLaw"
def lw_P (b : Addr) (xs : List Int32) (args : Array Value) (s : State) : Prop := args = #[.ref b] ∧ s.IntsAt b xs ∧ xs.length ≤ 2561 ∧ (Jvm.Cond.and given_1 narrow_1).before args s = true
def lw_Q (_ : Array Value) (s : State) (o : Outcome) (t : State) : Prop := o = .returned (some (.int 1)) ∧ Framed s o t [] 603072 7218912
def lw_Z (below : List Frame) (a : Array Value) (s : State) : State → Prop := fun t => ∃ o, t.status = .running ∧ Ended t below o ∧ lw_Q a s o t
/-- the law's own end, with 1 on the stack, nothing written that was there before, its room as the claim has it -/
theorem lw_ret {p : Program} {l : Launch} {e : Env} {s : State} {m : MethodId} {below : List Frame} {meth : Method} {c : Code} {b : Nat} (hx : p.tables.exec = Jvm.exec) (hb : c.code = code) (hr : meth.sig.returnType = ret) (hlocks : meth.locks = false) {pc : Nat} {H : Heap} {ls : Array Slot} (hdg : decode code pc = .ok (.ireturn, 1)) : W p l e room_1 s m #[Value.ref b] below meth c H [] 603072 7218912 (lw_Z below #[Value.ref b] s) (F0 m pc ls [.int 1]) := by
  intro T hT X
  obtain ⟨fs, hret, hrun, hended, hW, hframe⟩ := X.leave (v := some (.int 1)) (hlocks := hlocks) (fun h => by rw [hr] at h; cases h)
  have hmeth' : T.vm.method? m = some meth := X.method'
  refine ⟨T.setFrames fs, ?_, .returned (some (.int 1)), hrun, hended, rfl, ⟨_, rfl⟩, hW, hframe⟩
  jvm_step X.here [X.here.top, hx, hb, hdg, hmeth', hr, ret, narrow_b1]
  (try refine ⟨rfl, ?_⟩); (try refine ⟨rfl, ?_⟩)
  first | (intro acts; rw [hret _ acts rfl rfl rfl]) | rw [hret _ _ rfl rfl rfl]
  exact Steps.refl _
/-- what holds at the law's entry: the machine, the code, the tables' words (any of lw_tbl by 'hts w (by decide +kernel)'), the script of L ints xs at the cell b, what the Statement gives of the start (any of its parts by flat_of_before) -/
def lw_At (p : Program) (s : State) (m : MethodId) (meth : Method) (c : Code) (b L : Nat) (xs : Nat → Int32) : Prop :=
  p.tables.exec = Jvm.exec ∧ c.code = code ∧ meth.sig.returnType = ret ∧ c.maxLocals = 7 ∧ s.vm.findClass R_law = some m.cls ∧ (∀ w ∈ lw_tbl, w.before #[Value.ref b] s = true) ∧ va_X b L xs s s.heap ∧ b < s.heap.size ∧ meth.locks = false ∧ (Jvm.Cond.and given_1 narrow_1).before #[Value.ref b] s = true
theorem and31 (v : Int32) : ∃ j, j < 32 ∧ v &&& nI 31 = nI j := by
  refine ⟨nJ (v &&& nI 31), ?_, ?_⟩
  · unfold nJ
    rw [Int32.toBitVec_and, BitVec.toNat_and]
    have : (nI 31).toBitVec.toNat = 31 := by decide
    rw [this]
    exact Nat.lt_succ_of_le Nat.and_le_right
  · refine Int32.toBitVec_inj.mp (BitVec.eq_of_toNat_eq ?_)
    show nJ (v &&& nI 31) = (nJ (v &&& nI 31)) % 2 ^ 32
    exact (Nat.mod_eq_of_lt (v &&& nI 31).toBitVec.isLt).symm
theorem sub5 {L i : Nat} (hL : L ≤ 2561) (hi : i ≤ 5000) : (nI L - nI 5 < nI i) ↔ L < i + 5 := by
  by_cases h : 5 ≤ L
  · have e : nI L - nI 5 = nI (L - 5) := by
      have := nI_add (L - 5) 5
      rw [show L - 5 + 5 = L by omega] at this
      rw [← this, Int32.add_sub_cancel]
    rw [e, nI_ltI (by omega) (by omega)]
    omega
  · have hneg : ∀ L, L < 5 → nI L - nI 5 < nI 0 := by decide
    refine ⟨fun _ => by omega, fun _ => ?_⟩
    exact Int32.lt_of_lt_of_le (hneg L (by omega)) (nI_le (by omega) (by omega))
set_option maxHeartbeats 8000000 in
set_option maxRecDepth 100000 in
theorem law_loop {p : Program} {l : Launch} {e : Env} {s : State} {m : MethodId} {below : List Frame} {meth : Method} {c : Code} {loc locm : Nat → Nat} {n : Nat} {g gm : Gc} {ao b L : Nat} {xs : Nat → Int32} (hs0 : l.stackTraces = false) (hL31 : L ≤ 2561) (hn : n ≤ 40) (S : CallFix p m c cL_law 7 s #[.ref b] WA RL) (hr : meth.sig.returnType = ret) (hlocks : meth.locks = false) (hX : va_X b L xs s s.heap) (hbl : b < s.heap.size) (hE : LC loc g ao locm gm s) :
    ∀ (k i : Nat), L + 6 ≤ i + k → i ≤ L + 5 → ∀ (S0 : RS) (o : Int64) (M0 : MS) (H : Heap) (locs : List Loc) (ls : Array Slot), Sim n S0 M0 → LH loc n g ao locm gm S0 o M0 s H locs → lv_has ls 7 [(4, .int (nI i)), (0, .ref b), (1, .ref (loc 0)), (2, .ref (locm 0)), (3, .ref ao)] → W p l e room_1 s m #[.ref b] below meth c H locs (100 + 8 * i) (30000 + 48 * i) (lw_Z below #[.ref b] s) (F0 m 33 ls []) := by
  intro k
  induction k with
  | zero => intro i h1 h2; exact absurd h1 (by omega)
  | succ k ih =>
    intro i h1 h2 S0 o M0 H locs ls hSim hL hl
    have hbA : ¬ A0 s b := fun q => absurd hbl (Nat.not_lt.mpr q)
    refine lv_iload S.1 S.2.1 dL_law_33 (lv_at hl 0 rfl) ?_
    refine lv_aload_n S.1 S.2.1 dL_law_35 rfl (lv_at hl 1 rfl) ?_
    refine va_slen S.1 S.2.1 hX hbl hbA hL.2.2 dL_law_36 ?_
    refine lv_iconst (v := nI 5) S.1 S.2.1 dL_law_37 rfl ?_
    refine lv_isub S.1 S.2.1 dL_law_38 ?_
    refine lv_icmp_gt (tgt := 1481) S.1 S.2.1 dL_law_39 (by decide) (fun c1 => ?_) (fun c1 => ?_)
    · refine lv_iconst (v := 1) S.1 S.2.1 dL_law_1481 rfl ?_
      refine va_forget (fun q hq => hL.2.2.2.2 q hq) ?_
      refine W.widen (k := 603072) (n := 7218912) (by omega) (by omega) ?_
      exact lw_ret S.1 S.2.1 hr hlocks dL_law_1482
    · have hi : i + 5 ≤ L := by
        refine Classical.byContradiction fun hc => c1 ((sub5 hL31 (by omega)).mpr (by omega))
      refine lv_aload_n S.1 S.2.1 dL_law_42 rfl (lv_at hl 1 rfl) ?_
      refine lv_iload S.1 S.2.1 dL_law_43 (lv_at hl 0 rfl) ?_
      refine lx_ld S hX hbl hL (show i < L by omega) hL31 dL_law_45 ?_
      refine lv_bipush (v := nI 31) S.1 S.2.1 dL_law_46 rfl ?_
      refine lv_iand S.1 S.2.1 dL_law_48 ?_
      obtain ⟨j, hj, ej⟩ := and31 (xs i)
      rw [ej]
      have next : ∀ (S1 : RS) (o1 : Int64) (M1 : MS) (H1 : Heap) (locs1 : List Loc) (ls1 : Array Slot), Sim n S1 M1 → LH loc n g ao locm gm S1 o1 M1 s H1 locs1 → lv_has ls1 7 [(4, .int (nI i)), (0, .ref b), (1, .ref (loc 0)), (2, .ref (locm 0)), (3, .ref ao)] → W p l e room_1 s m #[.ref b] below meth c H1 locs1 (100 + 8 * i + 8) (30000 + 48 * i + 48) (lw_Z below #[.ref b] s) (F0 m 1475 ls1 []) := by
        intro S1 o1 M1 H1 locs1 ls1 q1 q2 hl
        refine lv_iinc (k := 0) S.1 S.2.1 dL_law_1475 hl rfl (show nI i + Int32.ofInt 5 = nI (i + 5) from nI_add i 5) (by decide) rfl (fun ls hl => ?_)
        refine lv_goto (tgt := 33) S.1 S.2.1 dL_law_1478 (by decide) ?_
        refine W.widen (k := 100 + 8 * (i + 5)) (n := 30000 + 48 * (i + 5)) (by omega) (by omega) ?_
        exact ih (i + 5) (by omega) (by omega) S1 o1 M1 H1 locs1 ls q1 q2 hl
      have hRm : 20 ≤ room_1.frames ∧ 5000 ≤ room_1.locals := by decide
      have hf : 100 + 8 * i + 8 ≤ room_1.cells ∧ 30000 + 48 * i + 48 ≤ room_1.slots := ⟨by show _ ≤ (603072 : Nat); omega, by show _ ≤ (7218912 : Nat); omega⟩
      by_cases hj19 : j < 19
      · match j, hj19 with
        | 0, _ =>
          refine lv_tableIn (tgt := 140) S.1 S.2.1 dL_law_49 (by decide) (by decide) (by rfl) (by decide) ?_
          exact lw_clear S hn hE hRm hf hSim hL hl next
        | 1, _ =>
          refine lv_tableIn (tgt := 153) S.1 S.2.1 dL_law_49 (by decide) (by decide) (by rfl) (by decide) ?_
          exact lw_kind S hs0 hn hX hbl hE hRm hf hi hL31 hSim hL hl next
        | 2, _ =>
          refine lv_tableIn (tgt := 221) S.1 S.2.1 dL_law_49 (by decide) (by decide) (by rfl) (by decide) ?_
          exact lw_relation S hs0 hn hX hbl hE hRm hf hi hL31 hSim hL hl next
        | 3, _ =>
          refine lv_tableIn (tgt := 301) S.1 S.2.1 dL_law_49 (by decide) (by decide) (by rfl) (by decide) ?_
          exact lw_condition S hs0 hn hX hbl hE hRm hf hi hL31 hSim hL hl next
        | 4, _ =>
          refine lv_tableIn (tgt := 381) S.1 S.2.1 dL_law_49 (by decide) (by decide) (by rfl) (by decide) ?_
          exact lw_set S hs0 hn hX hbl hE hRm hf hi hL31 hSim hL hl next
        | 5, _ =>
          refine lv_tableIn (tgt := 461) S.1 S.2.1 dL_law_49 (by decide) (by decide) (by rfl) (by decide) ?_
          exact lw_drop S hs0 hn hX hbl hE hRm hf hi hL31 hSim hL hl next
        | 6, _ =>
          refine lv_tableIn (tgt := 548) S.1 S.2.1 dL_law_49 (by decide) (by decide) (by rfl) (by decide) ?_
          exact lw_empty S hs0 hn hX hbl hE hRm hf hi hL31 hSim hL hl next
        | 7, _ =>
          refine lv_tableIn (tgt := 604) S.1 S.2.1 dL_law_49 (by decide) (by decide) (by rfl) (by decide) ?_
          exact lw_pushed S hs0 hn hX hbl hE hRm hf hi hL31 hSim hL hl next
        | 8, _ =>
          refine lv_tableIn (tgt := 672) S.1 S.2.1 dL_law_49 (by decide) (by decide) (by rfl) (by decide) ?_
          exact lw_has S hs0 hn hX hbl hE hRm hf hi hL31 hSim hL hl next
        | 9, _ =>
          refine lv_tableIn (tgt := 759) S.1 S.2.1 dL_law_49 (by decide) (by decide) (by rfl) (by decide) ?_
          exact lw_next S hs0 hn hX hbl hE hRm hf hi hL31 hSim hL hl next
        | 10, _ =>
          refine lv_tableIn (tgt := 839) S.1 S.2.1 dL_law_49 (by decide) (by decide) (by rfl) (by decide) ?_
          exact lw_back S hs0 hn hX hbl hE hRm hf hi hL31 hSim hL hl next
        | 11, _ =>
          refine lv_tableIn (tgt := 919) S.1 S.2.1 dL_law_49 (by decide) (by decide) (by rfl) (by decide) ?_
          exact lw_count S hs0 hn hX hbl hE hRm hf hi hL31 hSim hL hl next
        | 12, _ =>
          refine lv_tableIn (tgt := 975) S.1 S.2.1 dL_law_49 (by decide) (by decide) (by rfl) (by decide) ?_
          exact lw_length S hs0 hn hX hbl hE hRm hf hi hL31 hSim hL hl next
        | 13, _ =>
          refine lv_tableIn (tgt := 1055) S.1 S.2.1 dL_law_49 (by decide) (by decide) (by rfl) (by decide) ?_
          exact lw_route S hs0 hn hX hbl hE hRm hf hi hL31 hSim hL hl next
        | 14, _ =>
          refine lv_tableIn (tgt := 1147) S.1 S.2.1 dL_law_49 (by decide) (by decide) (by rfl) (by decide) ?_
          exact lw_leader S hs0 hn hX hbl hE hRm hf hi hL31 hSim hL hl next
        | 15, _ =>
          refine lv_tableIn (tgt := 1215) S.1 S.2.1 dL_law_49 (by decide) (by decide) (by rfl) (by decide) ?_
          exact lw_differ S hs0 hn hX hbl hE hRm hf hi hL31 hSim hL hl next
        | 16, _ =>
          refine lv_tableIn (tgt := 1283) S.1 S.2.1 dL_law_49 (by decide) (by decide) (by rfl) (by decide) ?_
          exact lw_tally S hs0 hn hX hbl hE hRm hf hi hL31 hSim hL hl next
        | 17, _ =>
          refine lv_tableIn (tgt := 1351) S.1 S.2.1 dL_law_49 (by decide) (by decide) (by rfl) (by decide) ?_
          exact lw_of S hs0 hn hX hbl hE hRm hf hi hL31 hSim hL hl next
        | 18, _ =>
          refine lv_tableIn (tgt := 1407) S.1 S.2.1 dL_law_49 (by decide) (by decide) (by rfl) (by decide) ?_
          exact lw_told S hs0 hn hX hbl hE hRm hf hi hL31 hSim hL hl next
        | q + 19, h => exact absurd h (by omega)
      · refine lv_tableOut (tgt := 1475) S.1 S.2.1 dL_law_49 (Or.inr (by rw [nI_toInt (by omega)]; omega)) (by decide) ?_
        refine W.widen (k := 100 + 8 * i + 8) (n := 30000 + 48 * i + 48) (by omega) (by omega) ?_
        exact next S0 o M0 H locs ls hSim hL hl
