abbrev wsH (y : MethodName) (cc : ByteArray) (maxL : Nat) (ret : Option FieldType) (hh : List (Nat × Nat × Nat × Nat)) : List Cond := .codeWith y cc maxL ret hh :: WA
theorem h_enter {σ : Type} {l : Launch} {A : Nat → Prop} {Hp : σ → Heap → Prop} {Ev : State → Heap → Prop} {S0 : σ} {y : MethodName} {bytes : ByteArray} {maxL mc ms : Nat} {ret : Option FieldType} {hh : List (Nat × Nat × Nat × Nat)} {rm : Room} (hy : plainName y.cls = true) {av : List Value} {Qc : Array Value → State → Outcome → State → Prop} (hlen : (lg_sl av).length ≤ maxL)
    (body : ∀ (p : Program) (e : Env) (s : State) (m : MethodId) (below : List Frame) (meth : Method) (c : Code) (ls : Array Slot), CallFix p m c bytes maxL s av.toArray WA y.cls → meth.sig.returnType = ret → meth.locks = false → c.exceptionTable.toList = tableOf hh → Cn A Hp Ev S0 s s.heap [] → lv_has ls maxL (lv_args 0 av) → W p l e rm s m av.toArray below meth c s.heap [] 0 0 (MQ below Qc av.toArray s mc ms A) (F0 m 0 ls [])) : Met l y (wsH y bytes maxL ret hh) rm (PcO Hp Ev S0 av) Qc mc ms A := by
  refine MetFree.of_bodyS (code := bytes) (maxLocals := maxL) (ret := ret) hy ?_ ?_
  · intro args s m h hn
    obtain ⟨m9, meth, c, hn9, h1, h2, h3, h4, -, h5, h6, -⟩ := Cond.codeWith_spec (atoms_spec (ws := wsH y bytes maxL ret hh) h _ List.mem_cons_self)
    cases hn.symm.trans hn9
    exact ⟨meth, c, h1, h2, h3, h4, h5, h6⟩
  · intro p e s m args below meth c s₁ B hml hP _
    have hh0 : s₁.heap = s.heap := by rw [B.state]; rfl
    have htb := vx_table (x := y) (hh := hh) B (atoms_spec (ws := wsH y bytes maxL ret hh) B.pre _ List.mem_cons_self)
    obtain ⟨rfl, hH, hE⟩ := hP
    have K := body p e s m below meth c _ ⟨B.exec, B.bytes, hml, findClass_of_methodNamed B.named, fun w h => atoms_spec (ws := wsH y bytes maxL ret hh) B.pre w (List.mem_cons_of_mem _ h)⟩ B.returns B.notSynchronized htb ⟨hE, hH, va_S.rf⟩ (lv_entry av hlen)
    rw [← lg_entry_eq, ← hh0] at K
    obtain ⟨t, a1, o, b1, b2, b3⟩ := K s₁ rfl (Stand.of_body B)
    exact ⟨t, o, a1, b1, b2, ⟨b3.1, b3.2⟩⟩
/-! the law's helpers: a RelationRows, and the one long that its answer goes into -/
def HL (loc : Nat → Nat) (n : Nat) (g : Gc) (ao : Nat) (u : RS × Int64) (H : Heap) : Prop := HX loc n g u.1 H ∧ H[ao]? = some (arrV (g.2 3) 1 (fun _ => .long u.2))
def EvL (loc : Nat → Nat) (g : Gc) (ao : Nat) (s : State) (H : Heap) : Prop := EvX loc g s H ∧ (∀ i, i < 22 → ao ≠ loc i) ∧ va_Nc iseS iaeS s ∧ va_Nc nseS iaeS s
def AL (loc : Nat → Nat) (ao : Nat) : Nat → Prop := fun q => ZA loc 21 q ∨ q = ao
theorem hx_lt {loc : Nat → Nat} {n : Nat} {g : Gc} {S : RS} {H : Heap} (hH : HX loc n g S H) {i : Nat} (hi : i < 22) : loc i < H.size := by
  rcases Nat.eq_zero_or_pos i with h0 | h0
  · subst h0
    obtain ⟨cell, q1, -⟩ := hH.1
    exact (Array.getElem?_eq_some_iff.mp q1).1
  · have q1 := hH.2 (i - 1) (by omega)
    rw [show i - 1 + 1 = i by omega] at q1
    exact (Array.getElem?_eq_some_iff.mp q1).1
section LW
variable {p : Program} {l : Launch} {e : Env} {R : Room} {s : State} {m : MethodId} {args : Array Value} {below : List Frame} {meth : Method} {c : Code} {H : Heap} {locs : List Loc} {cells slots : Nat} {Q : State → Prop}
variable {cc : ByteArray} {pc nL : Nat} {ls : Array Slot} {rest : List Value} {loc : Nat → Nat} {n : Nat} {g : Gc} {ao : Nat} {S0 : RS} {o : Int64}
abbrev CL (loc : Nat → Nat) (n : Nat) (g : Gc) (ao : Nat) (u : RS × Int64) (s : State) (H : Heap) (locs : List Loc) : Prop := Cn (AL loc ao) (HL loc n g ao) (EvL loc g ao) u s H locs
theorem l_pre {y : MethodName} {As : List Value} (hy : y.cls = RX0) (hC : CL loc n g ao (S0, o) s s.heap []) : PreV s s.heap y.cls (loc 0) (PcO (HX loc n g) (EvX loc g) S0 (.ref (loc 0) :: As)) As := by
  rw [hy]
  exact ⟨fun a U g mk q => ⟨q.1, q.2.1, (oiX (n := n)).1.2 U g mk a q.2.2⟩, (oiX (n := n)).2 s S0 s.heap hC.1.1 hC.2.1.1, fun U hU hW => ⟨rfl, by rw [hU]; exact hC.2.1.1, (oiX (n := n)).1.1 s U s.heap [] hC.1.1 hU hW va_S.rf⟩⟩
theorem l_back {u : RS} {H1 : Heap} {locs1 : List Loc} (hC : CL loc n g ao (S0, o) s s.heap []) (hB : HX loc n g u H1) (hk : ∀ q : Nat, q < s.heap.size → ¬ ZA loc 21 q → H1[q]? = s.heap[q]?) (hS : va_S (AL loc ao) s.heap H1 locs1) : CL loc n g ao (u, o) s H1 locs1 := by
  refine ⟨hC.1, ⟨hB, ?_⟩, hS⟩
  rw [hk ao (Array.getElem?_eq_some_iff.mp hC.2.1.2).1 (fun ⟨i, hi, e⟩ => hC.1.2.1 i hi e)]
  exact hC.2.1.2
theorem l_last (S : CallFix p m c cc nL s args WA RL) (hC : CL loc n g ao (S0, o) s H locs) {v : Int64} (hdg : decode cc pc = .ok (.lastore, 1)) (kk : ∀ (H1 : Heap) (locs1 : List Loc), CL loc n g ao (S0, v) s H1 locs1 → W p l e R s m args below meth c H1 locs1 cells slots Q (F0 m (pc + 1) ls rest)) : W p l e R s m args below meth c H locs cells slots Q (F0 m pc ls (.long v :: .int (nI 0) :: .ref ao :: rest)) := by
  refine W.last S.1 S.2.1 hC.2.1.2 (hC.1.1.1.2.2.2.1 _ _) (fun q => by cases q) (z_in (i := 0) (by omega) (by omega)) rfl rfl hdg fun H1 e1 z oq => ?_
  refine kk H1 _ ⟨hC.1, ⟨hC.2.1.1.kept (fun i hi => oq _ (fun e => hC.1.2.1 i hi e.symm)), ?_⟩, hC.2.2.put z oq (Or.inr rfl)⟩
  rw [e1, nI_clamp (by omega), arrV_store]
  refine congrArg some (arrV_congr _ fun b hb => ?_)
  simp [updV, show b = 0 by omega]
end LW

theorem opt2 {x y E : String} {c : Prop} [Decidable c] {r : Option String} (h : (if c then some x else r) = some E) (hr : r = some E → E = x ∨ E = y) : E = x ∨ E = y := by
  by_cases q : c
  · rw [if_pos q] at h; exact Or.inl (Option.some.inj h).symm
  · rw [if_neg q] at h; exact hr h
theorem opt2' {x y E : String} {c : Prop} [Decidable c] {r : Option String} (h : (if c then some y else r) = some E) (hr : r = some E → E = x ∨ E = y) : E = x ∨ E = y := by
  by_cases q : c
  · rw [if_pos q] at h; exact Or.inr (Option.some.inj h).symm
  · rw [if_neg q] at h; exact hr h
theorem opt1 {x E : String} {c : Prop} [Decidable c] {r : Option String} (h : (if c then some x else r) = some E) (hr : r = some E → E = x) : E = x := by
  by_cases q : c
  · rw [if_pos q] at h; exact (Option.some.inj h).symm
  · rw [if_neg q] at h; exact hr h
theorem optN {α : Prop} {E : String} (h : (none : Option String) = some E) : α := by cases h
set_option maxRecDepth 100000 in
set_option maxHeartbeats 4000000 in
theorem c_L_kind (l : Launch) (hs0 : l.stackTraces = false) {loc : Nat → Nat} {n : Nat} {g : Gc} (hn : n ≤ 40) {ao : Nat} {S0 : RS} {o : Int64} (x k : Int32) : Met l yL_kind (wsH yL_kind cL_kind 5 (some .int) [(0, 10, 13, 13), (0, 10, 17, 15)]) (rmL 10 8 48) (PcO (HL loc n g ao) (EvL loc g ao) (S0, o) [.ref (loc 0), .int x, .int k, .ref ao]) (va_Qi (fun (kq : Int32) (u : RS × Int64) => (kq = nI 0 ∧ ∃ v, u.2 = v.toInt64 ∧ (fun v S' => S' = sA S0 0 (ixN x) k ∧ kindW S0 n x k = none ∧ v = S0.2.1 0 (ixN x)) v u.1) ∨ (kq = nI 1 ∧ u.2 = o ∧ (u.1 = S0 ∧ (fun E => kindW S0 n x k = some E) iaeS)) ∨ (kq = nI 2 ∧ u.2 = o ∧ (u.1 = S0 ∧ (fun E => kindW S0 n x k = some E) iseS))) (fun u t => HL loc n g ao u t.heap) (AL loc ao)) (rmL 10 8 48).cells (rmL 10 8 48).slots (AL loc ao) := by
  refine h_enter (by decide) (Nat.le_of_ble_eq_true rfl) ?_
  intro p e s m below meth c ls S hr hlocks htb hC hl
  refine lv_aload_n S.1 S.2.1 dL_kind_0 rfl (lv_at hl 3 rfl) ?_
  refine lv_iconst (v := nI 0) S.1 S.2.1 dL_kind_1 rfl ?_
  refine lv_aload_n S.1 S.2.1 dL_kind_2 rfl (lv_at hl 0 rfl) ?_
  refine lv_iload_n S.1 S.2.1 dL_kind_3 rfl (lv_at hl 1 rfl) ?_
  refine lv_iload_n S.1 S.2.1 dL_kind_4 rfl (lv_at hl 2 rfl) ?_
  refine vx_calli (vx_runV (As := [.int x, .int k]) (rest := [.int (nI 0), .ref ao]) S (c_X0_kind l hs0 hn  x k) (cwV 2 S.2.2.2.2 (vw_good cw_RL_X0_kind) rfl rfl rfl ⟨rfl, cw_RL_X0_kind.2⟩ ⟨by decide, by decide⟩) (l_pre rfl hC) rfl rfl hl.1 rfl (lv_room (Nat.le_of_ble_eq_true rfl)) dL_kind_5 ⟨(Nat.le_of_ble_eq_true rfl), (Nat.le_of_ble_eq_true rfl)⟩) hC.2.2 (fun q _ h => Or.inl h) (fun q h => Or.inl h) (fun q _ h => Or.inl h) (fun E ce q9 u t H1 locs1 ht hvm _ hB hz hk hS h1 h2 h3 => ?_) (fun v u t H1 locs1 ht hvm hp hB hz hk hS => ?_)
  · obtain ⟨hX, hB⟩ := hB
    have hCx : CL loc n g ao (S0, o) s H1 locs1 := l_back hC (by rw [← ht]; exact hB) hk hS
    rcases (show E = iaeS ∨ E = iseS from (by unfold kindW at hX; exact (fun h => opt2 h (fun h => opt2 h (fun h => opt2' h optN))) hX)) with hE | hE
    · subst hE
      refine vx_catch (name := iaeS) S.2.2.2.1 [] (⟨0, 10, 13, 13⟩ : ExceptionTableEntry) [(⟨0, 10, 17, 15⟩ : ExceptionTableEntry)] htb (fun z hz => nomatch hz) (by decide) (by decide) (S.2.2.2.2 _ w_339) (va_Nw.use (nw_tab (by decide)) (hC.1.1.2.1.1 _ (show Cond.castable iaeS iaeS ∈ xwN by decide))) h1 h2 h3 ?_
      refine lv_astore S.1 S.2.1 dL_kind_13 hl (by decide) rfl (fun ls hl => ?_)
      refine lv_iconst (v := nI 1) S.1 S.2.1 dL_kind_15 rfl ?_
      exact o_iret (S0 := (S0, o)) S hr hlocks hCx (Or.inr (Or.inl ⟨rfl, rfl, rfl, hX⟩)) rfl dL_kind_16 (Nat.le_of_ble_eq_true rfl) (Nat.le_of_ble_eq_true rfl)
    · subst hE
      refine vx_catch (name := iseS) S.2.2.2.1 [(⟨0, 10, 13, 13⟩ : ExceptionTableEntry)] (⟨0, 10, 17, 15⟩ : ExceptionTableEntry) [] htb (fun z hz => Or.inr ⟨by rw [List.mem_singleton.mp hz]; decide, iaeS, by rw [List.mem_singleton.mp hz]; exact S.2.2.2.2 _ w_339, hC.1.2.2.1⟩) (by decide) (by decide) (S.2.2.2.2 _ w_340) (va_Nw.use (nw_tab (by decide)) (hC.1.1.2.1.1 _ (show Cond.castable iseS iseS ∈ xwN by decide))) h1 h2 h3 ?_
      refine lv_astore S.1 S.2.1 dL_kind_17 hl (by decide) rfl (fun ls hl => ?_)
      refine lv_iconst (v := nI 2) S.1 S.2.1 dL_kind_19 rfl ?_
      exact o_iret (S0 := (S0, o)) S hr hlocks hCx (Or.inr (Or.inr ⟨rfl, rfl, rfl, hX⟩)) rfl dL_kind_20 (Nat.le_of_ble_eq_true rfl) (Nat.le_of_ble_eq_true rfl)
  · have hCx : CL loc n g ao (u, o) s H1 locs1 := l_back hC (by rw [← ht]; exact hB) hk hS
    refine lv_i2l S.1 S.2.1 dL_kind_8 rfl ?_
    refine l_last S hCx dL_kind_9 (fun H locs hCx => ?_)
    refine lv_goto (tgt := 21) S.1 S.2.1 dL_kind_10 (by decide) ?_
    refine lv_iconst (v := nI 0) S.1 S.2.1 dL_kind_21 rfl ?_
    exact o_iret S hr hlocks hCx (Or.inl ⟨rfl, v, rfl, hp⟩) rfl dL_kind_22 (Nat.le_of_ble_eq_true rfl) (Nat.le_of_ble_eq_true rfl)
set_option maxRecDepth 100000 in
set_option maxHeartbeats 4000000 in
theorem c_L_relation (l : Launch) (hs0 : l.stackTraces = false) {loc : Nat → Nat} {n : Nat} {g : Gc} (hn : n ≤ 40) {ao : Nat} {S0 : RS} {o : Int64} {R : Nat} (hR : R ≤ 12) (hrel : S0.1 0 = nI R) (f x y : Int32) : Met l yL_relation (wsH yL_relation cL_relation 6 (some .int) [(0, 12, 15, 13), (0, 12, 19, 15)]) (rmL 10 8 48) (PcO (HL loc n g ao) (EvL loc g ao) (S0, o) [.ref (loc 0), .int f, .int x, .int y, .ref ao]) (va_Qi (fun (kq : Int32) (u : RS × Int64) => (kq = nI 0 ∧ ∃ v, u.2 = v.toInt64 ∧ (fun v S' => S' = startF (addRel S0 R f x y) R n ∧ relW S0 f x y = none ∧ v = nI R) v u.1) ∨ (kq = nI 1 ∧ u.2 = o ∧ (u.1 = S0 ∧ (fun E => relW S0 f x y = some E) iaeS)) ∨ (kq = nI 2 ∧ u.2 = o ∧ (u.1 = S0 ∧ (fun E => relW S0 f x y = some E) iseS))) (fun u t => HL loc n g ao u t.heap) (AL loc ao)) (rmL 10 8 48).cells (rmL 10 8 48).slots (AL loc ao) := by
  refine h_enter (by decide) (Nat.le_of_ble_eq_true rfl) ?_
  intro p e s m below meth c ls S hr hlocks htb hC hl
  refine lv_aload S.1 S.2.1 dL_relation_0 (lv_at hl 4 rfl) ?_
  refine lv_iconst (v := nI 0) S.1 S.2.1 dL_relation_2 rfl ?_
  refine lv_aload_n S.1 S.2.1 dL_relation_3 rfl (lv_at hl 0 rfl) ?_
  refine lv_iload_n S.1 S.2.1 dL_relation_4 rfl (lv_at hl 1 rfl) ?_
  refine lv_iload_n S.1 S.2.1 dL_relation_5 rfl (lv_at hl 2 rfl) ?_
  refine lv_iload_n S.1 S.2.1 dL_relation_6 rfl (lv_at hl 3 rfl) ?_
  refine vx_calli (vx_runV (As := [.int f, .int x, .int y]) (rest := [.int (nI 0), .ref ao]) S (c_X0_relation l hs0 hn hR hrel f x y) (cwV 3 S.2.2.2.2 (vw_good cw_RL_X0_relation) rfl rfl rfl ⟨rfl, cw_RL_X0_relation.2⟩ ⟨by decide, by decide⟩) (l_pre rfl hC) rfl rfl hl.1 rfl (lv_room (Nat.le_of_ble_eq_true rfl)) dL_relation_7 ⟨(Nat.le_of_ble_eq_true rfl), (Nat.le_of_ble_eq_true rfl)⟩) hC.2.2 (fun q _ h => Or.inl h) (fun q h => Or.inl h) (fun q _ h => Or.inl h) (fun E ce q9 u t H1 locs1 ht hvm _ hB hz hk hS h1 h2 h3 => ?_) (fun v u t H1 locs1 ht hvm hp hB hz hk hS => ?_)
  · obtain ⟨hX, hB⟩ := hB
    have hCx : CL loc n g ao (S0, o) s H1 locs1 := l_back hC (by rw [← ht]; exact hB) hk hS
    rcases (show E = iaeS ∨ E = iseS from (by unfold relW at hX; exact (fun h => opt2 h (fun h => opt2 h (fun h => opt2 h (fun h => opt2 h (fun h => opt2' h optN))))) hX)) with hE | hE
    · subst hE
      refine vx_catch (name := iaeS) S.2.2.2.1 [] (⟨0, 12, 15, 13⟩ : ExceptionTableEntry) [(⟨0, 12, 19, 15⟩ : ExceptionTableEntry)] htb (fun z hz => nomatch hz) (by decide) (by decide) (S.2.2.2.2 _ w_339) (va_Nw.use (nw_tab (by decide)) (hC.1.1.2.1.1 _ (show Cond.castable iaeS iaeS ∈ xwN by decide))) h1 h2 h3 ?_
      refine lv_astore S.1 S.2.1 dL_relation_15 hl (by decide) rfl (fun ls hl => ?_)
      refine lv_iconst (v := nI 1) S.1 S.2.1 dL_relation_17 rfl ?_
      exact o_iret (S0 := (S0, o)) S hr hlocks hCx (Or.inr (Or.inl ⟨rfl, rfl, rfl, hX⟩)) rfl dL_relation_18 (Nat.le_of_ble_eq_true rfl) (Nat.le_of_ble_eq_true rfl)
    · subst hE
      refine vx_catch (name := iseS) S.2.2.2.1 [(⟨0, 12, 15, 13⟩ : ExceptionTableEntry)] (⟨0, 12, 19, 15⟩ : ExceptionTableEntry) [] htb (fun z hz => Or.inr ⟨by rw [List.mem_singleton.mp hz]; decide, iaeS, by rw [List.mem_singleton.mp hz]; exact S.2.2.2.2 _ w_339, hC.1.2.2.1⟩) (by decide) (by decide) (S.2.2.2.2 _ w_340) (va_Nw.use (nw_tab (by decide)) (hC.1.1.2.1.1 _ (show Cond.castable iseS iseS ∈ xwN by decide))) h1 h2 h3 ?_
      refine lv_astore S.1 S.2.1 dL_relation_19 hl (by decide) rfl (fun ls hl => ?_)
      refine lv_iconst (v := nI 2) S.1 S.2.1 dL_relation_21 rfl ?_
      exact o_iret (S0 := (S0, o)) S hr hlocks hCx (Or.inr (Or.inr ⟨rfl, rfl, rfl, hX⟩)) rfl dL_relation_22 (Nat.le_of_ble_eq_true rfl) (Nat.le_of_ble_eq_true rfl)
  · have hCx : CL loc n g ao (u, o) s H1 locs1 := l_back hC (by rw [← ht]; exact hB) hk hS
    refine lv_i2l S.1 S.2.1 dL_relation_10 rfl ?_
    refine l_last S hCx dL_relation_11 (fun H locs hCx => ?_)
    refine lv_goto (tgt := 23) S.1 S.2.1 dL_relation_12 (by decide) ?_
    refine lv_iconst (v := nI 0) S.1 S.2.1 dL_relation_23 rfl ?_
    exact o_iret S hr hlocks hCx (Or.inl ⟨rfl, v, rfl, hp⟩) rfl dL_relation_24 (Nat.le_of_ble_eq_true rfl) (Nat.le_of_ble_eq_true rfl)
set_option maxRecDepth 100000 in
set_option maxHeartbeats 4000000 in
theorem c_L_condition (l : Launch) (hs0 : l.stackTraces = false) {loc : Nat → Nat} {n : Nat} {g : Gc} (hn : n ≤ 40) {ao : Nat} {S0 : RS} {o : Int64} {R : Nat} (hR : R ≤ 12) (hrel : S0.1 0 = nI R) (c0 x y : Int32) : Met l yL_condition (wsH yL_condition cL_condition 6 (some .int) [(0, 12, 15, 13), (0, 12, 19, 15)]) (rmL 10 8 48) (PcO (HL loc n g ao) (EvL loc g ao) (S0, o) [.ref (loc 0), .int c0, .int x, .int y, .ref ao]) (va_Qi (fun (kq : Int32) (u : RS × Int64) => (kq = nI 0 ∧ ∃ v, u.2 = v.toInt64 ∧ (fun v S' => S' = addRel S0 R (nI 10 + c0) x y ∧ condW S0 c0 x y = none ∧ v = nI R) v u.1) ∨ (kq = nI 1 ∧ u.2 = o ∧ (u.1 = S0 ∧ (fun E => condW S0 c0 x y = some E) iaeS)) ∨ (kq = nI 2 ∧ u.2 = o ∧ (u.1 = S0 ∧ (fun E => condW S0 c0 x y = some E) iseS))) (fun u t => HL loc n g ao u t.heap) (AL loc ao)) (rmL 10 8 48).cells (rmL 10 8 48).slots (AL loc ao) := by
  refine h_enter (by decide) (Nat.le_of_ble_eq_true rfl) ?_
  intro p e s m below meth c ls S hr hlocks htb hC hl
  refine lv_aload S.1 S.2.1 dL_condition_0 (lv_at hl 4 rfl) ?_
  refine lv_iconst (v := nI 0) S.1 S.2.1 dL_condition_2 rfl ?_
  refine lv_aload_n S.1 S.2.1 dL_condition_3 rfl (lv_at hl 0 rfl) ?_
  refine lv_iload_n S.1 S.2.1 dL_condition_4 rfl (lv_at hl 1 rfl) ?_
  refine lv_iload_n S.1 S.2.1 dL_condition_5 rfl (lv_at hl 2 rfl) ?_
  refine lv_iload_n S.1 S.2.1 dL_condition_6 rfl (lv_at hl 3 rfl) ?_
  refine vx_calli (vx_runV (As := [.int c0, .int x, .int y]) (rest := [.int (nI 0), .ref ao]) S (c_X0_condition l hs0 hn hR hrel c0 x y) (cwV 3 S.2.2.2.2 (vw_good cw_RL_X0_condition) rfl rfl rfl ⟨rfl, cw_RL_X0_condition.2⟩ ⟨by decide, by decide⟩) (l_pre rfl hC) rfl rfl hl.1 rfl (lv_room (Nat.le_of_ble_eq_true rfl)) dL_condition_7 ⟨(Nat.le_of_ble_eq_true rfl), (Nat.le_of_ble_eq_true rfl)⟩) hC.2.2 (fun q _ h => Or.inl h) (fun q h => Or.inl h) (fun q _ h => Or.inl h) (fun E ce q9 u t H1 locs1 ht hvm _ hB hz hk hS h1 h2 h3 => ?_) (fun v u t H1 locs1 ht hvm hp hB hz hk hS => ?_)
  · obtain ⟨hX, hB⟩ := hB
    have hCx : CL loc n g ao (S0, o) s H1 locs1 := l_back hC (by rw [← ht]; exact hB) hk hS
    rcases (show E = iaeS ∨ E = iseS from (by unfold condW at hX; exact (fun h => opt2 h (fun h => opt2 h (fun h => opt2 h (fun h => opt2 h (fun h => opt2' h optN))))) hX)) with hE | hE
    · subst hE
      refine vx_catch (name := iaeS) S.2.2.2.1 [] (⟨0, 12, 15, 13⟩ : ExceptionTableEntry) [(⟨0, 12, 19, 15⟩ : ExceptionTableEntry)] htb (fun z hz => nomatch hz) (by decide) (by decide) (S.2.2.2.2 _ w_339) (va_Nw.use (nw_tab (by decide)) (hC.1.1.2.1.1 _ (show Cond.castable iaeS iaeS ∈ xwN by decide))) h1 h2 h3 ?_
      refine lv_astore S.1 S.2.1 dL_condition_15 hl (by decide) rfl (fun ls hl => ?_)
      refine lv_iconst (v := nI 1) S.1 S.2.1 dL_condition_17 rfl ?_
      exact o_iret (S0 := (S0, o)) S hr hlocks hCx (Or.inr (Or.inl ⟨rfl, rfl, rfl, hX⟩)) rfl dL_condition_18 (Nat.le_of_ble_eq_true rfl) (Nat.le_of_ble_eq_true rfl)
    · subst hE
      refine vx_catch (name := iseS) S.2.2.2.1 [(⟨0, 12, 15, 13⟩ : ExceptionTableEntry)] (⟨0, 12, 19, 15⟩ : ExceptionTableEntry) [] htb (fun z hz => Or.inr ⟨by rw [List.mem_singleton.mp hz]; decide, iaeS, by rw [List.mem_singleton.mp hz]; exact S.2.2.2.2 _ w_339, hC.1.2.2.1⟩) (by decide) (by decide) (S.2.2.2.2 _ w_340) (va_Nw.use (nw_tab (by decide)) (hC.1.1.2.1.1 _ (show Cond.castable iseS iseS ∈ xwN by decide))) h1 h2 h3 ?_
      refine lv_astore S.1 S.2.1 dL_condition_19 hl (by decide) rfl (fun ls hl => ?_)
      refine lv_iconst (v := nI 2) S.1 S.2.1 dL_condition_21 rfl ?_
      exact o_iret (S0 := (S0, o)) S hr hlocks hCx (Or.inr (Or.inr ⟨rfl, rfl, rfl, hX⟩)) rfl dL_condition_22 (Nat.le_of_ble_eq_true rfl) (Nat.le_of_ble_eq_true rfl)
  · have hCx : CL loc n g ao (u, o) s H1 locs1 := l_back hC (by rw [← ht]; exact hB) hk hS
    refine lv_i2l S.1 S.2.1 dL_condition_10 rfl ?_
    refine l_last S hCx dL_condition_11 (fun H locs hCx => ?_)
    refine lv_goto (tgt := 23) S.1 S.2.1 dL_condition_12 (by decide) ?_
    refine lv_iconst (v := nI 0) S.1 S.2.1 dL_condition_23 rfl ?_
    exact o_iret S hr hlocks hCx (Or.inl ⟨rfl, v, rfl, hp⟩) rfl dL_condition_24 (Nat.le_of_ble_eq_true rfl) (Nat.le_of_ble_eq_true rfl)
set_option maxRecDepth 100000 in
set_option maxHeartbeats 4000000 in
theorem c_L_set (l : Launch) (hs0 : l.stackTraces = false) {loc : Nat → Nat} {n : Nat} {g : Gc} (hn : n ≤ 40) {ao : Nat} {S0 : RS} {o : Int64} {R : Nat} (hR : R ≤ 12) (hrel : S0.1 0 = nI R) {t : Nat} (ht12 : t ≤ 12) (ht0 : S0.1 1 = nI t) (x a b : Int32) : Met l yL_set (wsH yL_set cL_set 6 (some .int) [(0, 12, 15, 13), (0, 12, 19, 15)]) (rmL 10 8 48) (PcO (HL loc n g ao) (EvL loc g ao) (S0, o) [.ref (loc 0), .int x, .int a, .int b, .ref ao]) (va_Qi (fun (kq : Int32) (u : RS × Int64) => (kq = nI 0 ∧ ∃ v, u.2 = v.toInt64 ∧ (fun v S' => S' = setC S0 n t (ixN x) (ixN a) (ixN b) ∧ settW S0 n x a b = none ∧ v = S'.1 2) v u.1) ∨ (kq = nI 1 ∧ u.2 = o ∧ (u.1 = S0 ∧ (fun E => settW S0 n x a b = some E) iaeS)) ∨ (kq = nI 2 ∧ u.2 = o ∧ (u.1 = S0 ∧ (fun E => settW S0 n x a b = some E) iseS))) (fun u t => HL loc n g ao u t.heap) (AL loc ao)) (rmL 10 8 48).cells (rmL 10 8 48).slots (AL loc ao) := by
  refine h_enter (by decide) (Nat.le_of_ble_eq_true rfl) ?_
  intro p e s m below meth c ls S hr hlocks htb hC hl
  refine lv_aload S.1 S.2.1 dL_set_0 (lv_at hl 4 rfl) ?_
  refine lv_iconst (v := nI 0) S.1 S.2.1 dL_set_2 rfl ?_
  refine lv_aload_n S.1 S.2.1 dL_set_3 rfl (lv_at hl 0 rfl) ?_
  refine lv_iload_n S.1 S.2.1 dL_set_4 rfl (lv_at hl 1 rfl) ?_
  refine lv_iload_n S.1 S.2.1 dL_set_5 rfl (lv_at hl 2 rfl) ?_
  refine lv_iload_n S.1 S.2.1 dL_set_6 rfl (lv_at hl 3 rfl) ?_
  refine vx_calli (vx_runV (As := [.int x, .int a, .int b]) (rest := [.int (nI 0), .ref ao]) S (c_X0_set l hs0 hn hR hrel ht12 ht0 x a b) (cwV 3 S.2.2.2.2 (vw_good cw_RL_X0_set) rfl rfl rfl ⟨rfl, cw_RL_X0_set.2⟩ ⟨by decide, by decide⟩) (l_pre rfl hC) rfl rfl hl.1 rfl (lv_room (Nat.le_of_ble_eq_true rfl)) dL_set_7 ⟨(Nat.le_of_ble_eq_true rfl), (Nat.le_of_ble_eq_true rfl)⟩) hC.2.2 (fun q _ h => Or.inl h) (fun q h => Or.inl h) (fun q _ h => Or.inl h) (fun E ce q9 u t H1 locs1 ht hvm _ hB hz hk hS h1 h2 h3 => ?_) (fun v u t H1 locs1 ht hvm hp hB hz hk hS => ?_)
  · obtain ⟨hX, hB⟩ := hB
    have hCx : CL loc n g ao (S0, o) s H1 locs1 := l_back hC (by rw [← ht]; exact hB) hk hS
    rcases (show E = iaeS ∨ E = iseS from (by unfold settW at hX; exact (fun h => opt2 h (fun h => opt2 h (fun h => opt2 h (fun h => opt2' h (fun h => opt2 h (fun h => opt2 h (fun h => opt2 h optN))))))) hX)) with hE | hE
    · subst hE
      refine vx_catch (name := iaeS) S.2.2.2.1 [] (⟨0, 12, 15, 13⟩ : ExceptionTableEntry) [(⟨0, 12, 19, 15⟩ : ExceptionTableEntry)] htb (fun z hz => nomatch hz) (by decide) (by decide) (S.2.2.2.2 _ w_339) (va_Nw.use (nw_tab (by decide)) (hC.1.1.2.1.1 _ (show Cond.castable iaeS iaeS ∈ xwN by decide))) h1 h2 h3 ?_
      refine lv_astore S.1 S.2.1 dL_set_15 hl (by decide) rfl (fun ls hl => ?_)
      refine lv_iconst (v := nI 1) S.1 S.2.1 dL_set_17 rfl ?_
      exact o_iret (S0 := (S0, o)) S hr hlocks hCx (Or.inr (Or.inl ⟨rfl, rfl, rfl, hX⟩)) rfl dL_set_18 (Nat.le_of_ble_eq_true rfl) (Nat.le_of_ble_eq_true rfl)
    · subst hE
      refine vx_catch (name := iseS) S.2.2.2.1 [(⟨0, 12, 15, 13⟩ : ExceptionTableEntry)] (⟨0, 12, 19, 15⟩ : ExceptionTableEntry) [] htb (fun z hz => Or.inr ⟨by rw [List.mem_singleton.mp hz]; decide, iaeS, by rw [List.mem_singleton.mp hz]; exact S.2.2.2.2 _ w_339, hC.1.2.2.1⟩) (by decide) (by decide) (S.2.2.2.2 _ w_340) (va_Nw.use (nw_tab (by decide)) (hC.1.1.2.1.1 _ (show Cond.castable iseS iseS ∈ xwN by decide))) h1 h2 h3 ?_
      refine lv_astore S.1 S.2.1 dL_set_19 hl (by decide) rfl (fun ls hl => ?_)
      refine lv_iconst (v := nI 2) S.1 S.2.1 dL_set_21 rfl ?_
      exact o_iret (S0 := (S0, o)) S hr hlocks hCx (Or.inr (Or.inr ⟨rfl, rfl, rfl, hX⟩)) rfl dL_set_22 (Nat.le_of_ble_eq_true rfl) (Nat.le_of_ble_eq_true rfl)
  · have hCx : CL loc n g ao (u, o) s H1 locs1 := l_back hC (by rw [← ht]; exact hB) hk hS
    refine lv_i2l S.1 S.2.1 dL_set_10 rfl ?_
    refine l_last S hCx dL_set_11 (fun H locs hCx => ?_)
    refine lv_goto (tgt := 23) S.1 S.2.1 dL_set_12 (by decide) ?_
    refine lv_iconst (v := nI 0) S.1 S.2.1 dL_set_23 rfl ?_
    exact o_iret S hr hlocks hCx (Or.inl ⟨rfl, v, rfl, hp⟩) rfl dL_set_24 (Nat.le_of_ble_eq_true rfl) (Nat.le_of_ble_eq_true rfl)
set_option maxRecDepth 100000 in
set_option maxHeartbeats 4000000 in
theorem c_L_drop (l : Launch) (hs0 : l.stackTraces = false) {loc : Nat → Nat} {n : Nat} {g : Gc} (hn : n ≤ 40) {ao : Nat} {S0 : RS} {o : Int64} {R : Nat} (hR : R ≤ 12) (hrel : S0.1 0 = nI R) {t : Nat} (ht12 : t ≤ 12) (ht0 : S0.1 1 = nI t) (x a b : Int32) : Met l yL_drop (wsH yL_drop cL_drop 6 (some .int) [(0, 19, 22, 13), (0, 19, 26, 15)]) (rmL 10 8 48) (PcO (HL loc n g ao) (EvL loc g ao) (S0, o) [.ref (loc 0), .int x, .int a, .int b, .ref ao]) (va_Qi (fun (kq : Int32) (u : RS × Int64) => (kq = nI 0 ∧ ∃ v, u.2 = (if v = 0 then (0 : Int64) else 1) ∧ (fun v S' => S' = dropC S0 n t (ixN x) (ixN a) (ixN b) ∧ settW S0 n x a b = none ∧ v = bI (dropB S0 (ixN x) (ixN a) (ixN b))) v u.1) ∨ (kq = nI 1 ∧ u.2 = o ∧ (u.1 = S0 ∧ (fun E => settW S0 n x a b = some E) iaeS)) ∨ (kq = nI 2 ∧ u.2 = o ∧ (u.1 = S0 ∧ (fun E => settW S0 n x a b = some E) iseS))) (fun u t => HL loc n g ao u t.heap) (AL loc ao)) (rmL 10 8 48).cells (rmL 10 8 48).slots (AL loc ao) := by
  refine h_enter (by decide) (Nat.le_of_ble_eq_true rfl) ?_
  intro p e s m below meth c ls S hr hlocks htb hC hl
  refine lv_aload S.1 S.2.1 dL_drop_0 (lv_at hl 4 rfl) ?_
  refine lv_iconst (v := nI 0) S.1 S.2.1 dL_drop_2 rfl ?_
  refine lv_aload_n S.1 S.2.1 dL_drop_3 rfl (lv_at hl 0 rfl) ?_
  refine lv_iload_n S.1 S.2.1 dL_drop_4 rfl (lv_at hl 1 rfl) ?_
  refine lv_iload_n S.1 S.2.1 dL_drop_5 rfl (lv_at hl 2 rfl) ?_
  refine lv_iload_n S.1 S.2.1 dL_drop_6 rfl (lv_at hl 3 rfl) ?_
  refine vx_calli (vx_runV (As := [.int x, .int a, .int b]) (rest := [.int (nI 0), .ref ao]) S (c_X0_drop l hs0 hn hR hrel ht12 ht0 x a b) (cwV 3 S.2.2.2.2 (vw_good cw_RL_X0_drop) rfl rfl rfl ⟨rfl, cw_RL_X0_drop.2⟩ ⟨by decide, by decide⟩) (l_pre rfl hC) rfl rfl hl.1 rfl (lv_room (Nat.le_of_ble_eq_true rfl)) dL_drop_7 ⟨(Nat.le_of_ble_eq_true rfl), (Nat.le_of_ble_eq_true rfl)⟩) hC.2.2 (fun q _ h => Or.inl h) (fun q h => Or.inl h) (fun q _ h => Or.inl h) (fun E ce q9 u t H1 locs1 ht hvm _ hB hz hk hS h1 h2 h3 => ?_) (fun v u t H1 locs1 ht hvm hp hB hz hk hS => ?_)
  · obtain ⟨hX, hB⟩ := hB
    have hCx : CL loc n g ao (S0, o) s H1 locs1 := l_back hC (by rw [← ht]; exact hB) hk hS
    rcases (show E = iaeS ∨ E = iseS from (by unfold settW at hX; exact (fun h => opt2 h (fun h => opt2 h (fun h => opt2 h (fun h => opt2' h (fun h => opt2 h (fun h => opt2 h (fun h => opt2 h optN))))))) hX)) with hE | hE
    · subst hE
      refine vx_catch (name := iaeS) S.2.2.2.1 [] (⟨0, 19, 22, 13⟩ : ExceptionTableEntry) [(⟨0, 19, 26, 15⟩ : ExceptionTableEntry)] htb (fun z hz => nomatch hz) (by decide) (by decide) (S.2.2.2.2 _ w_339) (va_Nw.use (nw_tab (by decide)) (hC.1.1.2.1.1 _ (show Cond.castable iaeS iaeS ∈ xwN by decide))) h1 h2 h3 ?_
      refine lv_astore S.1 S.2.1 dL_drop_22 hl (by decide) rfl (fun ls hl => ?_)
      refine lv_iconst (v := nI 1) S.1 S.2.1 dL_drop_24 rfl ?_
      exact o_iret (S0 := (S0, o)) S hr hlocks hCx (Or.inr (Or.inl ⟨rfl, rfl, rfl, hX⟩)) rfl dL_drop_25 (Nat.le_of_ble_eq_true rfl) (Nat.le_of_ble_eq_true rfl)
    · subst hE
      refine vx_catch (name := iseS) S.2.2.2.1 [(⟨0, 19, 22, 13⟩ : ExceptionTableEntry)] (⟨0, 19, 26, 15⟩ : ExceptionTableEntry) [] htb (fun z hz => Or.inr ⟨by rw [List.mem_singleton.mp hz]; decide, iaeS, by rw [List.mem_singleton.mp hz]; exact S.2.2.2.2 _ w_339, hC.1.2.2.1⟩) (by decide) (by decide) (S.2.2.2.2 _ w_340) (va_Nw.use (nw_tab (by decide)) (hC.1.1.2.1.1 _ (show Cond.castable iseS iseS ∈ xwN by decide))) h1 h2 h3 ?_
      refine lv_astore S.1 S.2.1 dL_drop_26 hl (by decide) rfl (fun ls hl => ?_)
      refine lv_iconst (v := nI 2) S.1 S.2.1 dL_drop_28 rfl ?_
      exact o_iret (S0 := (S0, o)) S hr hlocks hCx (Or.inr (Or.inr ⟨rfl, rfl, rfl, hX⟩)) rfl dL_drop_29 (Nat.le_of_ble_eq_true rfl) (Nat.le_of_ble_eq_true rfl)
  · have hCx : CL loc n g ao (u, o) s H1 locs1 := l_back hC (by rw [← ht]; exact hB) hk hS
    refine lv_if_eq (tgt := 17) S.1 S.2.1 dL_drop_10 (by decide) (fun cv => ?_) (fun cv => ?_)
    · skip
      refine lv_lconst (v := 0) S.1 S.2.1 dL_drop_17 rfl ?_
      refine l_last S hCx dL_drop_18 (fun H locs hCx => ?_)
      refine lv_goto (tgt := 30) S.1 S.2.1 dL_drop_19 (by decide) ?_
      refine lv_iconst (v := nI 0) S.1 S.2.1 dL_drop_30 rfl ?_
      exact o_iret S hr hlocks hCx (Or.inl ⟨rfl, v, (by rw [if_pos cv]), hp⟩) rfl dL_drop_31 (Nat.le_of_ble_eq_true rfl) (Nat.le_of_ble_eq_true rfl)
    · skip
      refine lv_lconst (v := 1) S.1 S.2.1 dL_drop_13 rfl ?_
      refine lv_goto (tgt := 18) S.1 S.2.1 dL_drop_14 (by decide) ?_
      refine l_last S hCx dL_drop_18 (fun H locs hCx => ?_)
      refine lv_goto (tgt := 30) S.1 S.2.1 dL_drop_19 (by decide) ?_
      refine lv_iconst (v := nI 0) S.1 S.2.1 dL_drop_30 rfl ?_
      exact o_iret S hr hlocks hCx (Or.inl ⟨rfl, v, (by rw [if_neg cv]), hp⟩) rfl dL_drop_31 (Nat.le_of_ble_eq_true rfl) (Nat.le_of_ble_eq_true rfl)
set_option maxRecDepth 100000 in
set_option maxHeartbeats 4000000 in
theorem c_L_empty (l : Launch) (hs0 : l.stackTraces = false) {loc : Nat → Nat} {n : Nat} {g : Gc} (hn : n ≤ 40) {ao : Nat} {S0 : RS} {o : Int64} {R : Nat} (hR : R ≤ 12) (hrel : S0.1 0 = nI R) {t : Nat} (ht12 : t ≤ 12) (ht0 : S0.1 1 = nI t) (x : Int32) : Met l yL_empty (wsH yL_empty cL_empty 4 (some .int) [(0, 9, 12, 13), (0, 9, 15, 15)]) (rmL 10 8 48) (PcO (HL loc n g ao) (EvL loc g ao) (S0, o) [.ref (loc 0), .int x, .ref ao]) (va_Qi (fun (kq : Int32) (u : RS × Int64) => (kq = nI 0 ∧ ∃ v, u.2 = v.toInt64 ∧ (fun v S' => S' = emptC S0 n t (ixN x) ∧ emptW S0 x = none ∧ v = pairsF S0 (ixN x) n - pairsF S' (ixN x) n) v u.1) ∨ (kq = nI 1 ∧ u.2 = o ∧ (u.1 = S0 ∧ (fun E => emptW S0 x = some E) iaeS)) ∨ (kq = nI 2 ∧ u.2 = o ∧ (u.1 = S0 ∧ (fun E => emptW S0 x = some E) iseS))) (fun u t => HL loc n g ao u t.heap) (AL loc ao)) (rmL 10 8 48).cells (rmL 10 8 48).slots (AL loc ao) := by
  refine h_enter (by decide) (Nat.le_of_ble_eq_true rfl) ?_
  intro p e s m below meth c ls S hr hlocks htb hC hl
  refine lv_aload_n S.1 S.2.1 dL_empty_0 rfl (lv_at hl 2 rfl) ?_
  refine lv_iconst (v := nI 0) S.1 S.2.1 dL_empty_1 rfl ?_
  refine lv_aload_n S.1 S.2.1 dL_empty_2 rfl (lv_at hl 0 rfl) ?_
  refine lv_iload_n S.1 S.2.1 dL_empty_3 rfl (lv_at hl 1 rfl) ?_
  refine vx_calli (vx_runV (As := [.int x]) (rest := [.int (nI 0), .ref ao]) S (c_X0_empty l hs0 hn hR hrel ht12 ht0 x) (cwV 1 S.2.2.2.2 (vw_good cw_RL_X0_empty) rfl rfl rfl ⟨rfl, cw_RL_X0_empty.2⟩ ⟨by decide, by decide⟩) (l_pre rfl hC) rfl rfl hl.1 rfl (lv_room (Nat.le_of_ble_eq_true rfl)) dL_empty_4 ⟨(Nat.le_of_ble_eq_true rfl), (Nat.le_of_ble_eq_true rfl)⟩) hC.2.2 (fun q _ h => Or.inl h) (fun q h => Or.inl h) (fun q _ h => Or.inl h) (fun E ce q9 u t H1 locs1 ht hvm _ hB hz hk hS h1 h2 h3 => ?_) (fun v u t H1 locs1 ht hvm hp hB hz hk hS => ?_)
  · obtain ⟨hX, hB⟩ := hB
    have hCx : CL loc n g ao (S0, o) s H1 locs1 := l_back hC (by rw [← ht]; exact hB) hk hS
    rcases (show E = iaeS ∨ E = iseS from (by unfold emptW at hX; exact (fun h => opt2 h (fun h => opt2' h optN)) hX)) with hE | hE
    · subst hE
      refine vx_catch (name := iaeS) S.2.2.2.1 [] (⟨0, 9, 12, 13⟩ : ExceptionTableEntry) [(⟨0, 9, 15, 15⟩ : ExceptionTableEntry)] htb (fun z hz => nomatch hz) (by decide) (by decide) (S.2.2.2.2 _ w_339) (va_Nw.use (nw_tab (by decide)) (hC.1.1.2.1.1 _ (show Cond.castable iaeS iaeS ∈ xwN by decide))) h1 h2 h3 ?_
      refine lv_astore_n S.1 S.2.1 dL_empty_12 rfl hl (by decide) rfl (fun ls hl => ?_)
      refine lv_iconst (v := nI 1) S.1 S.2.1 dL_empty_13 rfl ?_
      exact o_iret (S0 := (S0, o)) S hr hlocks hCx (Or.inr (Or.inl ⟨rfl, rfl, rfl, hX⟩)) rfl dL_empty_14 (Nat.le_of_ble_eq_true rfl) (Nat.le_of_ble_eq_true rfl)
    · subst hE
      refine vx_catch (name := iseS) S.2.2.2.1 [(⟨0, 9, 12, 13⟩ : ExceptionTableEntry)] (⟨0, 9, 15, 15⟩ : ExceptionTableEntry) [] htb (fun z hz => Or.inr ⟨by rw [List.mem_singleton.mp hz]; decide, iaeS, by rw [List.mem_singleton.mp hz]; exact S.2.2.2.2 _ w_339, hC.1.2.2.1⟩) (by decide) (by decide) (S.2.2.2.2 _ w_340) (va_Nw.use (nw_tab (by decide)) (hC.1.1.2.1.1 _ (show Cond.castable iseS iseS ∈ xwN by decide))) h1 h2 h3 ?_
      refine lv_astore_n S.1 S.2.1 dL_empty_15 rfl hl (by decide) rfl (fun ls hl => ?_)
      refine lv_iconst (v := nI 2) S.1 S.2.1 dL_empty_16 rfl ?_
      exact o_iret (S0 := (S0, o)) S hr hlocks hCx (Or.inr (Or.inr ⟨rfl, rfl, rfl, hX⟩)) rfl dL_empty_17 (Nat.le_of_ble_eq_true rfl) (Nat.le_of_ble_eq_true rfl)
  · have hCx : CL loc n g ao (u, o) s H1 locs1 := l_back hC (by rw [← ht]; exact hB) hk hS
    refine lv_i2l S.1 S.2.1 dL_empty_7 rfl ?_
    refine l_last S hCx dL_empty_8 (fun H locs hCx => ?_)
    refine lv_goto (tgt := 18) S.1 S.2.1 dL_empty_9 (by decide) ?_
    refine lv_iconst (v := nI 0) S.1 S.2.1 dL_empty_18 rfl ?_
    exact o_iret S hr hlocks hCx (Or.inl ⟨rfl, v, rfl, hp⟩) rfl dL_empty_19 (Nat.le_of_ble_eq_true rfl) (Nat.le_of_ble_eq_true rfl)
set_option maxRecDepth 100000 in
set_option maxHeartbeats 4000000 in
theorem c_L_pushed (l : Launch) (hs0 : l.stackTraces = false) {loc : Nat → Nat} {n : Nat} {g : Gc} (hn : n ≤ 40) {ao : Nat} {S0 : RS} {o : Int64} {q : Nat} (hq : q ≤ 2) (hpc : S0.1 2 = nI q) (i w : Int32) : Met l yL_pushed (wsH yL_pushed cL_pushed 5 (some .int) [(0, 10, 13, 13), (0, 10, 17, 38)]) (rmL 10 8 48) (PcO (HL loc n g ao) (EvL loc g ao) (S0, o) [.ref (loc 0), .int i, .int w, .ref ao]) (va_Qi (fun (kq : Int32) (u : RS × Int64) => (kq = nI 0 ∧ ∃ v, u.2 = v.toInt64 ∧ (fun v S' => S' = S0 ∧ pushW S0 i w = none ∧ v = (if w = 0 then S0.2.1 5 (ixN i) else S0.2.1 6 (ixN i))) v u.1) ∨ (kq = nI 1 ∧ u.2 = o ∧ (u.1 = S0 ∧ (fun E => pushW S0 i w = some E) iaeS)) ∨ (kq = nI 2 ∧ u.2 = o ∧ (u.1 = S0 ∧ (fun E => pushW S0 i w = some E) nseS))) (fun u t => HL loc n g ao u t.heap) (AL loc ao)) (rmL 10 8 48).cells (rmL 10 8 48).slots (AL loc ao) := by
  refine h_enter (by decide) (Nat.le_of_ble_eq_true rfl) ?_
  intro p e s m below meth c ls S hr hlocks htb hC hl
  refine lv_aload_n S.1 S.2.1 dL_pushed_0 rfl (lv_at hl 3 rfl) ?_
  refine lv_iconst (v := nI 0) S.1 S.2.1 dL_pushed_1 rfl ?_
  refine lv_aload_n S.1 S.2.1 dL_pushed_2 rfl (lv_at hl 0 rfl) ?_
  refine lv_iload_n S.1 S.2.1 dL_pushed_3 rfl (lv_at hl 1 rfl) ?_
  refine lv_iload_n S.1 S.2.1 dL_pushed_4 rfl (lv_at hl 2 rfl) ?_
  refine vx_calli (vx_runV (As := [.int i, .int w]) (rest := [.int (nI 0), .ref ao]) S (c_X0_pushed l hs0 hn hq hpc i w) (cwV 2 S.2.2.2.2 (vw_good cw_RL_X0_pushed) rfl rfl rfl ⟨rfl, cw_RL_X0_pushed.2⟩ ⟨by decide, by decide⟩) (l_pre rfl hC) rfl rfl hl.1 rfl (lv_room (Nat.le_of_ble_eq_true rfl)) dL_pushed_5 ⟨(Nat.le_of_ble_eq_true rfl), (Nat.le_of_ble_eq_true rfl)⟩) hC.2.2 (fun q _ h => Or.inl h) (fun q h => Or.inl h) (fun q _ h => Or.inl h) (fun E ce q9 u t H1 locs1 ht hvm _ hB hz hk hS h1 h2 h3 => ?_) (fun v u t H1 locs1 ht hvm hp hB hz hk hS => ?_)
  · obtain ⟨hX, hB⟩ := hB
    have hCx : CL loc n g ao (S0, o) s H1 locs1 := l_back hC (by rw [← ht]; exact hB) hk hS
    rcases (show E = iaeS ∨ E = nseS from (by unfold pushW at hX; exact (fun h => opt2 h (fun h => opt2' h optN)) hX)) with hE | hE
    · subst hE
      refine vx_catch (name := iaeS) S.2.2.2.1 [] (⟨0, 10, 13, 13⟩ : ExceptionTableEntry) [(⟨0, 10, 17, 38⟩ : ExceptionTableEntry)] htb (fun z hz => nomatch hz) (by decide) (by decide) (S.2.2.2.2 _ w_339) (va_Nw.use (nw_tab (by decide)) (hC.1.1.2.1.1 _ (show Cond.castable iaeS iaeS ∈ xwN by decide))) h1 h2 h3 ?_
      refine lv_astore S.1 S.2.1 dL_pushed_13 hl (by decide) rfl (fun ls hl => ?_)
      refine lv_iconst (v := nI 1) S.1 S.2.1 dL_pushed_15 rfl ?_
      exact o_iret (S0 := (S0, o)) S hr hlocks hCx (Or.inr (Or.inl ⟨rfl, rfl, rfl, hX⟩)) rfl dL_pushed_16 (Nat.le_of_ble_eq_true rfl) (Nat.le_of_ble_eq_true rfl)
    · subst hE
      refine vx_catch (name := nseS) S.2.2.2.1 [(⟨0, 10, 13, 13⟩ : ExceptionTableEntry)] (⟨0, 10, 17, 38⟩ : ExceptionTableEntry) [] htb (fun z hz => Or.inr ⟨by rw [List.mem_singleton.mp hz]; decide, iaeS, by rw [List.mem_singleton.mp hz]; exact S.2.2.2.2 _ w_339, hC.1.2.2.2⟩) (by decide) (by decide) (S.2.2.2.2 _ w_365) (va_Nw.use (nw_tab (by decide)) (hC.1.1.2.1.1 _ (show Cond.castable nseS nseS ∈ xwN by decide))) h1 h2 h3 ?_
      refine lv_astore S.1 S.2.1 dL_pushed_17 hl (by decide) rfl (fun ls hl => ?_)
      refine lv_iconst (v := nI 2) S.1 S.2.1 dL_pushed_19 rfl ?_
      exact o_iret (S0 := (S0, o)) S hr hlocks hCx (Or.inr (Or.inr ⟨rfl, rfl, rfl, hX⟩)) rfl dL_pushed_20 (Nat.le_of_ble_eq_true rfl) (Nat.le_of_ble_eq_true rfl)
  · have hCx : CL loc n g ao (u, o) s H1 locs1 := l_back hC (by rw [← ht]; exact hB) hk hS
    refine lv_i2l S.1 S.2.1 dL_pushed_8 rfl ?_
    refine l_last S hCx dL_pushed_9 (fun H locs hCx => ?_)
    refine lv_goto (tgt := 21) S.1 S.2.1 dL_pushed_10 (by decide) ?_
    refine lv_iconst (v := nI 0) S.1 S.2.1 dL_pushed_21 rfl ?_
    exact o_iret S hr hlocks hCx (Or.inl ⟨rfl, v, rfl, hp⟩) rfl dL_pushed_22 (Nat.le_of_ble_eq_true rfl) (Nat.le_of_ble_eq_true rfl)
set_option maxRecDepth 100000 in
set_option maxHeartbeats 4000000 in
theorem c_L_has (l : Launch) (hs0 : l.stackTraces = false) {loc : Nat → Nat} {n : Nat} {g : Gc} (hn : n ≤ 40) {ao : Nat} {S0 : RS} {o : Int64} {R : Nat} (hR : R ≤ 12) (hrel : S0.1 0 = nI R) {t : Nat} (ht12 : t ≤ 12) (ht0 : S0.1 1 = nI t) (hw : ∀ q, q < R → byC S0 q = true → wfR S0 q) (x a b : Int32) : Met l yL_has (wsH yL_has cL_has 6 (some .int) [(0, 19, 22, 13)]) (rmL 10 8 48) (PcO (HL loc n g ao) (EvL loc g ao) (S0, o) [.ref (loc 0), .int x, .int a, .int b, .ref ao]) (va_Qi (fun (kq : Int32) (u : RS × Int64) => (kq = nI 0 ∧ ∃ v, u.2 = (if v = 0 then (0 : Int64) else 1) ∧ (fun v S' => S' = stlF S0 n t (ixN x) ∧ rabW S0 n x a b = none ∧ v = bI (hX S' (ixN x) (ixN a) (ixN b))) v u.1) ∨ (kq = nI 1 ∧ u.2 = o ∧ (u.1 = S0 ∧ (fun E => rabW S0 n x a b = some E) iaeS))) (fun u t => HL loc n g ao u t.heap) (AL loc ao)) (rmL 10 8 48).cells (rmL 10 8 48).slots (AL loc ao) := by
  refine h_enter (by decide) (Nat.le_of_ble_eq_true rfl) ?_
  intro p e s m below meth c ls S hr hlocks htb hC hl
  refine lv_aload S.1 S.2.1 dL_has_0 (lv_at hl 4 rfl) ?_
  refine lv_iconst (v := nI 0) S.1 S.2.1 dL_has_2 rfl ?_
  refine lv_aload_n S.1 S.2.1 dL_has_3 rfl (lv_at hl 0 rfl) ?_
  refine lv_iload_n S.1 S.2.1 dL_has_4 rfl (lv_at hl 1 rfl) ?_
  refine lv_iload_n S.1 S.2.1 dL_has_5 rfl (lv_at hl 2 rfl) ?_
  refine lv_iload_n S.1 S.2.1 dL_has_6 rfl (lv_at hl 3 rfl) ?_
  refine vx_calli (vx_runV (As := [.int x, .int a, .int b]) (rest := [.int (nI 0), .ref ao]) S (c_X0_has l hs0 hn hR hrel ht12 ht0 hw x a b) (cwV 3 S.2.2.2.2 (vw_good cw_RL_X0_has) rfl rfl rfl ⟨rfl, cw_RL_X0_has.2⟩ ⟨by decide, by decide⟩) (l_pre rfl hC) rfl rfl hl.1 rfl (lv_room (Nat.le_of_ble_eq_true rfl)) dL_has_7 ⟨(Nat.le_of_ble_eq_true rfl), (Nat.le_of_ble_eq_true rfl)⟩) hC.2.2 (fun q _ h => Or.inl h) (fun q h => Or.inl h) (fun q _ h => Or.inl h) (fun E ce q9 u t H1 locs1 ht hvm _ hB hz hk hS h1 h2 h3 => ?_) (fun v u t H1 locs1 ht hvm hp hB hz hk hS => ?_)
  · obtain ⟨hX, hB⟩ := hB
    have hCx : CL loc n g ao (S0, o) s H1 locs1 := l_back hC (by rw [← ht]; exact hB) hk hS
    have hE : E = iaeS := (by unfold rabW at hX; exact (fun h => opt1 h (fun h => opt1 h (fun h => opt1 h optN))) hX)
    subst hE
    refine vx_catch (name := iaeS) S.2.2.2.1 [] (⟨0, 19, 22, 13⟩ : ExceptionTableEntry) [] htb (fun z hz => nomatch hz) (by decide) (by decide) (S.2.2.2.2 _ w_339) (va_Nw.use (nw_tab (by decide)) (hC.1.1.2.1.1 _ (show Cond.castable iaeS iaeS ∈ xwN by decide))) h1 h2 h3 ?_
    refine lv_astore S.1 S.2.1 dL_has_22 hl (by decide) rfl (fun ls hl => ?_)
    refine lv_iconst (v := nI 1) S.1 S.2.1 dL_has_24 rfl ?_
    exact o_iret (S0 := (S0, o)) S hr hlocks hCx (Or.inr ⟨rfl, rfl, rfl, hX⟩) rfl dL_has_25 (Nat.le_of_ble_eq_true rfl) (Nat.le_of_ble_eq_true rfl)
  · have hCx : CL loc n g ao (u, o) s H1 locs1 := l_back hC (by rw [← ht]; exact hB) hk hS
    refine lv_if_eq (tgt := 17) S.1 S.2.1 dL_has_10 (by decide) (fun cv => ?_) (fun cv => ?_)
    · skip
      refine lv_lconst (v := 0) S.1 S.2.1 dL_has_17 rfl ?_
      refine l_last S hCx dL_has_18 (fun H locs hCx => ?_)
      refine lv_goto (tgt := 26) S.1 S.2.1 dL_has_19 (by decide) ?_
      refine lv_iconst (v := nI 0) S.1 S.2.1 dL_has_26 rfl ?_
      exact o_iret S hr hlocks hCx (Or.inl ⟨rfl, v, (by rw [if_pos cv]), hp⟩) rfl dL_has_27 (Nat.le_of_ble_eq_true rfl) (Nat.le_of_ble_eq_true rfl)
    · skip
      refine lv_lconst (v := 1) S.1 S.2.1 dL_has_13 rfl ?_
      refine lv_goto (tgt := 18) S.1 S.2.1 dL_has_14 (by decide) ?_
      refine l_last S hCx dL_has_18 (fun H locs hCx => ?_)
      refine lv_goto (tgt := 26) S.1 S.2.1 dL_has_19 (by decide) ?_
      refine lv_iconst (v := nI 0) S.1 S.2.1 dL_has_26 rfl ?_
      exact o_iret S hr hlocks hCx (Or.inl ⟨rfl, v, (by rw [if_neg cv]), hp⟩) rfl dL_has_27 (Nat.le_of_ble_eq_true rfl) (Nat.le_of_ble_eq_true rfl)
set_option maxRecDepth 100000 in
set_option maxHeartbeats 4000000 in
theorem c_L_next (l : Launch) (hs0 : l.stackTraces = false) {loc : Nat → Nat} {n : Nat} {g : Gc} (hn : n ≤ 40) {ao : Nat} {S0 : RS} {o : Int64} {R : Nat} (hR : R ≤ 12) (hrel : S0.1 0 = nI R) {t : Nat} (ht12 : t ≤ 12) (ht0 : S0.1 1 = nI t) (hw : ∀ q, q < R → byC S0 q = true → wfR S0 q) (x a i : Int32) : Met l yL_next (wsH yL_next cL_next 6 (some .int) [(0, 12, 15, 13), (0, 12, 19, 38)]) (rmL 10 8 48) (PcO (HL loc n g ao) (EvL loc g ao) (S0, o) [.ref (loc 0), .int x, .int a, .int i, .ref ao]) (va_Qi (fun (kq : Int32) (u : RS × Int64) => (kq = nI 0 ∧ ∃ v, u.2 = v.toInt64 ∧ (fun v S' => S' = stlF S0 n t (ixN x) ∧ raW S0 n x a = none ∧ pickW (S'.2.2 (ixN x) (ixN a)) i = true ∧ v = ntzL (lowF (S'.2.2 (ixN x) (ixN a)) (ixN i))) v u.1) ∨ (kq = nI 1 ∧ u.2 = o ∧ ((fun E u => (raW S0 n x a = some E ∧ u = S0) ∨ (raW S0 n x a = none ∧ E = nseS ∧ u = stlF S0 n t (ixN x) ∧ pickW (u.2.2 (ixN x) (ixN a)) i = false)) iaeS u.1)) ∨ (kq = nI 2 ∧ u.2 = o ∧ ((fun E u => (raW S0 n x a = some E ∧ u = S0) ∨ (raW S0 n x a = none ∧ E = nseS ∧ u = stlF S0 n t (ixN x) ∧ pickW (u.2.2 (ixN x) (ixN a)) i = false)) nseS u.1))) (fun u t => HL loc n g ao u t.heap) (AL loc ao)) (rmL 10 8 48).cells (rmL 10 8 48).slots (AL loc ao) := by
  refine h_enter (by decide) (Nat.le_of_ble_eq_true rfl) ?_
  intro p e s m below meth c ls S hr hlocks htb hC hl
  refine lv_aload S.1 S.2.1 dL_next_0 (lv_at hl 4 rfl) ?_
  refine lv_iconst (v := nI 0) S.1 S.2.1 dL_next_2 rfl ?_
  refine lv_aload_n S.1 S.2.1 dL_next_3 rfl (lv_at hl 0 rfl) ?_
  refine lv_iload_n S.1 S.2.1 dL_next_4 rfl (lv_at hl 1 rfl) ?_
  refine lv_iload_n S.1 S.2.1 dL_next_5 rfl (lv_at hl 2 rfl) ?_
  refine lv_iload_n S.1 S.2.1 dL_next_6 rfl (lv_at hl 3 rfl) ?_
  refine vx_calli (vx_runV (As := [.int x, .int a, .int i]) (rest := [.int (nI 0), .ref ao]) S (c_X0_next l hs0 hn hR hrel ht12 ht0 hw x a i) (cwV 3 S.2.2.2.2 (vw_good cw_RL_X0_next) rfl rfl rfl ⟨rfl, cw_RL_X0_next.2⟩ ⟨by decide, by decide⟩) (l_pre rfl hC) rfl rfl hl.1 rfl (lv_room (Nat.le_of_ble_eq_true rfl)) dL_next_7 ⟨(Nat.le_of_ble_eq_true rfl), (Nat.le_of_ble_eq_true rfl)⟩) hC.2.2 (fun q _ h => Or.inl h) (fun q h => Or.inl h) (fun q _ h => Or.inl h) (fun E ce q9 u t H1 locs1 ht hvm _ hB hz hk hS h1 h2 h3 => ?_) (fun v u t H1 locs1 ht hvm hp hB hz hk hS => ?_)
  · obtain ⟨hX, hB⟩ := hB
    have hCx : CL loc n g ao (u, o) s H1 locs1 := l_back hC (by rw [← ht]; exact hB) hk hS
    rcases (show E = iaeS ∨ E = nseS from (by rcases hX with q | q; exact Or.inl (by have q := q.1; unfold raW at q; exact (fun h => opt1 h (fun h => opt1 h optN)) q); exact Or.inr q.2.1)) with hE | hE
    · subst hE
      refine vx_catch (name := iaeS) S.2.2.2.1 [] (⟨0, 12, 15, 13⟩ : ExceptionTableEntry) [(⟨0, 12, 19, 38⟩ : ExceptionTableEntry)] htb (fun z hz => nomatch hz) (by decide) (by decide) (S.2.2.2.2 _ w_339) (va_Nw.use (nw_tab (by decide)) (hC.1.1.2.1.1 _ (show Cond.castable iaeS iaeS ∈ xwN by decide))) h1 h2 h3 ?_
      refine lv_astore S.1 S.2.1 dL_next_15 hl (by decide) rfl (fun ls hl => ?_)
      refine lv_iconst (v := nI 1) S.1 S.2.1 dL_next_17 rfl ?_
      exact o_iret (S0 := (u, o)) S hr hlocks hCx (Or.inr (Or.inl ⟨rfl, rfl, hX⟩)) rfl dL_next_18 (Nat.le_of_ble_eq_true rfl) (Nat.le_of_ble_eq_true rfl)
    · subst hE
      refine vx_catch (name := nseS) S.2.2.2.1 [(⟨0, 12, 15, 13⟩ : ExceptionTableEntry)] (⟨0, 12, 19, 38⟩ : ExceptionTableEntry) [] htb (fun z hz => Or.inr ⟨by rw [List.mem_singleton.mp hz]; decide, iaeS, by rw [List.mem_singleton.mp hz]; exact S.2.2.2.2 _ w_339, hC.1.2.2.2⟩) (by decide) (by decide) (S.2.2.2.2 _ w_365) (va_Nw.use (nw_tab (by decide)) (hC.1.1.2.1.1 _ (show Cond.castable nseS nseS ∈ xwN by decide))) h1 h2 h3 ?_
      refine lv_astore S.1 S.2.1 dL_next_19 hl (by decide) rfl (fun ls hl => ?_)
      refine lv_iconst (v := nI 2) S.1 S.2.1 dL_next_21 rfl ?_
      exact o_iret (S0 := (u, o)) S hr hlocks hCx (Or.inr (Or.inr ⟨rfl, rfl, hX⟩)) rfl dL_next_22 (Nat.le_of_ble_eq_true rfl) (Nat.le_of_ble_eq_true rfl)
  · have hCx : CL loc n g ao (u, o) s H1 locs1 := l_back hC (by rw [← ht]; exact hB) hk hS
    refine lv_i2l S.1 S.2.1 dL_next_10 rfl ?_
    refine l_last S hCx dL_next_11 (fun H locs hCx => ?_)
    refine lv_goto (tgt := 23) S.1 S.2.1 dL_next_12 (by decide) ?_
    refine lv_iconst (v := nI 0) S.1 S.2.1 dL_next_23 rfl ?_
    exact o_iret S hr hlocks hCx (Or.inl ⟨rfl, v, rfl, hp⟩) rfl dL_next_24 (Nat.le_of_ble_eq_true rfl) (Nat.le_of_ble_eq_true rfl)
set_option maxRecDepth 100000 in
set_option maxHeartbeats 4000000 in
theorem c_L_back (l : Launch) (hs0 : l.stackTraces = false) {loc : Nat → Nat} {n : Nat} {g : Gc} (hn : n ≤ 40) {ao : Nat} {S0 : RS} {o : Int64} {R : Nat} (hR : R ≤ 12) (hrel : S0.1 0 = nI R) {t : Nat} (ht12 : t ≤ 12) (ht0 : S0.1 1 = nI t) (hw : ∀ q, q < R → byC S0 q = true → wfR S0 q) (x a i : Int32) : Met l yL_back (wsH yL_back cL_back 6 (some .int) [(0, 12, 15, 13), (0, 12, 19, 38)]) (rmL 10 8 48) (PcO (HL loc n g ao) (EvL loc g ao) (S0, o) [.ref (loc 0), .int x, .int a, .int i, .ref ao]) (va_Qi (fun (kq : Int32) (u : RS × Int64) => (kq = nI 0 ∧ ∃ v, u.2 = v.toInt64 ∧ (fun v S' => S' = stlF S0 n t (ixN x) ∧ raW S0 n x a = none ∧ pickW (colF S' (ixN x) (ixN a) n) i = true ∧ v = ntzL (lowF (colF S' (ixN x) (ixN a) n) (ixN i))) v u.1) ∨ (kq = nI 1 ∧ u.2 = o ∧ ((fun E u => (raW S0 n x a = some E ∧ u = S0) ∨ (raW S0 n x a = none ∧ E = nseS ∧ u = stlF S0 n t (ixN x) ∧ pickW (colF u (ixN x) (ixN a) n) i = false)) iaeS u.1)) ∨ (kq = nI 2 ∧ u.2 = o ∧ ((fun E u => (raW S0 n x a = some E ∧ u = S0) ∨ (raW S0 n x a = none ∧ E = nseS ∧ u = stlF S0 n t (ixN x) ∧ pickW (colF u (ixN x) (ixN a) n) i = false)) nseS u.1))) (fun u t => HL loc n g ao u t.heap) (AL loc ao)) (rmL 10 8 48).cells (rmL 10 8 48).slots (AL loc ao) := by
  refine h_enter (by decide) (Nat.le_of_ble_eq_true rfl) ?_
  intro p e s m below meth c ls S hr hlocks htb hC hl
  refine lv_aload S.1 S.2.1 dL_back_0 (lv_at hl 4 rfl) ?_
  refine lv_iconst (v := nI 0) S.1 S.2.1 dL_back_2 rfl ?_
  refine lv_aload_n S.1 S.2.1 dL_back_3 rfl (lv_at hl 0 rfl) ?_
  refine lv_iload_n S.1 S.2.1 dL_back_4 rfl (lv_at hl 1 rfl) ?_
  refine lv_iload_n S.1 S.2.1 dL_back_5 rfl (lv_at hl 2 rfl) ?_
  refine lv_iload_n S.1 S.2.1 dL_back_6 rfl (lv_at hl 3 rfl) ?_
  refine vx_calli (vx_runV (As := [.int x, .int a, .int i]) (rest := [.int (nI 0), .ref ao]) S (c_X0_back l hs0 hn hR hrel ht12 ht0 hw x a i) (cwV 3 S.2.2.2.2 (vw_good cw_RL_X0_back) rfl rfl rfl ⟨rfl, cw_RL_X0_back.2⟩ ⟨by decide, by decide⟩) (l_pre rfl hC) rfl rfl hl.1 rfl (lv_room (Nat.le_of_ble_eq_true rfl)) dL_back_7 ⟨(Nat.le_of_ble_eq_true rfl), (Nat.le_of_ble_eq_true rfl)⟩) hC.2.2 (fun q _ h => Or.inl h) (fun q h => Or.inl h) (fun q _ h => Or.inl h) (fun E ce q9 u t H1 locs1 ht hvm _ hB hz hk hS h1 h2 h3 => ?_) (fun v u t H1 locs1 ht hvm hp hB hz hk hS => ?_)
  · obtain ⟨hX, hB⟩ := hB
    have hCx : CL loc n g ao (u, o) s H1 locs1 := l_back hC (by rw [← ht]; exact hB) hk hS
    rcases (show E = iaeS ∨ E = nseS from (by rcases hX with q | q; exact Or.inl (by have q := q.1; unfold raW at q; exact (fun h => opt1 h (fun h => opt1 h optN)) q); exact Or.inr q.2.1)) with hE | hE
    · subst hE
      refine vx_catch (name := iaeS) S.2.2.2.1 [] (⟨0, 12, 15, 13⟩ : ExceptionTableEntry) [(⟨0, 12, 19, 38⟩ : ExceptionTableEntry)] htb (fun z hz => nomatch hz) (by decide) (by decide) (S.2.2.2.2 _ w_339) (va_Nw.use (nw_tab (by decide)) (hC.1.1.2.1.1 _ (show Cond.castable iaeS iaeS ∈ xwN by decide))) h1 h2 h3 ?_
      refine lv_astore S.1 S.2.1 dL_back_15 hl (by decide) rfl (fun ls hl => ?_)
      refine lv_iconst (v := nI 1) S.1 S.2.1 dL_back_17 rfl ?_
      exact o_iret (S0 := (u, o)) S hr hlocks hCx (Or.inr (Or.inl ⟨rfl, rfl, hX⟩)) rfl dL_back_18 (Nat.le_of_ble_eq_true rfl) (Nat.le_of_ble_eq_true rfl)
    · subst hE
      refine vx_catch (name := nseS) S.2.2.2.1 [(⟨0, 12, 15, 13⟩ : ExceptionTableEntry)] (⟨0, 12, 19, 38⟩ : ExceptionTableEntry) [] htb (fun z hz => Or.inr ⟨by rw [List.mem_singleton.mp hz]; decide, iaeS, by rw [List.mem_singleton.mp hz]; exact S.2.2.2.2 _ w_339, hC.1.2.2.2⟩) (by decide) (by decide) (S.2.2.2.2 _ w_365) (va_Nw.use (nw_tab (by decide)) (hC.1.1.2.1.1 _ (show Cond.castable nseS nseS ∈ xwN by decide))) h1 h2 h3 ?_
      refine lv_astore S.1 S.2.1 dL_back_19 hl (by decide) rfl (fun ls hl => ?_)
      refine lv_iconst (v := nI 2) S.1 S.2.1 dL_back_21 rfl ?_
      exact o_iret (S0 := (u, o)) S hr hlocks hCx (Or.inr (Or.inr ⟨rfl, rfl, hX⟩)) rfl dL_back_22 (Nat.le_of_ble_eq_true rfl) (Nat.le_of_ble_eq_true rfl)
  · have hCx : CL loc n g ao (u, o) s H1 locs1 := l_back hC (by rw [← ht]; exact hB) hk hS
    refine lv_i2l S.1 S.2.1 dL_back_10 rfl ?_
    refine l_last S hCx dL_back_11 (fun H locs hCx => ?_)
    refine lv_goto (tgt := 23) S.1 S.2.1 dL_back_12 (by decide) ?_
    refine lv_iconst (v := nI 0) S.1 S.2.1 dL_back_23 rfl ?_
    exact o_iret S hr hlocks hCx (Or.inl ⟨rfl, v, rfl, hp⟩) rfl dL_back_24 (Nat.le_of_ble_eq_true rfl) (Nat.le_of_ble_eq_true rfl)
set_option maxRecDepth 100000 in
set_option maxHeartbeats 4000000 in
theorem c_L_count (l : Launch) (hs0 : l.stackTraces = false) {loc : Nat → Nat} {n : Nat} {g : Gc} (hn : n ≤ 40) {ao : Nat} {S0 : RS} {o : Int64} {R : Nat} (hR : R ≤ 12) (hrel : S0.1 0 = nI R) {t : Nat} (ht12 : t ≤ 12) (ht0 : S0.1 1 = nI t) (hw : ∀ q, q < R → byC S0 q = true → wfR S0 q) (x : Int32) : Met l yL_count (wsH yL_count cL_count 4 (some .int) [(0, 9, 12, 13)]) (rmL 10 8 48) (PcO (HL loc n g ao) (EvL loc g ao) (S0, o) [.ref (loc 0), .int x, .ref ao]) (va_Qi (fun (kq : Int32) (u : RS × Int64) => (kq = nI 0 ∧ ∃ v, u.2 = v.toInt64 ∧ (fun v S' => S' = stlF S0 n t (ixN x) ∧ rW S0 x = none ∧ v = pairsF S' (ixN x) n) v u.1) ∨ (kq = nI 1 ∧ u.2 = o ∧ (u.1 = S0 ∧ (fun E => rW S0 x = some E) iaeS))) (fun u t => HL loc n g ao u t.heap) (AL loc ao)) (rmL 10 8 48).cells (rmL 10 8 48).slots (AL loc ao) := by
  refine h_enter (by decide) (Nat.le_of_ble_eq_true rfl) ?_
  intro p e s m below meth c ls S hr hlocks htb hC hl
  refine lv_aload_n S.1 S.2.1 dL_count_0 rfl (lv_at hl 2 rfl) ?_
  refine lv_iconst (v := nI 0) S.1 S.2.1 dL_count_1 rfl ?_
  refine lv_aload_n S.1 S.2.1 dL_count_2 rfl (lv_at hl 0 rfl) ?_
  refine lv_iload_n S.1 S.2.1 dL_count_3 rfl (lv_at hl 1 rfl) ?_
  refine vx_calli (vx_runV (As := [.int x]) (rest := [.int (nI 0), .ref ao]) S (c_X0_count l hs0 hn hR hrel ht12 ht0 hw x) (cwV 1 S.2.2.2.2 (vw_good cw_RL_X0_count) rfl rfl rfl ⟨rfl, cw_RL_X0_count.2⟩ ⟨by decide, by decide⟩) (l_pre rfl hC) rfl rfl hl.1 rfl (lv_room (Nat.le_of_ble_eq_true rfl)) dL_count_4 ⟨(Nat.le_of_ble_eq_true rfl), (Nat.le_of_ble_eq_true rfl)⟩) hC.2.2 (fun q _ h => Or.inl h) (fun q h => Or.inl h) (fun q _ h => Or.inl h) (fun E ce q9 u t H1 locs1 ht hvm _ hB hz hk hS h1 h2 h3 => ?_) (fun v u t H1 locs1 ht hvm hp hB hz hk hS => ?_)
  · obtain ⟨hX, hB⟩ := hB
    have hCx : CL loc n g ao (S0, o) s H1 locs1 := l_back hC (by rw [← ht]; exact hB) hk hS
    have hE : E = iaeS := (by unfold rW at hX; exact (fun h => opt1 h optN) hX)
    subst hE
    refine vx_catch (name := iaeS) S.2.2.2.1 [] (⟨0, 9, 12, 13⟩ : ExceptionTableEntry) [] htb (fun z hz => nomatch hz) (by decide) (by decide) (S.2.2.2.2 _ w_339) (va_Nw.use (nw_tab (by decide)) (hC.1.1.2.1.1 _ (show Cond.castable iaeS iaeS ∈ xwN by decide))) h1 h2 h3 ?_
    refine lv_astore_n S.1 S.2.1 dL_count_12 rfl hl (by decide) rfl (fun ls hl => ?_)
    refine lv_iconst (v := nI 1) S.1 S.2.1 dL_count_13 rfl ?_
    exact o_iret (S0 := (S0, o)) S hr hlocks hCx (Or.inr ⟨rfl, rfl, rfl, hX⟩) rfl dL_count_14 (Nat.le_of_ble_eq_true rfl) (Nat.le_of_ble_eq_true rfl)
  · have hCx : CL loc n g ao (u, o) s H1 locs1 := l_back hC (by rw [← ht]; exact hB) hk hS
    refine lv_i2l S.1 S.2.1 dL_count_7 rfl ?_
    refine l_last S hCx dL_count_8 (fun H locs hCx => ?_)
    refine lv_goto (tgt := 15) S.1 S.2.1 dL_count_9 (by decide) ?_
    refine lv_iconst (v := nI 0) S.1 S.2.1 dL_count_15 rfl ?_
    exact o_iret S hr hlocks hCx (Or.inl ⟨rfl, v, rfl, hp⟩) rfl dL_count_16 (Nat.le_of_ble_eq_true rfl) (Nat.le_of_ble_eq_true rfl)
set_option maxRecDepth 100000 in
set_option maxHeartbeats 4000000 in
theorem c_L_length (l : Launch) (hs0 : l.stackTraces = false) {loc : Nat → Nat} {n : Nat} {g : Gc} (hn : n ≤ 40) {ao : Nat} {S0 : RS} {o : Int64} {R : Nat} (hR : R ≤ 12) (hrel : S0.1 0 = nI R) {t : Nat} (ht12 : t ≤ 12) (ht0 : S0.1 1 = nI t) (hw : ∀ q, q < R → byC S0 q = true → wfR S0 q) (x a b : Int32) : Met l yL_length (wsH yL_length cL_length 6 (some .int) [(0, 12, 15, 13)]) (rmL 10 8 48) (PcO (HL loc n g ao) (EvL loc g ao) (S0, o) [.ref (loc 0), .int x, .int a, .int b, .ref ao]) (va_Qi (fun (kq : Int32) (u : RS × Int64) => (kq = nI 0 ∧ ∃ v, u.2 = v.toInt64 ∧ (fun v S' => S' = measF (stlF S0 n t (ixN x)) n (ixN x) (ixN b) ∧ rabW S0 n x a b = none ∧ v = S'.2.1 7 (ixN a)) v u.1) ∨ (kq = nI 1 ∧ u.2 = o ∧ (u.1 = S0 ∧ (fun E => rabW S0 n x a b = some E) iaeS))) (fun u t => HL loc n g ao u t.heap) (AL loc ao)) (rmL 10 8 48).cells (rmL 10 8 48).slots (AL loc ao) := by
  refine h_enter (by decide) (Nat.le_of_ble_eq_true rfl) ?_
  intro p e s m below meth c ls S hr hlocks htb hC hl
  refine lv_aload S.1 S.2.1 dL_length_0 (lv_at hl 4 rfl) ?_
  refine lv_iconst (v := nI 0) S.1 S.2.1 dL_length_2 rfl ?_
  refine lv_aload_n S.1 S.2.1 dL_length_3 rfl (lv_at hl 0 rfl) ?_
  refine lv_iload_n S.1 S.2.1 dL_length_4 rfl (lv_at hl 1 rfl) ?_
  refine lv_iload_n S.1 S.2.1 dL_length_5 rfl (lv_at hl 2 rfl) ?_
  refine lv_iload_n S.1 S.2.1 dL_length_6 rfl (lv_at hl 3 rfl) ?_
  refine vx_calli (vx_runV (As := [.int x, .int a, .int b]) (rest := [.int (nI 0), .ref ao]) S (c_X0_length l hs0 hn hR hrel ht12 ht0 hw x a b) (cwV 3 S.2.2.2.2 (vw_good cw_RL_X0_length) rfl rfl rfl ⟨rfl, cw_RL_X0_length.2⟩ ⟨by decide, by decide⟩) (l_pre rfl hC) rfl rfl hl.1 rfl (lv_room (Nat.le_of_ble_eq_true rfl)) dL_length_7 ⟨(Nat.le_of_ble_eq_true rfl), (Nat.le_of_ble_eq_true rfl)⟩) hC.2.2 (fun q _ h => Or.inl h) (fun q h => Or.inl h) (fun q _ h => Or.inl h) (fun E ce q9 u t H1 locs1 ht hvm _ hB hz hk hS h1 h2 h3 => ?_) (fun v u t H1 locs1 ht hvm hp hB hz hk hS => ?_)
  · obtain ⟨hX, hB⟩ := hB
    have hCx : CL loc n g ao (S0, o) s H1 locs1 := l_back hC (by rw [← ht]; exact hB) hk hS
    have hE : E = iaeS := (by unfold rabW at hX; exact (fun h => opt1 h (fun h => opt1 h (fun h => opt1 h optN))) hX)
    subst hE
    refine vx_catch (name := iaeS) S.2.2.2.1 [] (⟨0, 12, 15, 13⟩ : ExceptionTableEntry) [] htb (fun z hz => nomatch hz) (by decide) (by decide) (S.2.2.2.2 _ w_339) (va_Nw.use (nw_tab (by decide)) (hC.1.1.2.1.1 _ (show Cond.castable iaeS iaeS ∈ xwN by decide))) h1 h2 h3 ?_
    refine lv_astore S.1 S.2.1 dL_length_15 hl (by decide) rfl (fun ls hl => ?_)
    refine lv_iconst (v := nI 1) S.1 S.2.1 dL_length_17 rfl ?_
    exact o_iret (S0 := (S0, o)) S hr hlocks hCx (Or.inr ⟨rfl, rfl, rfl, hX⟩) rfl dL_length_18 (Nat.le_of_ble_eq_true rfl) (Nat.le_of_ble_eq_true rfl)
  · have hCx : CL loc n g ao (u, o) s H1 locs1 := l_back hC (by rw [← ht]; exact hB) hk hS
    refine lv_i2l S.1 S.2.1 dL_length_10 rfl ?_
    refine l_last S hCx dL_length_11 (fun H locs hCx => ?_)
    refine lv_goto (tgt := 19) S.1 S.2.1 dL_length_12 (by decide) ?_
    refine lv_iconst (v := nI 0) S.1 S.2.1 dL_length_19 rfl ?_
    exact o_iret S hr hlocks hCx (Or.inl ⟨rfl, v, rfl, hp⟩) rfl dL_length_20 (Nat.le_of_ble_eq_true rfl) (Nat.le_of_ble_eq_true rfl)
set_option maxRecDepth 100000 in
set_option maxHeartbeats 4000000 in
theorem c_L_route (l : Launch) (hs0 : l.stackTraces = false) {loc : Nat → Nat} {n : Nat} {g : Gc} (hn : n ≤ 40) {ao : Nat} {S0 : RS} {o : Int64} {R : Nat} (hR : R ≤ 12) (hrel : S0.1 0 = nI R) {t : Nat} (ht12 : t ≤ 12) (ht0 : S0.1 1 = nI t) (hw : ∀ q, q < R → byC S0 q = true → wfR S0 q) (x a b i : Int32) : Met l yL_route (wsH yL_route cL_route 7 (some .int) [(0, 14, 17, 13), (0, 14, 21, 38)]) (rmL 10 8 48) (PcO (HL loc n g ao) (EvL loc g ao) (S0, o) [.ref (loc 0), .int x, .int a, .int b, .int i, .ref ao]) (va_Qi (fun (kq : Int32) (u : RS × Int64) => (kq = nI 0 ∧ ∃ v, u.2 = v.toInt64 ∧ (fun v S' => S' = measF (stlF S0 n t (ixN x)) n (ixN x) (ixN b) ∧ rabW S0 n x a b = none ∧ rouB S' (ixN a) i = true ∧ v = nI (routF S' (ixN x) n (ixN a) (ixN i))) v u.1) ∨ (kq = nI 1 ∧ u.2 = o ∧ ((fun E u => (rabW S0 n x a b = some E ∧ u = S0) ∨ (rabW S0 n x a b = none ∧ E = nseS ∧ u = measF (stlF S0 n t (ixN x)) n (ixN x) (ixN b) ∧ rouB u (ixN a) i = false)) iaeS u.1)) ∨ (kq = nI 2 ∧ u.2 = o ∧ ((fun E u => (rabW S0 n x a b = some E ∧ u = S0) ∨ (rabW S0 n x a b = none ∧ E = nseS ∧ u = measF (stlF S0 n t (ixN x)) n (ixN x) (ixN b) ∧ rouB u (ixN a) i = false)) nseS u.1))) (fun u t => HL loc n g ao u t.heap) (AL loc ao)) (rmL 10 8 48).cells (rmL 10 8 48).slots (AL loc ao) := by
  refine h_enter (by decide) (Nat.le_of_ble_eq_true rfl) ?_
  intro p e s m below meth c ls S hr hlocks htb hC hl
  refine lv_aload S.1 S.2.1 dL_route_0 (lv_at hl 5 rfl) ?_
  refine lv_iconst (v := nI 0) S.1 S.2.1 dL_route_2 rfl ?_
  refine lv_aload_n S.1 S.2.1 dL_route_3 rfl (lv_at hl 0 rfl) ?_
  refine lv_iload_n S.1 S.2.1 dL_route_4 rfl (lv_at hl 1 rfl) ?_
  refine lv_iload_n S.1 S.2.1 dL_route_5 rfl (lv_at hl 2 rfl) ?_
  refine lv_iload_n S.1 S.2.1 dL_route_6 rfl (lv_at hl 3 rfl) ?_
  refine lv_iload S.1 S.2.1 dL_route_7 (lv_at hl 4 rfl) ?_
  refine vx_calli (vx_runV (As := [.int x, .int a, .int b, .int i]) (rest := [.int (nI 0), .ref ao]) S (c_X0_route l hs0 hn hR hrel ht12 ht0 hw x a b i) (cwV 4 S.2.2.2.2 (vw_good cw_RL_X0_route) rfl rfl rfl ⟨rfl, cw_RL_X0_route.2⟩ ⟨by decide, by decide⟩) (l_pre rfl hC) rfl rfl hl.1 rfl (lv_room (Nat.le_of_ble_eq_true rfl)) dL_route_9 ⟨(Nat.le_of_ble_eq_true rfl), (Nat.le_of_ble_eq_true rfl)⟩) hC.2.2 (fun q _ h => Or.inl h) (fun q h => Or.inl h) (fun q _ h => Or.inl h) (fun E ce q9 u t H1 locs1 ht hvm _ hB hz hk hS h1 h2 h3 => ?_) (fun v u t H1 locs1 ht hvm hp hB hz hk hS => ?_)
  · obtain ⟨hX, hB⟩ := hB
    have hCx : CL loc n g ao (u, o) s H1 locs1 := l_back hC (by rw [← ht]; exact hB) hk hS
    rcases (show E = iaeS ∨ E = nseS from (by rcases hX with q | q; exact Or.inl (by have q := q.1; unfold rabW at q; exact (fun h => opt1 h (fun h => opt1 h (fun h => opt1 h optN))) q); exact Or.inr q.2.1)) with hE | hE
    · subst hE
      refine vx_catch (name := iaeS) S.2.2.2.1 [] (⟨0, 14, 17, 13⟩ : ExceptionTableEntry) [(⟨0, 14, 21, 38⟩ : ExceptionTableEntry)] htb (fun z hz => nomatch hz) (by decide) (by decide) (S.2.2.2.2 _ w_339) (va_Nw.use (nw_tab (by decide)) (hC.1.1.2.1.1 _ (show Cond.castable iaeS iaeS ∈ xwN by decide))) h1 h2 h3 ?_
      refine lv_astore S.1 S.2.1 dL_route_17 hl (by decide) rfl (fun ls hl => ?_)
      refine lv_iconst (v := nI 1) S.1 S.2.1 dL_route_19 rfl ?_
      exact o_iret (S0 := (u, o)) S hr hlocks hCx (Or.inr (Or.inl ⟨rfl, rfl, hX⟩)) rfl dL_route_20 (Nat.le_of_ble_eq_true rfl) (Nat.le_of_ble_eq_true rfl)
    · subst hE
      refine vx_catch (name := nseS) S.2.2.2.1 [(⟨0, 14, 17, 13⟩ : ExceptionTableEntry)] (⟨0, 14, 21, 38⟩ : ExceptionTableEntry) [] htb (fun z hz => Or.inr ⟨by rw [List.mem_singleton.mp hz]; decide, iaeS, by rw [List.mem_singleton.mp hz]; exact S.2.2.2.2 _ w_339, hC.1.2.2.2⟩) (by decide) (by decide) (S.2.2.2.2 _ w_365) (va_Nw.use (nw_tab (by decide)) (hC.1.1.2.1.1 _ (show Cond.castable nseS nseS ∈ xwN by decide))) h1 h2 h3 ?_
      refine lv_astore S.1 S.2.1 dL_route_21 hl (by decide) rfl (fun ls hl => ?_)
      refine lv_iconst (v := nI 2) S.1 S.2.1 dL_route_23 rfl ?_
      exact o_iret (S0 := (u, o)) S hr hlocks hCx (Or.inr (Or.inr ⟨rfl, rfl, hX⟩)) rfl dL_route_24 (Nat.le_of_ble_eq_true rfl) (Nat.le_of_ble_eq_true rfl)
  · have hCx : CL loc n g ao (u, o) s H1 locs1 := l_back hC (by rw [← ht]; exact hB) hk hS
    refine lv_i2l S.1 S.2.1 dL_route_12 rfl ?_
    refine l_last S hCx dL_route_13 (fun H locs hCx => ?_)
    refine lv_goto (tgt := 25) S.1 S.2.1 dL_route_14 (by decide) ?_
    refine lv_iconst (v := nI 0) S.1 S.2.1 dL_route_25 rfl ?_
    exact o_iret S hr hlocks hCx (Or.inl ⟨rfl, v, rfl, hp⟩) rfl dL_route_26 (Nat.le_of_ble_eq_true rfl) (Nat.le_of_ble_eq_true rfl)
set_option maxRecDepth 100000 in
set_option maxHeartbeats 4000000 in
theorem c_L_leader (l : Launch) (hs0 : l.stackTraces = false) {loc : Nat → Nat} {n : Nat} {g : Gc} (hn : n ≤ 40) {ao : Nat} {S0 : RS} {o : Int64} {R : Nat} (hR : R ≤ 12) (hrel : S0.1 0 = nI R) (x a : Int32) : Met l yL_leader (wsH yL_leader cL_leader 5 (some .int) [(0, 10, 13, 13), (0, 10, 17, 15)]) (rmL 10 8 48) (PcO (HL loc n g ao) (EvL loc g ao) (S0, o) [.ref (loc 0), .int x, .int a, .ref ao]) (va_Qi (fun (kq : Int32) (u : RS × Int64) => (kq = nI 0 ∧ ∃ v, u.2 = v.toInt64 ∧ (fun v S' => S' = S0 ∧ leadW S0 n x a = none ∧ v = ntzL (S0.2.2 (ixN x) (ixN a))) v u.1) ∨ (kq = nI 1 ∧ u.2 = o ∧ (u.1 = S0 ∧ (fun E => leadW S0 n x a = some E) iaeS)) ∨ (kq = nI 2 ∧ u.2 = o ∧ (u.1 = S0 ∧ (fun E => leadW S0 n x a = some E) iseS))) (fun u t => HL loc n g ao u t.heap) (AL loc ao)) (rmL 10 8 48).cells (rmL 10 8 48).slots (AL loc ao) := by
  refine h_enter (by decide) (Nat.le_of_ble_eq_true rfl) ?_
  intro p e s m below meth c ls S hr hlocks htb hC hl
  refine lv_aload_n S.1 S.2.1 dL_leader_0 rfl (lv_at hl 3 rfl) ?_
  refine lv_iconst (v := nI 0) S.1 S.2.1 dL_leader_1 rfl ?_
  refine lv_aload_n S.1 S.2.1 dL_leader_2 rfl (lv_at hl 0 rfl) ?_
  refine lv_iload_n S.1 S.2.1 dL_leader_3 rfl (lv_at hl 1 rfl) ?_
  refine lv_iload_n S.1 S.2.1 dL_leader_4 rfl (lv_at hl 2 rfl) ?_
  refine vx_calli (vx_runV (As := [.int x, .int a]) (rest := [.int (nI 0), .ref ao]) S (c_X0_leader l hs0 hn hR hrel x a) (cwV 2 S.2.2.2.2 (vw_good cw_RL_X0_leader) rfl rfl rfl ⟨rfl, cw_RL_X0_leader.2⟩ ⟨by decide, by decide⟩) (l_pre rfl hC) rfl rfl hl.1 rfl (lv_room (Nat.le_of_ble_eq_true rfl)) dL_leader_5 ⟨(Nat.le_of_ble_eq_true rfl), (Nat.le_of_ble_eq_true rfl)⟩) hC.2.2 (fun q _ h => Or.inl h) (fun q h => Or.inl h) (fun q _ h => Or.inl h) (fun E ce q9 u t H1 locs1 ht hvm _ hB hz hk hS h1 h2 h3 => ?_) (fun v u t H1 locs1 ht hvm hp hB hz hk hS => ?_)
  · obtain ⟨hX, hB⟩ := hB
    have hCx : CL loc n g ao (S0, o) s H1 locs1 := l_back hC (by rw [← ht]; exact hB) hk hS
    rcases (show E = iaeS ∨ E = iseS from (by unfold leadW at hX; exact (fun h => opt2 h (fun h => opt2 h (fun h => opt2' h (fun h => opt2 h optN)))) hX)) with hE | hE
    · subst hE
      refine vx_catch (name := iaeS) S.2.2.2.1 [] (⟨0, 10, 13, 13⟩ : ExceptionTableEntry) [(⟨0, 10, 17, 15⟩ : ExceptionTableEntry)] htb (fun z hz => nomatch hz) (by decide) (by decide) (S.2.2.2.2 _ w_339) (va_Nw.use (nw_tab (by decide)) (hC.1.1.2.1.1 _ (show Cond.castable iaeS iaeS ∈ xwN by decide))) h1 h2 h3 ?_
      refine lv_astore S.1 S.2.1 dL_leader_13 hl (by decide) rfl (fun ls hl => ?_)
      refine lv_iconst (v := nI 1) S.1 S.2.1 dL_leader_15 rfl ?_
      exact o_iret (S0 := (S0, o)) S hr hlocks hCx (Or.inr (Or.inl ⟨rfl, rfl, rfl, hX⟩)) rfl dL_leader_16 (Nat.le_of_ble_eq_true rfl) (Nat.le_of_ble_eq_true rfl)
    · subst hE
      refine vx_catch (name := iseS) S.2.2.2.1 [(⟨0, 10, 13, 13⟩ : ExceptionTableEntry)] (⟨0, 10, 17, 15⟩ : ExceptionTableEntry) [] htb (fun z hz => Or.inr ⟨by rw [List.mem_singleton.mp hz]; decide, iaeS, by rw [List.mem_singleton.mp hz]; exact S.2.2.2.2 _ w_339, hC.1.2.2.1⟩) (by decide) (by decide) (S.2.2.2.2 _ w_340) (va_Nw.use (nw_tab (by decide)) (hC.1.1.2.1.1 _ (show Cond.castable iseS iseS ∈ xwN by decide))) h1 h2 h3 ?_
      refine lv_astore S.1 S.2.1 dL_leader_17 hl (by decide) rfl (fun ls hl => ?_)
      refine lv_iconst (v := nI 2) S.1 S.2.1 dL_leader_19 rfl ?_
      exact o_iret (S0 := (S0, o)) S hr hlocks hCx (Or.inr (Or.inr ⟨rfl, rfl, rfl, hX⟩)) rfl dL_leader_20 (Nat.le_of_ble_eq_true rfl) (Nat.le_of_ble_eq_true rfl)
  · have hCx : CL loc n g ao (u, o) s H1 locs1 := l_back hC (by rw [← ht]; exact hB) hk hS
    refine lv_i2l S.1 S.2.1 dL_leader_8 rfl ?_
    refine l_last S hCx dL_leader_9 (fun H locs hCx => ?_)
    refine lv_goto (tgt := 21) S.1 S.2.1 dL_leader_10 (by decide) ?_
    refine lv_iconst (v := nI 0) S.1 S.2.1 dL_leader_21 rfl ?_
    exact o_iret S hr hlocks hCx (Or.inl ⟨rfl, v, rfl, hp⟩) rfl dL_leader_22 (Nat.le_of_ble_eq_true rfl) (Nat.le_of_ble_eq_true rfl)
set_option maxRecDepth 100000 in
set_option maxHeartbeats 4000000 in
theorem c_L_differ (l : Launch) (hs0 : l.stackTraces = false) {loc : Nat → Nat} {n : Nat} {g : Gc} (hn : n ≤ 40) {ao : Nat} {S0 : RS} {o : Int64} {R : Nat} (hR : R ≤ 12) (hrel : S0.1 0 = nI R) {t : Nat} (ht12 : t ≤ 12) (ht0 : S0.1 1 = nI t) (hw : ∀ q, q < R → byC S0 q = true → wfR S0 q) (x y : Int32) : Met l yL_differ (wsH yL_differ cL_differ 5 (some .int) [(0, 10, 13, 13)]) (rmL 10 8 48) (PcO (HL loc n g ao) (EvL loc g ao) (S0, o) [.ref (loc 0), .int x, .int y, .ref ao]) (va_Qi (fun (kq : Int32) (u : RS × Int64) => (kq = nI 0 ∧ ∃ v, u.2 = v.toInt64 ∧ (fun v S' => S' = stlF S0 n t (max (ixN x) (ixN y)) ∧ rsW S0 x y = none ∧ v = difG S' (ixN x) (ixN y) n 0) v u.1) ∨ (kq = nI 1 ∧ u.2 = o ∧ (u.1 = S0 ∧ (fun E => rsW S0 x y = some E) iaeS))) (fun u t => HL loc n g ao u t.heap) (AL loc ao)) (rmL 10 8 48).cells (rmL 10 8 48).slots (AL loc ao) := by
  refine h_enter (by decide) (Nat.le_of_ble_eq_true rfl) ?_
  intro p e s m below meth c ls S hr hlocks htb hC hl
  refine lv_aload_n S.1 S.2.1 dL_differ_0 rfl (lv_at hl 3 rfl) ?_
  refine lv_iconst (v := nI 0) S.1 S.2.1 dL_differ_1 rfl ?_
  refine lv_aload_n S.1 S.2.1 dL_differ_2 rfl (lv_at hl 0 rfl) ?_
  refine lv_iload_n S.1 S.2.1 dL_differ_3 rfl (lv_at hl 1 rfl) ?_
  refine lv_iload_n S.1 S.2.1 dL_differ_4 rfl (lv_at hl 2 rfl) ?_
  refine vx_calli (vx_runV (As := [.int x, .int y]) (rest := [.int (nI 0), .ref ao]) S (c_X0_differ l hs0 hn hR hrel ht12 ht0 hw x y) (cwV 2 S.2.2.2.2 (vw_good cw_RL_X0_differ) rfl rfl rfl ⟨rfl, cw_RL_X0_differ.2⟩ ⟨by decide, by decide⟩) (l_pre rfl hC) rfl rfl hl.1 rfl (lv_room (Nat.le_of_ble_eq_true rfl)) dL_differ_5 ⟨(Nat.le_of_ble_eq_true rfl), (Nat.le_of_ble_eq_true rfl)⟩) hC.2.2 (fun q _ h => Or.inl h) (fun q h => Or.inl h) (fun q _ h => Or.inl h) (fun E ce q9 u t H1 locs1 ht hvm _ hB hz hk hS h1 h2 h3 => ?_) (fun v u t H1 locs1 ht hvm hp hB hz hk hS => ?_)
  · obtain ⟨hX, hB⟩ := hB
    have hCx : CL loc n g ao (S0, o) s H1 locs1 := l_back hC (by rw [← ht]; exact hB) hk hS
    have hE : E = iaeS := (by unfold rsW at hX; exact (fun h => opt1 h (fun h => opt1 h optN)) hX)
    subst hE
    refine vx_catch (name := iaeS) S.2.2.2.1 [] (⟨0, 10, 13, 13⟩ : ExceptionTableEntry) [] htb (fun z hz => nomatch hz) (by decide) (by decide) (S.2.2.2.2 _ w_339) (va_Nw.use (nw_tab (by decide)) (hC.1.1.2.1.1 _ (show Cond.castable iaeS iaeS ∈ xwN by decide))) h1 h2 h3 ?_
    refine lv_astore S.1 S.2.1 dL_differ_13 hl (by decide) rfl (fun ls hl => ?_)
    refine lv_iconst (v := nI 1) S.1 S.2.1 dL_differ_15 rfl ?_
    exact o_iret (S0 := (S0, o)) S hr hlocks hCx (Or.inr ⟨rfl, rfl, rfl, hX⟩) rfl dL_differ_16 (Nat.le_of_ble_eq_true rfl) (Nat.le_of_ble_eq_true rfl)
  · have hCx : CL loc n g ao (u, o) s H1 locs1 := l_back hC (by rw [← ht]; exact hB) hk hS
    refine lv_i2l S.1 S.2.1 dL_differ_8 rfl ?_
    refine l_last S hCx dL_differ_9 (fun H locs hCx => ?_)
    refine lv_goto (tgt := 17) S.1 S.2.1 dL_differ_10 (by decide) ?_
    refine lv_iconst (v := nI 0) S.1 S.2.1 dL_differ_17 rfl ?_
    exact o_iret S hr hlocks hCx (Or.inl ⟨rfl, v, rfl, hp⟩) rfl dL_differ_18 (Nat.le_of_ble_eq_true rfl) (Nat.le_of_ble_eq_true rfl)
set_option maxRecDepth 100000 in
set_option maxHeartbeats 4000000 in
theorem c_L_tally (l : Launch) (hs0 : l.stackTraces = false) {loc : Nat → Nat} {n : Nat} {g : Gc} (hn : n ≤ 40) {ao : Nat} {S0 : RS} {o : Int64} (a b : Int32) : Met l yL_tally (wsH yL_tally cL_tally 5 (some .int) [(0, 10, 13, 68)]) (rmL 10 8 48) (PcO (HL loc n g ao) (EvL loc g ao) (S0, o) [.ref (loc 0), .int a, .int b, .ref ao]) (va_Qi (fun (kq : Int32) (u : RS × Int64) => (kq = nI 0 ∧ ∃ v, u.2 = v.toInt64 ∧ (fun v S' => S' = S0 ∧ talW n a b = none ∧ v = S0.2.1 1 (ixN a * n + ixN b)) v u.1) ∨ (kq = nI 1 ∧ u.2 = o ∧ (u.1 = S0 ∧ (fun E => talW n a b = some E) aioS))) (fun u t => HL loc n g ao u t.heap) (AL loc ao)) (rmL 10 8 48).cells (rmL 10 8 48).slots (AL loc ao) := by
  refine h_enter (by decide) (Nat.le_of_ble_eq_true rfl) ?_
  intro p e s m below meth c ls S hr hlocks htb hC hl
  refine lv_aload_n S.1 S.2.1 dL_tally_0 rfl (lv_at hl 3 rfl) ?_
  refine lv_iconst (v := nI 0) S.1 S.2.1 dL_tally_1 rfl ?_
  refine lv_aload_n S.1 S.2.1 dL_tally_2 rfl (lv_at hl 0 rfl) ?_
  refine lv_iload_n S.1 S.2.1 dL_tally_3 rfl (lv_at hl 1 rfl) ?_
  refine lv_iload_n S.1 S.2.1 dL_tally_4 rfl (lv_at hl 2 rfl) ?_
  refine vx_calli (vx_runV (As := [.int a, .int b]) (rest := [.int (nI 0), .ref ao]) S (c_X0_tally l hs0 hn  a b) (cwV 2 S.2.2.2.2 (vw_good cw_RL_X0_tally) rfl rfl rfl ⟨rfl, cw_RL_X0_tally.2⟩ ⟨by decide, by decide⟩) (l_pre rfl hC) rfl rfl hl.1 rfl (lv_room (Nat.le_of_ble_eq_true rfl)) dL_tally_5 ⟨(Nat.le_of_ble_eq_true rfl), (Nat.le_of_ble_eq_true rfl)⟩) hC.2.2 (fun q _ h => Or.inl h) (fun q h => Or.inl h) (fun q _ h => Or.inl h) (fun E ce q9 u t H1 locs1 ht hvm _ hB hz hk hS h1 h2 h3 => ?_) (fun v u t H1 locs1 ht hvm hp hB hz hk hS => ?_)
  · obtain ⟨hX, hB⟩ := hB
    have hCx : CL loc n g ao (S0, o) s H1 locs1 := l_back hC (by rw [← ht]; exact hB) hk hS
    have hE : E = aioS := (by unfold talW at hX; exact (fun h => opt1 h optN) hX)
    subst hE
    refine vx_catch (name := aioS) S.2.2.2.1 [] (⟨0, 10, 13, 68⟩ : ExceptionTableEntry) [] htb (fun z hz => nomatch hz) (by decide) (by decide) (S.2.2.2.2 _ w_402) (va_Nw.use (nw_tab (by decide)) (hC.1.1.2.1.1 _ (show Cond.castable aioS aioS ∈ xwN by decide))) h1 h2 h3 ?_
    refine lv_astore S.1 S.2.1 dL_tally_13 hl (by decide) rfl (fun ls hl => ?_)
    refine lv_iconst (v := nI 1) S.1 S.2.1 dL_tally_15 rfl ?_
    exact o_iret (S0 := (S0, o)) S hr hlocks hCx (Or.inr ⟨rfl, rfl, rfl, hX⟩) rfl dL_tally_16 (Nat.le_of_ble_eq_true rfl) (Nat.le_of_ble_eq_true rfl)
  · have hCx : CL loc n g ao (u, o) s H1 locs1 := l_back hC (by rw [← ht]; exact hB) hk hS
    refine lv_i2l S.1 S.2.1 dL_tally_8 rfl ?_
    refine l_last S hCx dL_tally_9 (fun H locs hCx => ?_)
    refine lv_goto (tgt := 17) S.1 S.2.1 dL_tally_10 (by decide) ?_
    refine lv_iconst (v := nI 0) S.1 S.2.1 dL_tally_17 rfl ?_
    exact o_iret S hr hlocks hCx (Or.inl ⟨rfl, v, rfl, hp⟩) rfl dL_tally_18 (Nat.le_of_ble_eq_true rfl) (Nat.le_of_ble_eq_true rfl)
set_option maxRecDepth 100000 in
set_option maxHeartbeats 4000000 in
theorem c_L_of (l : Launch) (hs0 : l.stackTraces = false) {loc : Nat → Nat} {n : Nat} {g : Gc} (hn : n ≤ 40) {ao : Nat} {S0 : RS} {o : Int64} (w : Int32) : Met l yL_of (wsH yL_of cL_of 4 (some .int) [(0, 9, 12, 13)]) (rmL 10 8 48) (PcO (HL loc n g ao) (EvL loc g ao) (S0, o) [.ref (loc 0), .int w, .ref ao]) (va_Qi (fun (kq : Int32) (u : RS × Int64) => (kq = nI 0 ∧ ∃ v, u.2 = v.toInt64 ∧ (fun v S' => S' = S0 ∧ ofW w = none ∧ v = (if w = nI 0 then nI n else if w = nI 1 then S0.1 0 else S0.1 2)) v u.1) ∨ (kq = nI 1 ∧ u.2 = o ∧ (u.1 = S0 ∧ (fun E => ofW w = some E) iaeS))) (fun u t => HL loc n g ao u t.heap) (AL loc ao)) (rmL 10 8 48).cells (rmL 10 8 48).slots (AL loc ao) := by
  refine h_enter (by decide) (Nat.le_of_ble_eq_true rfl) ?_
  intro p e s m below meth c ls S hr hlocks htb hC hl
  refine lv_aload_n S.1 S.2.1 dL_of_0 rfl (lv_at hl 2 rfl) ?_
  refine lv_iconst (v := nI 0) S.1 S.2.1 dL_of_1 rfl ?_
  refine lv_aload_n S.1 S.2.1 dL_of_2 rfl (lv_at hl 0 rfl) ?_
  refine lv_iload_n S.1 S.2.1 dL_of_3 rfl (lv_at hl 1 rfl) ?_
  refine vx_calli (vx_runV (As := [.int w]) (rest := [.int (nI 0), .ref ao]) S (c_X0_of l hs0 hn  w) (cwV 1 S.2.2.2.2 (vw_good cw_RL_X0_of) rfl rfl rfl ⟨rfl, cw_RL_X0_of.2⟩ ⟨by decide, by decide⟩) (l_pre rfl hC) rfl rfl hl.1 rfl (lv_room (Nat.le_of_ble_eq_true rfl)) dL_of_4 ⟨(Nat.le_of_ble_eq_true rfl), (Nat.le_of_ble_eq_true rfl)⟩) hC.2.2 (fun q _ h => Or.inl h) (fun q h => Or.inl h) (fun q _ h => Or.inl h) (fun E ce q9 u t H1 locs1 ht hvm _ hB hz hk hS h1 h2 h3 => ?_) (fun v u t H1 locs1 ht hvm hp hB hz hk hS => ?_)
  · obtain ⟨hX, hB⟩ := hB
    have hCx : CL loc n g ao (S0, o) s H1 locs1 := l_back hC (by rw [← ht]; exact hB) hk hS
    have hE : E = iaeS := (by unfold ofW at hX; exact (fun h => opt1 h optN) hX)
    subst hE
    refine vx_catch (name := iaeS) S.2.2.2.1 [] (⟨0, 9, 12, 13⟩ : ExceptionTableEntry) [] htb (fun z hz => nomatch hz) (by decide) (by decide) (S.2.2.2.2 _ w_339) (va_Nw.use (nw_tab (by decide)) (hC.1.1.2.1.1 _ (show Cond.castable iaeS iaeS ∈ xwN by decide))) h1 h2 h3 ?_
    refine lv_astore_n S.1 S.2.1 dL_of_12 rfl hl (by decide) rfl (fun ls hl => ?_)
    refine lv_iconst (v := nI 1) S.1 S.2.1 dL_of_13 rfl ?_
    exact o_iret (S0 := (S0, o)) S hr hlocks hCx (Or.inr ⟨rfl, rfl, rfl, hX⟩) rfl dL_of_14 (Nat.le_of_ble_eq_true rfl) (Nat.le_of_ble_eq_true rfl)
  · have hCx : CL loc n g ao (u, o) s H1 locs1 := l_back hC (by rw [← ht]; exact hB) hk hS
    refine lv_i2l S.1 S.2.1 dL_of_7 rfl ?_
    refine l_last S hCx dL_of_8 (fun H locs hCx => ?_)
    refine lv_goto (tgt := 15) S.1 S.2.1 dL_of_9 (by decide) ?_
    refine lv_iconst (v := nI 0) S.1 S.2.1 dL_of_15 rfl ?_
    exact o_iret S hr hlocks hCx (Or.inl ⟨rfl, v, rfl, hp⟩) rfl dL_of_16 (Nat.le_of_ble_eq_true rfl) (Nat.le_of_ble_eq_true rfl)
set_option maxRecDepth 100000 in
set_option maxHeartbeats 4000000 in
theorem c_L_told (l : Launch) (hs0 : l.stackTraces = false) {loc : Nat → Nat} {n : Nat} {g : Gc} (hn : n ≤ 40) {ao : Nat} {S0 : RS} {o : Int64} {R : Nat} (hR : R ≤ 12) (hrel : S0.1 0 = nI R) (x w : Int32) : Met l yL_told (wsH yL_told cL_told 5 (some .int) [(0, 10, 13, 13)]) (rmL 10 8 48) (PcO (HL loc n g ao) (EvL loc g ao) (S0, o) [.ref (loc 0), .int x, .int w, .ref ao]) (va_Qi (fun (kq : Int32) (u : RS × Int64) => (kq = nI 0 ∧ ∃ v, u.2 = v.toInt64 ∧ (fun v S' => S' = S0 ∧ toldW S0 x w = none ∧ v = (if w = nI 0 then S0.2.1 2 (ixN x) else if w = nI 1 then S0.2.1 3 (ixN x) else S0.2.1 4 (ixN x))) v u.1) ∨ (kq = nI 1 ∧ u.2 = o ∧ (u.1 = S0 ∧ (fun E => toldW S0 x w = some E) iaeS))) (fun u t => HL loc n g ao u t.heap) (AL loc ao)) (rmL 10 8 48).cells (rmL 10 8 48).slots (AL loc ao) := by
  refine h_enter (by decide) (Nat.le_of_ble_eq_true rfl) ?_
  intro p e s m below meth c ls S hr hlocks htb hC hl
  refine lv_aload_n S.1 S.2.1 dL_told_0 rfl (lv_at hl 3 rfl) ?_
  refine lv_iconst (v := nI 0) S.1 S.2.1 dL_told_1 rfl ?_
  refine lv_aload_n S.1 S.2.1 dL_told_2 rfl (lv_at hl 0 rfl) ?_
  refine lv_iload_n S.1 S.2.1 dL_told_3 rfl (lv_at hl 1 rfl) ?_
  refine lv_iload_n S.1 S.2.1 dL_told_4 rfl (lv_at hl 2 rfl) ?_
  refine vx_calli (vx_runV (As := [.int x, .int w]) (rest := [.int (nI 0), .ref ao]) S (c_X0_told l hs0 hn hR hrel x w) (cwV 2 S.2.2.2.2 (vw_good cw_RL_X0_told) rfl rfl rfl ⟨rfl, cw_RL_X0_told.2⟩ ⟨by decide, by decide⟩) (l_pre rfl hC) rfl rfl hl.1 rfl (lv_room (Nat.le_of_ble_eq_true rfl)) dL_told_5 ⟨(Nat.le_of_ble_eq_true rfl), (Nat.le_of_ble_eq_true rfl)⟩) hC.2.2 (fun q _ h => Or.inl h) (fun q h => Or.inl h) (fun q _ h => Or.inl h) (fun E ce q9 u t H1 locs1 ht hvm _ hB hz hk hS h1 h2 h3 => ?_) (fun v u t H1 locs1 ht hvm hp hB hz hk hS => ?_)
  · obtain ⟨hX, hB⟩ := hB
    have hCx : CL loc n g ao (S0, o) s H1 locs1 := l_back hC (by rw [← ht]; exact hB) hk hS
    have hE : E = iaeS := (by unfold toldW at hX; exact (fun h => opt1 h (fun h => opt1 h optN)) hX)
    subst hE
    refine vx_catch (name := iaeS) S.2.2.2.1 [] (⟨0, 10, 13, 13⟩ : ExceptionTableEntry) [] htb (fun z hz => nomatch hz) (by decide) (by decide) (S.2.2.2.2 _ w_339) (va_Nw.use (nw_tab (by decide)) (hC.1.1.2.1.1 _ (show Cond.castable iaeS iaeS ∈ xwN by decide))) h1 h2 h3 ?_
    refine lv_astore S.1 S.2.1 dL_told_13 hl (by decide) rfl (fun ls hl => ?_)
    refine lv_iconst (v := nI 1) S.1 S.2.1 dL_told_15 rfl ?_
    exact o_iret (S0 := (S0, o)) S hr hlocks hCx (Or.inr ⟨rfl, rfl, rfl, hX⟩) rfl dL_told_16 (Nat.le_of_ble_eq_true rfl) (Nat.le_of_ble_eq_true rfl)
  · have hCx : CL loc n g ao (u, o) s H1 locs1 := l_back hC (by rw [← ht]; exact hB) hk hS
    refine lv_i2l S.1 S.2.1 dL_told_8 rfl ?_
    refine l_last S hCx dL_told_9 (fun H locs hCx => ?_)
    refine lv_goto (tgt := 17) S.1 S.2.1 dL_told_10 (by decide) ?_
    refine lv_iconst (v := nI 0) S.1 S.2.1 dL_told_17 rfl ?_
    exact o_iret S hr hlocks hCx (Or.inl ⟨rfl, v, rfl, hp⟩) rfl dL_told_18 (Nat.le_of_ble_eq_true rfl) (Nat.le_of_ble_eq_true rfl)
