/-! objects and their calls -/
def EvOk (A : Nat → Prop) (Ev : State → Heap → Prop) : Prop :=
  (∀ (s U : State) (H : Heap) (locs : List Loc), Ev s s.heap → U.heap = H → s.WarmedH U.vm → va_S A s.heap H locs → Ev U U.heap) ∧ (∀ (U : State) (g : JFrame) (mk : MethodId) (a : Array Value), Ev U U.heap → Ev (U.calling g mk a) (U.calling g mk a).heap)
def OI {σ : Type} (C : String) (b : Nat) (A : Nat → Prop) (Hp : σ → Heap → Prop) (Ev : State → Heap → Prop) : Prop :=
  EvOk A Ev ∧ ∀ (s : State) (S : σ) (H : Heap), Ev s s.heap → Hp S H → ∃ cellB : Cell, H[b]? = some cellB ∧ cellB.vm.isStatics = false ∧ s.vm.findClass C = some cellB.cls
def Cn {σ : Type} (A : Nat → Prop) (Hp : σ → Heap → Prop) (Ev : State → Heap → Prop) (S : σ) (s : State) (H : Heap) (locs : List Loc) : Prop := Ev s s.heap ∧ Hp S H ∧ va_S A s.heap H locs
def PcO {σ : Type} (Hp : σ → Heap → Prop) (Ev : State → Heap → Prop) (S : σ) (av : List Value) : Array Value → State → Prop := va_Pc av (fun U => Hp S U.heap ∧ Ev U U.heap)
abbrev wsM (y : MethodName) (cc : ByteArray) (maxL : Nat) (ret : Option FieldType) : List Cond := .code y cc maxL ret :: WA
def VW (own : String) (idx : Nat) (y : MethodName) (bytes : ByteArray) (maxL : Nat) (ret : Option FieldType) (n : Nat) : Prop :=
  (Cond.methodLink own idx y ∈ WA ∧ Cond.instanceMethod y ∈ WA ∧ Cond.selects y.cls y y ∈ WA ∧ Cond.initialized y.cls ∈ WA ∧ Cond.code y bytes maxL ret ∈ WA) ∧ (y.cls ≠ "java/lang/invoke/MethodHandle" ∧ y.cls ≠ "java/lang/invoke/VarHandle" ∧ (parseMethodDescriptor y.desc).map (fun d => d.parameters.length) = some n)
def SW (own : String) (idx : Nat) (y : MethodName) (bytes : ByteArray) (maxL : Nat) (ret : Option FieldType) (n : Nat) : Prop :=
  (Cond.methodLink own idx y ∈ WA ∧ Cond.static y ∈ WA ∧ Cond.initialized y.cls ∈ WA ∧ Cond.code y bytes maxL ret ∈ WA) ∧ (y.cls ≠ "java/lang/invoke/MethodHandle" ∧ y.cls ≠ "java/lang/invoke/VarHandle" ∧ (parseMethodDescriptor y.desc).map (fun d => d.parameters.length) = some n)
theorem wa_gi {w : Cond} (h : w ∈ WA) : w ∈ WA ∧ ((w.onTables && w.keeps) = true ∨ ∃ ty, w = .arrayClass ty) := ⟨h, good_of_word (wa_good h)⟩
theorem wsM_good {y : MethodName} {bytes : ByteArray} {maxL : Nat} {ret : Option FieldType} (h : Cond.code y bytes maxL ret ∈ WA) : GoodIn WA (wsM y bytes maxL ret) := fun w hw => (List.mem_cons.mp hw).elim (fun e => by rw [e]; exact wa_gi h) wa_gi
theorem vw_good {own : String} {idx : Nat} {y : MethodName} {bytes : ByteArray} {maxL : Nat} {ret : Option FieldType} {n : Nat} (h : VW own idx y bytes maxL ret n) : GoodIn WA (wsV own idx y.cls y (wsM y bytes maxL ret)) := by
  obtain ⟨⟨h1, h2, h3, h4, h5⟩, -⟩ := h
  intro w hw
  unfold wsV at hw
  rcases List.mem_append.mp hw with q | q
  · simp only [List.mem_cons, List.not_mem_nil, or_false] at q
    rcases q with rfl | rfl | rfl | rfl
    · exact wa_gi h1
    · exact wa_gi h2
    · exact wa_gi h3
    · exact wa_gi h4
  · exact wsM_good h5 w q
theorem sw_good {own : String} {idx : Nat} {y : MethodName} {bytes : ByteArray} {maxL : Nat} {ret : Option FieldType} {n : Nat} (h : SW own idx y bytes maxL ret n) : GoodIn WA (va_wsS own idx y (wsM y bytes maxL ret)) := by
  obtain ⟨⟨h1, h2, h4, h5⟩, -⟩ := h
  intro w hw
  unfold va_wsS at hw
  rcases List.mem_append.mp hw with q | q
  · simp only [List.mem_cons, List.not_mem_nil, or_false] at q
    rcases q with rfl | rfl | rfl
    · exact wa_gi h1
    · exact wa_gi h2
    · exact wa_gi h4
  · exact wsM_good h5 w q
def RmOk (rm R : Room) (maxL mc ms : Nat) : Prop := rm.cells = mc ∧ rm.slots = ms ∧ rm.frames + 1 ≤ R.frames ∧ 8 + (maxL + 11) + rm.locals ≤ R.locals
def Xc {σ : Type} (Hp : σ → Heap → Prop) (S0 : σ) (A : Nat → Prop) (X : String → Prop) : String → State → State → Prop := vx_X (fun _ : Unit => True) (fun E _ t => X E ∧ Hp S0 t.heap) A
def qSi (post : Int32 → Prop) : Array Value → State → Outcome → State → Prop := fun _ st oc t => ∃ r : Int32, oc = .returned (some (.int r)) ∧ post r ∧ t.heap = st.heap
def qSl (post : Int64 → Prop) : Array Value → State → Outcome → State → Prop := fun _ st oc t => ∃ r : Int64, oc = .returned (some (.long r)) ∧ post r ∧ t.heap = st.heap
section OC
variable {p : Program} {l : Launch} {e : Env} {R : Room} {s : State} {m : MethodId} {args : Array Value} {below : List Frame} {meth : Method} {c : Code} {H : Heap} {locs : List Loc} {cells slots : Nat} {Q : State → Prop}
variable {cc : ByteArray} {pc nL : Nat} {ls : Array Slot} {rest : List Value}
variable {σ : Type} {A : Nat → Prop} {Hp : σ → Heap → Prop} {Ev : State → Heap → Prop} {S0 : σ} {y : MethodName} {bytes : ByteArray} {maxL n idx mc ms mc' ms' b : Nat} {ret : Option FieldType} {rm : Room} {own : String} {As st0 : List Value}
theorem o_pre (hO : OI y.cls b A Hp Ev) (hC : Cn A Hp Ev S0 s H locs) : PreV s H y.cls b (PcO Hp Ev S0 (.ref b :: As)) As :=
  ⟨fun a U g mk q => ⟨q.1, q.2.1, hO.1.2 U g mk a q.2.2⟩, hO.2 s S0 H hC.1 hC.2.1, fun U hU hW => ⟨rfl, by rw [hU]; exact hC.2.1, hO.1.1 s U H locs hC.1 hU hW hC.2.2⟩⟩
theorem o_calli (hO : OI y.cls b A Hp Ev) (S : CallFix p m c cc nL s args WA own) (hC : Cn A Hp Ev S0 s H locs) {post : Int32 → σ → Prop} (hM : Met l y (wsM y bytes maxL ret) rm (PcO Hp Ev S0 (.ref b :: As)) (va_Qi post (fun S' t => Hp S' t.heap) A) mc ms A) (hw : VW own idx y bytes maxL ret n) (hrm : RmOk rm R maxL mc ms) (hn : As.length = n) (hsize : ls.size = nL) (hst : st0 = As.reverse ++ .ref b :: rest) (hW : (rest.map fun v => v.category).sum ≤ 8) (hdg : decode cc pc = .ok (.invokevirtual idx, 3)) (hf : cells + mc ≤ R.cells ∧ slots + ms ≤ R.slots)
    (kk : ∀ (r : Int32) (S1 : σ) (H1 : Heap) (locs1 : List Loc), post r S1 → Cn A Hp Ev S1 s H1 locs1 → W p l e R s m args below meth c H1 locs1 (cells + mc) (slots + ms) Q (F0 m (pc + 3) ls (.int r :: rest))) : W p l e R s m args below meth c H locs cells slots Q (F0 m pc ls st0) := by
  subst hst
  exact va_calli (va_runV (As := As) (rest := rest) S hM (cwV n S.2.2.2.2 (vw_good hw) rfl hrm.1 hrm.2.1 ⟨rfl, hw.2⟩ hrm.2.2) (o_pre hO hC) rfl hn hsize rfl (lv_room hW) hdg hf) hC.2.2 (fun q _ h => h) (fun q h => h) (fun r u t H1 locs1 ht hvm hp hB _ _ hS => kk r u H1 locs1 hp ⟨hC.1, by rw [← ht]; exact hB, hS⟩)
theorem o_xcalli (hO : OI y.cls b A Hp Ev) (S : CallFix p m c cc nL s args WA own) (hC : Cn A Hp Ev S0 s H locs) {post : Int32 → σ → Prop} {X X' : String → Prop} {Qc : Array Value → State → Outcome → State → Prop} (hM : vx_Met l y (wsM y bytes maxL ret) rm (PcO Hp Ev S0 (.ref b :: As)) (va_Qi post (fun S' t => Hp S' t.heap) A) (Xc Hp S0 A X) mc ms A) (hw : VW own idx y bytes maxL ret n) (hrm : RmOk rm R maxL mc ms) (hn : As.length = n) (hsize : ls.size = nL) (hst : st0 = As.reverse ++ .ref b :: rest) (hW : (rest.map fun v => v.category).sum ≤ 8) (hdg : decode cc pc = .ok (.invokevirtual idx, 3)) (hf : cells + mc ≤ R.cells ∧ slots + ms ≤ R.slots)
    (hnt : ∀ x ∈ c.exceptionTable.toList, False) (hlocks : meth.locks = false) (hm : cells + mc ≤ mc' ∧ slots + ms ≤ ms') (hX : ∀ E, X E → X' E)
    (kk : ∀ (r : Int32) (S1 : σ) (H1 : Heap) (locs1 : List Loc), post r S1 → Cn A Hp Ev S1 s H1 locs1 → W p l e R s m args below meth c H1 locs1 (cells + mc) (slots + ms) (vx_MQ below Qc (Xc Hp S0 A X') args s mc' ms' A) (F0 m (pc + 3) ls (.int r :: rest))) : W p l e R s m args below meth c H locs cells slots (vx_MQ below Qc (Xc Hp S0 A X') args s mc' ms' A) (F0 m pc ls st0) := by
  subst hst
  exact vx_calli (vx_runV (As := As) (rest := rest) S hM (cwV n S.2.2.2.2 (vw_good hw) rfl hrm.1 hrm.2.1 ⟨rfl, hw.2⟩ hrm.2.2) (o_pre hO hC) rfl hn hsize rfl (lv_room hW) hdg hf) hC.2.2 (fun q _ h => h) (fun q h => h) (fun q _ h => h)
    (fun E ce q9 u t H1 locs1 ht hvm _ hB _ _ hS h1 h2 h3 => vx_out (fun x hx => (hnt x hx).elim) hlocks h1 h2 h3 (fun t' ht' hvm' => ⟨(), trivial, ⟨hX E hB.1, by rw [ht', ← ht]; exact hB.2⟩, hS.F ht'⟩) hS.2.2 hm.1 hm.2)
    (fun r u t H1 locs1 ht hvm hp hB _ _ hS => kk r u H1 locs1 hp ⟨hC.1, by rw [← ht]; exact hB, hS⟩)
theorem o_calll (hO : OI y.cls b A Hp Ev) (S : CallFix p m c cc nL s args WA own) (hC : Cn A Hp Ev S0 s H locs) {post : Int64 → σ → Prop} (hM : Met l y (wsM y bytes maxL ret) rm (PcO Hp Ev S0 (.ref b :: As)) (va_Ql post (fun S' t => Hp S' t.heap) A) mc ms A) (hw : VW own idx y bytes maxL ret n) (hrm : RmOk rm R maxL mc ms) (hn : As.length = n) (hsize : ls.size = nL) (hst : st0 = As.reverse ++ .ref b :: rest) (hW : (rest.map fun v => v.category).sum ≤ 8) (hdg : decode cc pc = .ok (.invokevirtual idx, 3)) (hf : cells + mc ≤ R.cells ∧ slots + ms ≤ R.slots)
    (kk : ∀ (r : Int64) (S1 : σ) (H1 : Heap) (locs1 : List Loc), post r S1 → Cn A Hp Ev S1 s H1 locs1 → W p l e R s m args below meth c H1 locs1 (cells + mc) (slots + ms) Q (F0 m (pc + 3) ls (.long r :: rest))) : W p l e R s m args below meth c H locs cells slots Q (F0 m pc ls st0) := by
  subst hst
  exact va_calll (va_runV (As := As) (rest := rest) S hM (cwV n S.2.2.2.2 (vw_good hw) rfl hrm.1 hrm.2.1 ⟨rfl, hw.2⟩ hrm.2.2) (o_pre hO hC) rfl hn hsize rfl (lv_room hW) hdg hf) hC.2.2 (fun q _ h => h) (fun q h => h) (fun r u t H1 locs1 ht hvm hp hB _ _ hS => kk r u H1 locs1 hp ⟨hC.1, by rw [← ht]; exact hB, hS⟩)
theorem o_xcalll (hO : OI y.cls b A Hp Ev) (S : CallFix p m c cc nL s args WA own) (hC : Cn A Hp Ev S0 s H locs) {post : Int64 → σ → Prop} {X X' : String → Prop} {Qc : Array Value → State → Outcome → State → Prop} (hM : vx_Met l y (wsM y bytes maxL ret) rm (PcO Hp Ev S0 (.ref b :: As)) (va_Ql post (fun S' t => Hp S' t.heap) A) (Xc Hp S0 A X) mc ms A) (hw : VW own idx y bytes maxL ret n) (hrm : RmOk rm R maxL mc ms) (hn : As.length = n) (hsize : ls.size = nL) (hst : st0 = As.reverse ++ .ref b :: rest) (hW : (rest.map fun v => v.category).sum ≤ 8) (hdg : decode cc pc = .ok (.invokevirtual idx, 3)) (hf : cells + mc ≤ R.cells ∧ slots + ms ≤ R.slots)
    (hnt : ∀ x ∈ c.exceptionTable.toList, False) (hlocks : meth.locks = false) (hm : cells + mc ≤ mc' ∧ slots + ms ≤ ms') (hX : ∀ E, X E → X' E)
    (kk : ∀ (r : Int64) (S1 : σ) (H1 : Heap) (locs1 : List Loc), post r S1 → Cn A Hp Ev S1 s H1 locs1 → W p l e R s m args below meth c H1 locs1 (cells + mc) (slots + ms) (vx_MQ below Qc (Xc Hp S0 A X') args s mc' ms' A) (F0 m (pc + 3) ls (.long r :: rest))) : W p l e R s m args below meth c H locs cells slots (vx_MQ below Qc (Xc Hp S0 A X') args s mc' ms' A) (F0 m pc ls st0) := by
  subst hst
  exact vx_calll (vx_runV (As := As) (rest := rest) S hM (cwV n S.2.2.2.2 (vw_good hw) rfl hrm.1 hrm.2.1 ⟨rfl, hw.2⟩ hrm.2.2) (o_pre hO hC) rfl hn hsize rfl (lv_room hW) hdg hf) hC.2.2 (fun q _ h => h) (fun q h => h) (fun q _ h => h)
    (fun E ce q9 u t H1 locs1 ht hvm _ hB _ _ hS h1 h2 h3 => vx_out (fun x hx => (hnt x hx).elim) hlocks h1 h2 h3 (fun t' ht' hvm' => ⟨(), trivial, ⟨hX E hB.1, by rw [ht', ← ht]; exact hB.2⟩, hS.F ht'⟩) hS.2.2 hm.1 hm.2)
    (fun r u t H1 locs1 ht hvm hp hB _ _ hS => kk r u H1 locs1 hp ⟨hC.1, by rw [← ht]; exact hB, hS⟩)
theorem o_callv (hO : OI y.cls b A Hp Ev) (S : CallFix p m c cc nL s args WA own) (hC : Cn A Hp Ev S0 s H locs) {post : σ → Prop} (hM : Met l y (wsM y bytes maxL ret) rm (PcO Hp Ev S0 (.ref b :: As)) (va_Qv post (fun S' t => Hp S' t.heap) A) mc ms A) (hw : VW own idx y bytes maxL ret n) (hrm : RmOk rm R maxL mc ms) (hn : As.length = n) (hsize : ls.size = nL) (hst : st0 = As.reverse ++ .ref b :: rest) (hW : (rest.map fun v => v.category).sum ≤ 8) (hdg : decode cc pc = .ok (.invokevirtual idx, 3)) (hf : cells + mc ≤ R.cells ∧ slots + ms ≤ R.slots)
    (kk : ∀ (S1 : σ) (H1 : Heap) (locs1 : List Loc), post S1 → Cn A Hp Ev S1 s H1 locs1 → W p l e R s m args below meth c H1 locs1 (cells + mc) (slots + ms) Q (F0 m (pc + 3) ls rest)) : W p l e R s m args below meth c H locs cells slots Q (F0 m pc ls st0) := by
  subst hst
  exact va_callv (va_runV (As := As) (rest := rest) S hM (cwV n S.2.2.2.2 (vw_good hw) rfl hrm.1 hrm.2.1 ⟨rfl, hw.2⟩ hrm.2.2) (o_pre hO hC) rfl hn hsize rfl (lv_room hW) hdg hf) hC.2.2 (fun q _ h => h) (fun q h => h) (fun u t H1 locs1 ht hvm hp hB _ _ hS => kk u H1 locs1 hp ⟨hC.1, by rw [← ht]; exact hB, hS⟩)
theorem o_xcallv (hO : OI y.cls b A Hp Ev) (S : CallFix p m c cc nL s args WA own) (hC : Cn A Hp Ev S0 s H locs) {post : σ → Prop} {X X' : String → Prop} {Qc : Array Value → State → Outcome → State → Prop} (hM : vx_Met l y (wsM y bytes maxL ret) rm (PcO Hp Ev S0 (.ref b :: As)) (va_Qv post (fun S' t => Hp S' t.heap) A) (Xc Hp S0 A X) mc ms A) (hw : VW own idx y bytes maxL ret n) (hrm : RmOk rm R maxL mc ms) (hn : As.length = n) (hsize : ls.size = nL) (hst : st0 = As.reverse ++ .ref b :: rest) (hW : (rest.map fun v => v.category).sum ≤ 8) (hdg : decode cc pc = .ok (.invokevirtual idx, 3)) (hf : cells + mc ≤ R.cells ∧ slots + ms ≤ R.slots)
    (hnt : ∀ x ∈ c.exceptionTable.toList, False) (hlocks : meth.locks = false) (hm : cells + mc ≤ mc' ∧ slots + ms ≤ ms') (hX : ∀ E, X E → X' E)
    (kk : ∀ (S1 : σ) (H1 : Heap) (locs1 : List Loc), post S1 → Cn A Hp Ev S1 s H1 locs1 → W p l e R s m args below meth c H1 locs1 (cells + mc) (slots + ms) (vx_MQ below Qc (Xc Hp S0 A X') args s mc' ms' A) (F0 m (pc + 3) ls rest)) : W p l e R s m args below meth c H locs cells slots (vx_MQ below Qc (Xc Hp S0 A X') args s mc' ms' A) (F0 m pc ls st0) := by
  subst hst
  exact vx_callv (vx_runV (As := As) (rest := rest) S hM (cwV n S.2.2.2.2 (vw_good hw) rfl hrm.1 hrm.2.1 ⟨rfl, hw.2⟩ hrm.2.2) (o_pre hO hC) rfl hn hsize rfl (lv_room hW) hdg hf) hC.2.2 (fun q _ h => h) (fun q h => h) (fun q _ h => h)
    (fun E ce q9 u t H1 locs1 ht hvm _ hB _ _ hS h1 h2 h3 => vx_out (fun x hx => (hnt x hx).elim) hlocks h1 h2 h3 (fun t' ht' hvm' => ⟨(), trivial, ⟨hX E hB.1, by rw [ht', ← ht]; exact hB.2⟩, hS.F ht'⟩) hS.2.2 hm.1 hm.2)
    (fun u t H1 locs1 ht hvm hp hB _ _ hS => kk u H1 locs1 hp ⟨hC.1, by rw [← ht]; exact hB, hS⟩)
theorem s_calli (S : CallFix p m c cc nL s args WA own) {post : Int32 → Prop} (hM : Met l y (wsM y bytes maxL ret) rm (va_Pc As (fun _ => True)) (qSi post) 0 0 (fun _ => False)) (hw : SW own idx y bytes maxL ret n) (hrm : RmOk rm R maxL 0 0) (hn : As.length = n) (hsize : ls.size = nL) (hst : st0 = As.reverse ++ rest) (hW : (rest.map fun v => v.category).sum ≤ 8) (hdg : decode cc pc = .ok (.invokestatic idx, 3)) (hf : cells ≤ R.cells ∧ slots ≤ R.slots)
    (kk : ∀ (r : Int32), post r → W p l e R s m args below meth c H locs cells slots Q (F0 m (pc + 3) ls (.int r :: rest))) : W p l e R s m args below meth c H locs cells slots Q (F0 m pc ls st0) := by
  subst hst
  intro T hT X
  obtain ⟨v, st₀, t, T', L, h0, X', hL, e1, e2, ⟨r, hv, hp, hh⟩, st⟩ := va_runS (As := As) (rest := rest) (g := F0 m pc ls (As.reverse ++ rest)) S hM (va_cwS n S.2.2.2.2 (sw_good hw) rfl hrm.1 hrm.2.1 hw.2 hrm.2.2) ⟨fun a U g mk q => ⟨q.1, trivial⟩, fun U _ _ => ⟨rfl, trivial⟩⟩ rfl hn hsize rfl (lv_room hW) hdg hf T hT X
  cases hv
  have hLn : L = [] := List.eq_nil_iff_forall_not_mem.mpr (fun z hz => hL z hz)
  subst hLn
  rw [List.append_nil] at X'
  obtain ⟨t2, a1, b1⟩ := kk r hp T' (by rw [e1, hh, h0]) X'
  exact ⟨t2, st t2 a1, b1⟩
theorem s_calll (S : CallFix p m c cc nL s args WA own) {post : Int64 → Prop} (hM : Met l y (wsM y bytes maxL ret) rm (va_Pc As (fun _ => True)) (qSl post) 0 0 (fun _ => False)) (hw : SW own idx y bytes maxL ret n) (hrm : RmOk rm R maxL 0 0) (hn : As.length = n) (hsize : ls.size = nL) (hst : st0 = As.reverse ++ rest) (hW : (rest.map fun v => v.category).sum ≤ 8) (hdg : decode cc pc = .ok (.invokestatic idx, 3)) (hf : cells ≤ R.cells ∧ slots ≤ R.slots)
    (kk : ∀ (r : Int64), post r → W p l e R s m args below meth c H locs cells slots Q (F0 m (pc + 3) ls (.long r :: rest))) : W p l e R s m args below meth c H locs cells slots Q (F0 m pc ls st0) := by
  subst hst
  intro T hT X
  obtain ⟨v, st₀, t, T', L, h0, X', hL, e1, e2, ⟨r, hv, hp, hh⟩, st⟩ := va_runS (As := As) (rest := rest) (g := F0 m pc ls (As.reverse ++ rest)) S hM (va_cwS n S.2.2.2.2 (sw_good hw) rfl hrm.1 hrm.2.1 hw.2 hrm.2.2) ⟨fun a U g mk q => ⟨q.1, trivial⟩, fun U _ _ => ⟨rfl, trivial⟩⟩ rfl hn hsize rfl (lv_room hW) hdg hf T hT X
  cases hv
  have hLn : L = [] := List.eq_nil_iff_forall_not_mem.mpr (fun z hz => hL z hz)
  subst hLn
  rw [List.append_nil] at X'
  obtain ⟨t2, a1, b1⟩ := kk r hp T' (by rw [e1, hh, h0]) X'
  exact ⟨t2, st t2 a1, b1⟩
theorem o_enter (hy : plainName y.cls = true) {av : List Value} {Qc : Array Value → State → Outcome → State → Prop} (hlen : (lg_sl av).length ≤ maxL)
    (body : ∀ (p : Program) (e : Env) (s : State) (m : MethodId) (below : List Frame) (meth : Method) (c : Code) (ls : Array Slot), CallFix p m c bytes maxL s av.toArray WA y.cls → meth.sig.returnType = ret → meth.locks = false → Cn A Hp Ev S0 s s.heap [] → lv_has ls maxL (lv_args 0 av) → W p l e rm s m av.toArray below meth c s.heap [] 0 0 (MQ below Qc av.toArray s mc ms A) (F0 m 0 ls [])) : Met l y (wsM y bytes maxL ret) rm (PcO Hp Ev S0 av) Qc mc ms A := by
  refine Met.ofW (cc := bytes) (maxL := maxL) (ret := ret) hy rfl ?_
  intro p e s m args below meth c s₁ B hml hv
  obtain ⟨rfl, hH, hE⟩ := hv
  rw [lg_entry_eq]
  exact body p e s m below meth c _ ⟨B.exec, B.bytes, hml, findClass_of_methodNamed B.named, fun w h => atoms_spec (ws := wsM y bytes maxL ret) B.pre w (List.mem_cons_of_mem _ h)⟩ B.returns B.notSynchronized ⟨hE, hH, va_S.rf⟩ (lv_entry av hlen)
theorem o_enterx (hy : plainName y.cls = true) {av : List Value} {Qc : Array Value → State → Outcome → State → Prop} {XC : String → State → State → Prop} (hlen : (lg_sl av).length ≤ maxL)
    (body : ∀ (p : Program) (e : Env) (s : State) (m : MethodId) (below : List Frame) (meth : Method) (c : Code) (ls : Array Slot), CallFix p m c bytes maxL s av.toArray WA y.cls → meth.sig.returnType = ret → meth.locks = false → (∀ x ∈ c.exceptionTable.toList, False) → Cn A Hp Ev S0 s s.heap [] → lv_has ls maxL (lv_args 0 av) → W p l e rm s m av.toArray below meth c s.heap [] 0 0 (vx_MQ below Qc XC av.toArray s mc ms A) (F0 m 0 ls [])) : vx_Met l y (wsM y bytes maxL ret) rm (PcO Hp Ev S0 av) Qc XC mc ms A := by
  refine vx_ofW (cc := bytes) (maxL := maxL) (ret := ret) hy rfl ?_
  intro p e s m args below meth c s₁ B hml hnt hv
  obtain ⟨rfl, hH, hE⟩ := hv
  rw [lg_entry_eq]
  exact body p e s m below meth c _ ⟨B.exec, B.bytes, hml, findClass_of_methodNamed B.named, fun w h => atoms_spec (ws := wsM y bytes maxL ret) B.pre w (List.mem_cons_of_mem _ h)⟩ B.returns B.notSynchronized hnt ⟨hE, hH, va_S.rf⟩ (lv_entry av hlen)
theorem s_enter (hy : plainName y.cls = true) {av : List Value} {Qc : Array Value → State → Outcome → State → Prop} (hlen : (lg_sl av).length ≤ maxL)
    (body : ∀ (p : Program) (e : Env) (s : State) (m : MethodId) (below : List Frame) (meth : Method) (c : Code) (ls : Array Slot), CallFix p m c bytes maxL s av.toArray WA y.cls → meth.sig.returnType = ret → meth.locks = false → lv_has ls maxL (lv_args 0 av) → W p l e rm s m av.toArray below meth c s.heap [] 0 0 (MQ below Qc av.toArray s 0 0 (fun _ => False)) (F0 m 0 ls [])) : Met l y (wsM y bytes maxL ret) rm (va_Pc av (fun _ => True)) Qc 0 0 (fun _ => False) := by
  refine Met.ofW (cc := bytes) (maxL := maxL) (ret := ret) hy rfl ?_
  intro p e s m args below meth c s₁ B hml hv
  obtain ⟨rfl, -⟩ := hv
  rw [lg_entry_eq]
  exact body p e s m below meth c _ ⟨B.exec, B.bytes, hml, findClass_of_methodNamed B.named, fun w h => atoms_spec (ws := wsM y bytes maxL ret) B.pre w (List.mem_cons_of_mem _ h)⟩ B.returns B.notSynchronized (lv_entry av hlen)
theorem o_iret {ty : FieldType} {v : Int32} {post : Int32 → σ → Prop} (S : CallFix p m c cc nL s args WA own) (hr : meth.sig.returnType = some ty) (hlocks : meth.locks = false) (hC : Cn A Hp Ev S0 s H locs) (hp : post v S0) (hnar : narrow ty (.int v) = .int v) (hdg : decode cc pc = .ok (.ireturn, 1)) (h1 : cells ≤ mc) (h2 : slots ≤ ms) : W p l e R s m args below meth c H locs cells slots (MQ below (va_Qi post (fun S' t => Hp S' t.heap) A) args s mc ms A) (F0 m pc ls [.int v]) :=
  W.widen h1 h2 (W.zret S.1 S.2.1 hr hnar (fun t ht hW => ⟨⟨v, S0, rfl, hp, by show Hp S0 t.heap; rw [ht]; exact hC.2.1⟩, hC.2.2.F ht⟩) hC.2.2.2.2 hdg hlocks)
theorem o_lret {v : Int64} {post : Int64 → σ → Prop} (S : CallFix p m c cc nL s args WA own) (hr : meth.sig.returnType = some .long) (hlocks : meth.locks = false) (hC : Cn A Hp Ev S0 s H locs) (hp : post v S0) (hdg : decode cc pc = .ok (.lreturn, 1)) (h1 : cells ≤ mc) (h2 : slots ≤ ms) : W p l e R s m args below meth c H locs cells slots (MQ below (va_Ql post (fun S' t => Hp S' t.heap) A) args s mc ms A) (F0 m pc ls [.long v]) :=
  W.widen h1 h2 (W.lret S.1 S.2.1 hr (fun t ht hW => ⟨⟨v, S0, rfl, hp, by show Hp S0 t.heap; rw [ht]; exact hC.2.1⟩, hC.2.2.F ht⟩) hC.2.2.2.2 hdg hlocks)
theorem o_vret {post : σ → Prop} (S : CallFix p m c cc nL s args WA own) (hr : meth.sig.returnType = none) (hlocks : meth.locks = false) (hC : Cn A Hp Ev S0 s H locs) (hp : post S0) (hdg : decode cc pc = .ok (.return_, 1)) (h1 : cells ≤ mc) (h2 : slots ≤ ms) : W p l e R s m args below meth c H locs cells slots (MQ below (va_Qv post (fun S' t => Hp S' t.heap) A) args s mc ms A) (F0 m pc ls []) :=
  W.widen h1 h2 (W.vret S.1 S.2.1 hr (fun t ht hW => ⟨⟨S0, rfl, hp, by show Hp S0 t.heap; rw [ht]; exact hC.2.1⟩, hC.2.2.F ht⟩) hC.2.2.2.2 hdg hlocks)
theorem s_iret {ty : FieldType} {v : Int32} {post : Int32 → Prop} (S : CallFix p m c cc nL s args WA own) (hr : meth.sig.returnType = some ty) (hlocks : meth.locks = false) (hp : post v) (hnar : narrow ty (.int v) = .int v) (hdg : decode cc pc = .ok (.ireturn, 1)) : W p l e R s m args below meth c s.heap [] 0 0 (MQ below (qSi post) args s 0 0 (fun _ => False)) (F0 m pc ls [.int v]) :=
  W.zret S.1 S.2.1 hr hnar (fun t ht hW => ⟨v, rfl, hp, ht⟩) (fun q h => by cases h) hdg hlocks
theorem s_lret {v : Int64} {post : Int64 → Prop} (S : CallFix p m c cc nL s args WA own) (hr : meth.sig.returnType = some .long) (hlocks : meth.locks = false) (hp : post v) (hdg : decode cc pc = .ok (.lreturn, 1)) : W p l e R s m args below meth c s.heap [] 0 0 (MQ below (qSl post) args s 0 0 (fun _ => False)) (F0 m pc ls [.long v]) :=
  W.lret S.1 S.2.1 hr (fun t ht hW => ⟨v, rfl, hp, ht⟩) (fun q h => by cases h) hdg hlocks
end OC
section NB
variable {p : Program} {l : Launch} {e : Env} {R : Room} {s : State} {m : MethodId} {args : Array Value} {below : List Frame} {meth : Method} {c : Code} {H : Heap} {locs : List Loc} {cells slots : Nat} {Q : State → Prop}
variable {cc : ByteArray} {pc nL : Nat} {ls : Array Slot} {rest : List Value}
theorem n_icmp_lt {a b : Nat} (hx : p.tables.exec = Jvm.exec) (hb0 : c.code = cc) {off : Int} {tgt : Nat} (hdg : decode cc pc = .ok (.if_icmp .lt off, 3)) (ht : (pc : Int) + off = (tgt : Int)) (ha : a < 2 ^ 31) (hb : b < 2 ^ 31)
    (kt : a < b → W p l e R s m args below meth c H locs cells slots Q (F0 m tgt ls rest)) (kf : b ≤ a → W p l e R s m args below meth c H locs cells slots Q (F0 m (pc + 3) ls rest)) : W p l e R s m args below meth c H locs cells slots Q (F0 m pc ls (.int (nI b) :: .int (nI a) :: rest)) :=
  lv_icmp_lt hx hb0 hdg ht (fun h => kt ((nI_ltI ha hb).mp h)) (fun h => kf ((Nat.not_lt.mp fun q => h ((nI_ltI ha hb).mpr q))))
theorem n_icmp_ge {a b : Nat} (hx : p.tables.exec = Jvm.exec) (hb0 : c.code = cc) {off : Int} {tgt : Nat} (hdg : decode cc pc = .ok (.if_icmp .ge off, 3)) (ht : (pc : Int) + off = (tgt : Int)) (ha : a < 2 ^ 31) (hb : b < 2 ^ 31)
    (kt : b ≤ a → W p l e R s m args below meth c H locs cells slots Q (F0 m tgt ls rest)) (kf : a < b → W p l e R s m args below meth c H locs cells slots Q (F0 m (pc + 3) ls rest)) : W p l e R s m args below meth c H locs cells slots Q (F0 m pc ls (.int (nI b) :: .int (nI a) :: rest)) :=
  lv_icmp_ge hx hb0 hdg ht (fun h => kt ((nI_leI hb ha).mp h)) (fun h => kf ((Nat.not_le.mp fun q => h ((nI_leI hb ha).mpr q))))
theorem n_icmp_gt {a b : Nat} (hx : p.tables.exec = Jvm.exec) (hb0 : c.code = cc) {off : Int} {tgt : Nat} (hdg : decode cc pc = .ok (.if_icmp .gt off, 3)) (ht : (pc : Int) + off = (tgt : Int)) (ha : a < 2 ^ 31) (hb : b < 2 ^ 31)
    (kt : b < a → W p l e R s m args below meth c H locs cells slots Q (F0 m tgt ls rest)) (kf : a ≤ b → W p l e R s m args below meth c H locs cells slots Q (F0 m (pc + 3) ls rest)) : W p l e R s m args below meth c H locs cells slots Q (F0 m pc ls (.int (nI b) :: .int (nI a) :: rest)) :=
  lv_icmp_gt hx hb0 hdg ht (fun h => kt ((nI_ltI hb ha).mp h)) (fun h => kf ((Nat.not_lt.mp fun q => h ((nI_ltI hb ha).mpr q))))
theorem n_icmp_le {a b : Nat} (hx : p.tables.exec = Jvm.exec) (hb0 : c.code = cc) {off : Int} {tgt : Nat} (hdg : decode cc pc = .ok (.if_icmp .le off, 3)) (ht : (pc : Int) + off = (tgt : Int)) (ha : a < 2 ^ 31) (hb : b < 2 ^ 31)
    (kt : a ≤ b → W p l e R s m args below meth c H locs cells slots Q (F0 m tgt ls rest)) (kf : b < a → W p l e R s m args below meth c H locs cells slots Q (F0 m (pc + 3) ls rest)) : W p l e R s m args below meth c H locs cells slots Q (F0 m pc ls (.int (nI b) :: .int (nI a) :: rest)) :=
  lv_icmp_le hx hb0 hdg ht (fun h => kt ((nI_leI ha hb).mp h)) (fun h => kf ((Nat.not_le.mp fun q => h ((nI_leI ha hb).mpr q))))
theorem n_icmp_eq {a b : Nat} (hx : p.tables.exec = Jvm.exec) (hb0 : c.code = cc) {off : Int} {tgt : Nat} (hdg : decode cc pc = .ok (.if_icmp .eq off, 3)) (ht : (pc : Int) + off = (tgt : Int)) (ha : a < 2 ^ 31) (hb : b < 2 ^ 31)
    (kt : a = b → W p l e R s m args below meth c H locs cells slots Q (F0 m tgt ls rest)) (kf : a ≠ b → W p l e R s m args below meth c H locs cells slots Q (F0 m (pc + 3) ls rest)) : W p l e R s m args below meth c H locs cells slots Q (F0 m pc ls (.int (nI b) :: .int (nI a) :: rest)) :=
  lv_icmp_eq hx hb0 hdg ht (fun h => kt ((nI_eq ha hb).mp h)) (fun h => kf ((fun q => h ((nI_eq ha hb).mpr q))))
theorem n_icmp_ne {a b : Nat} (hx : p.tables.exec = Jvm.exec) (hb0 : c.code = cc) {off : Int} {tgt : Nat} (hdg : decode cc pc = .ok (.if_icmp .ne off, 3)) (ht : (pc : Int) + off = (tgt : Int)) (ha : a < 2 ^ 31) (hb : b < 2 ^ 31)
    (kt : a ≠ b → W p l e R s m args below meth c H locs cells slots Q (F0 m tgt ls rest)) (kf : a = b → W p l e R s m args below meth c H locs cells slots Q (F0 m (pc + 3) ls rest)) : W p l e R s m args below meth c H locs cells slots Q (F0 m pc ls (.int (nI b) :: .int (nI a) :: rest)) :=
  lv_icmp_ne hx hb0 hdg ht (fun h => kt ((fun q => h ((nI_eq ha hb).mpr q)))) (fun h => kf ((nI_eq ha hb).mp h))
theorem b_if_eq {b : Bool} (hx : p.tables.exec = Jvm.exec) (hb0 : c.code = cc) {off : Int} {tgt : Nat} (hdg : decode cc pc = .ok (.ifCond .eq off, 3)) (ht : (pc : Int) + off = (tgt : Int))
    (kt : b = false → W p l e R s m args below meth c H locs cells slots Q (F0 m tgt ls rest)) (kf : b = true → W p l e R s m args below meth c H locs cells slots Q (F0 m (pc + 3) ls rest)) : W p l e R s m args below meth c H locs cells slots Q (F0 m pc ls (.int (bI b) :: rest)) :=
  lv_if_eq hx hb0 hdg ht (fun h => kt (bI_0.mp h)) (fun h => kf (bI_n0.mp h))
theorem b_if_ne {b : Bool} (hx : p.tables.exec = Jvm.exec) (hb0 : c.code = cc) {off : Int} {tgt : Nat} (hdg : decode cc pc = .ok (.ifCond .ne off, 3)) (ht : (pc : Int) + off = (tgt : Int))
    (kt : b = true → W p l e R s m args below meth c H locs cells slots Q (F0 m tgt ls rest)) (kf : b = false → W p l e R s m args below meth c H locs cells slots Q (F0 m (pc + 3) ls rest)) : W p l e R s m args below meth c H locs cells slots Q (F0 m pc ls (.int (bI b) :: rest)) :=
  lv_if_ne hx hb0 hdg ht (fun h => kt (bI_n0.mp h)) (fun h => kf (bI_0.mp h))
end NB
