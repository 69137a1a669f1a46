/-! the law: its world and its calls -/
def A0 (s : State) : Nat → Prop := fun q => s.heap.size ≤ q
def LC (loc : Nat → Nat) (g : Gc) (ao : Nat) (locm : Nat → Nat) (gm : Gc) (s : State) : Prop :=
  (KX g s ∧ ZJ loc 21 ∧ KM gm s ∧ ZJ locm 10) ∧ ((∀ w ∈ xwN, va_Nw w s) ∧ vx_Zq Bundle.tN "UNASSIGNED_STACK" Bundle.steD (A0 s) s s.heap ∧ vx_Zq Bundle.tN "SUPPRESSED_SENTINEL" Bundle.listD (A0 s) s s.heap ∧ (∀ q ∈ strsX, ∃ a, vk_R RX0 q.1 q.2 a s) ∧ va_Nc iseS iaeS s ∧ va_Nc nseS iaeS s) ∧
  ((∀ i, i < 22 → A0 s (loc i)) ∧ A0 s ao ∧ (∀ i, i < 11 → A0 s (locm i))) ∧ ((∀ i j, i < 22 → j < 11 → ¬ loc i = locm j) ∧ (∀ i, i < 22 → ao ≠ loc i) ∧ ∀ j, j < 11 → ao ≠ locm j)
def LH (loc : Nat → Nat) (n : Nat) (g : Gc) (ao : Nat) (locm : Nat → Nat) (gm : Gc) (S : RS) (o : Int64) (M : MS) (s : State) (H : Heap) (locs : List Loc) : Prop :=
  HL loc n g ao (S, o) H ∧ HM locm n gm M H ∧ va_S (A0 s) s.heap H locs
section LK
variable {p : Program} {l : Launch} {e : Env} {R : Room} {s : State} {m : MethodId} {args : Array Value} {below : List Frame} {meth : Method} {c : Code} {H : Heap} {locs : List Loc} {cells slots : Nat} {Q : State → Prop}
variable {cc : ByteArray} {pc nL : Nat} {ls : Array Slot} {rest : List Value} {loc locm : Nat → Nat} {n : Nat} {g gm : Gc} {ao : Nat} {S0 : RS} {o : Int64} {M0 : MS} {st0 As : List Value}
variable {idx maxL k : Nat} {y : MethodName} {bytes : ByteArray} {ret : Option FieldType} {hh : List (Nat × Nat × Nat × Nat)}
theorem ev_at (hE : LC loc g ao locm gm s) (hS : va_S (A0 s) s.heap H locs) {U : State} (hU : U.heap = H) (hW : s.WarmedH U.vm) : EvL loc g ao U U.heap := by
  obtain ⟨⟨k1, k2, k3, k4⟩, ⟨h4, h1, h2, h3, h5, h6⟩, ⟨a1, a2, a3⟩, ⟨d1, d2, d3⟩⟩ := hE
  have hk : ∀ a : Nat, a < s.heap.size → ¬ A0 s a → U.heap[a]? = s.heap[a]? := by rw [hU]; exact hS.2.1
  have hZ : ∀ q, ZA loc 21 q → A0 s q := by
    rintro q ⟨i, hi, rfl⟩
    exact a1 i hi
  exact ⟨⟨k1.moved hW.alike, ⟨fun w hw => nw_warm hw hW (h4 w hw), ((h1.kept hk).moved hW.alike).narrow hZ, ((h2.kept hk).moved hW.alike).narrow hZ, fun q hq => (h3 q hq).elim fun a ha => ⟨a, ha.warm hW⟩⟩, k2⟩, d2, h5.moved hW.alike, h6.moved hW.alike⟩
theorem hm_lt {loc : Nat → Nat} {n : Nat} {g : Gc} {S : MS} {H : Heap} (hH : HM loc n g S H) {i : Nat} (hi : i < 11) : loc i < H.size := by
  rcases Nat.eq_zero_or_pos i with h0 | h0
  · subst h0
    obtain ⟨cell, q1, -⟩ := hH.1
    exact (Array.getElem?_eq_some_iff.mp q1).1
  · have q1 := hH.2 (i - 1) (by omega)
    rw [show i - 1 + 1 = i by omega] at q1
    exact (Array.getElem?_eq_some_iff.mp q1).1
def HW (idx : Nat) (y : MethodName) (bytes : ByteArray) (maxL : Nat) (ret : Option FieldType) (hh : List (Nat × Nat × Nat × Nat)) (k : Nat) : Prop :=
  (Cond.methodLink RL idx y ∈ WA ∧ Cond.static y ∈ WA ∧ Cond.initialized y.cls ∈ WA ∧ Cond.codeWith y bytes maxL ret hh ∈ WA) ∧ (y.cls ≠ "java/lang/invoke/MethodHandle" ∧ y.cls ≠ "java/lang/invoke/VarHandle" ∧ (parseMethodDescriptor y.desc).map (fun d => d.parameters.length) = some k)
theorem hw_good (h : HW idx y bytes maxL ret hh k) : GoodIn WA (va_wsS RL idx y (wsH y bytes maxL ret hh)) := by
  obtain ⟨⟨h1, h2, h4, h5⟩, -⟩ := h
  intro w hw
  unfold va_wsS at hw
  rcases List.mem_append.mp hw with q | q
  · simp only [List.mem_cons, List.not_mem_nil, or_false] at q
    rcases q with rfl | rfl | rfl
    · exact wa_gi h1
    · exact wa_gi h2
    · exact wa_gi h4
  · rcases List.mem_cons.mp q with rfl | q
    · exact wa_gi h5
    · exact wa_gi q
theorem lh_call (S : CallFix p m c cc nL s args WA RL) (hE : LC loc g ao locm gm s) (hL : LH loc n g ao locm gm S0 o M0 s H locs) {post : Int32 → RS × Int64 → Prop}
    (hM : Met l y (wsH y bytes maxL ret hh) (rmL 10 8 48) (PcO (HL loc n g ao) (EvL loc g ao) (S0, o) As) (va_Qi post (fun u t => HL loc n g ao u t.heap) (AL loc ao)) (rmL 10 8 48).cells (rmL 10 8 48).slots (AL loc ao))
    (hw : HW idx y bytes maxL ret hh k) (hR : 11 ≤ R.frames ∧ 8 + (maxL + 11) + 400 ≤ R.locals) (hn : As.length = k) (hsize : ls.size = nL) (hst : st0 = As.reverse ++ rest) (hW : (rest.map fun v => v.category).sum ≤ 8) (hdg : decode cc pc = .ok (.invokestatic idx, 3)) (hf : cells + 8 ≤ R.cells ∧ slots + 48 ≤ R.slots)
    (kk : ∀ (r : Int32) (u : RS × Int64) (H1 : Heap) (locs1 : List Loc), post r u → LH loc n g ao locm gm u.1 u.2 M0 s H1 locs1 → W p l e R s m args below meth c H1 locs1 (cells + 8) (slots + 48) Q (F0 m (pc + 3) ls (.int r :: rest))) : W p l e R s m args below meth c H locs cells slots Q (F0 m pc ls st0) := by
  subst hst
  obtain ⟨h1, h2, hS⟩ := hL
  obtain ⟨-, -, ⟨a1, a2, a3⟩, ⟨d1, d2, d3⟩⟩ := id hE
  have hA : ∀ q, AL loc ao q → A0 s q := by
    rintro q (⟨i, hi, rfl⟩ | rfl)
    · exact a1 i hi
    · exact a2
  have hpre : PreS s H (PcO (HL loc n g ao) (EvL loc g ao) (S0, o) As) As := ⟨fun a U g' mk q => ⟨q.1, q.2.1, ⟨(oiX (n := n)).1.2 U g' mk a q.2.2.1, q.2.2.2.1, q.2.2.2.2.1.moved (Vm.Alike.refl U.vm), q.2.2.2.2.2.moved (Vm.Alike.refl U.vm)⟩⟩, fun U hU hW' => ⟨rfl, by rw [hU]; exact h1, ev_at hE hS hU hW'⟩⟩
  exact va_calli (vx_runSW (As := As) (rest := rest) S hM (vx_cwSW k S.2.2.2.2 (hw_good hw) rfl rfl rfl hw.2 ⟨hR.1, hR.2⟩) hpre rfl hn hsize rfl (lv_room hW) hdg hf) hS (fun q _ h => hA q h) (fun q h => hA q h) (fun r u t H1 locs1 ht hvm hp hB hz hk hS1 => kk r u H1 locs1 hp ⟨by rw [← ht]; exact hB, ZH.kept h2 (fun i hi => hk _ (hm_lt h2 hi) (by
    rintro (⟨j, hj, e⟩ | e)
    · exact d1 j i hj hi e.symm
    · exact d3 i hi e.symm)), hS1⟩)
theorem lm_call (S : CallFix p m c cc nL s args WA RL) (hE : LC loc g ao locm gm s) (hL : LH loc n g ao locm gm S0 o M0 s H locs) {post : Int32 → MS → Prop} {rm : Room}
    (hM : MMi l y bytes maxL ret rm locm n gm M0 As post) (hrc : rm.cells = 0 ∧ rm.slots = 0) (hcls : y.cls = RX1)
    (hw : VW RL idx y bytes maxL ret k) (hR : rm.frames + 1 ≤ R.frames ∧ 8 + (maxL + 11) + rm.locals ≤ R.locals) (hn : As.length = k) (hsize : ls.size = nL) (hst : st0 = As.reverse ++ .ref (locm 0) :: rest) (hW : (rest.map fun v => v.category).sum ≤ 8) (hdg : decode cc pc = .ok (.invokevirtual idx, 3)) (hf : cells ≤ R.cells ∧ slots ≤ R.slots)
    (kk : ∀ (r : Int32) (M1 : MS) (H1 : Heap) (locs1 : List Loc), post r M1 → LH loc n g ao locm gm S0 o M1 s H1 locs1 → W p l e R s m args below meth c H1 locs1 cells slots Q (F0 m (pc + 3) ls (.int r :: rest))) : W p l e R s m args below meth c H locs cells slots Q (F0 m pc ls st0) := by
  subst hst
  obtain ⟨h1, h2, hS⟩ := hL
  obtain ⟨⟨k1, k2, k3, k4⟩, -, ⟨a1, a2, a3⟩, ⟨d1, d2, d3⟩⟩ := id hE
  have hA : ∀ q, ZA locm 10 q → A0 s q := by
    rintro q ⟨i, hi, rfl⟩
    exact a3 i hi
  have hC : Cn (A0 s) (HM locm n gm) (EvM locm gm) M0 s H locs := ⟨⟨k3, k4⟩, h2, hS⟩
  have hO : OI y.cls (locm 0) (A0 s) (HM locm n gm) (EvM locm gm) := by rw [hcls]; exact oiN
  refine va_calli (va_runV (As := As) (rest := rest) S hM (cwV k S.2.2.2.2 (vw_good hw) rfl rfl rfl ⟨rfl, hw.2⟩ hR) (o_pre hO hC) rfl hn hsize rfl (lv_room hW) hdg (by rw [hrc.1, hrc.2]; exact hf)) hS (fun q _ h => hA q h) (fun q h => hA q h) (fun r u t H1 locs1 ht hvm hp hB hz hk hS1 => ?_)
  rw [hrc.1, hrc.2]
  refine kk r u H1 locs1 hp ⟨⟨ZH.kept h1.1 (fun i hi => hk _ (hx_lt h1.1 hi) ?_), ?_⟩, by rw [← ht]; exact hB, hS1⟩
  · rintro ⟨j, hj, e⟩
    exact d1 i j hi hj e
  · rw [hk _ (Array.getElem?_eq_some_iff.mp h1.2).1 (by
      rintro ⟨j, hj, e⟩
      exact d3 j hj e)]
    exact h1.2
end LK
