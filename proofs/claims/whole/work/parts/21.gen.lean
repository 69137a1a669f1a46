def Xg {σ : Type} (Hp : σ → Heap → Prop) (A : Nat → Prop) (X : String → σ → Prop) : String → State → State → Prop := vx_X (fun _ : σ => True) (fun E u t => X E u ∧ Hp u t.heap) A
section OG
variable {p : Program} {l : Launch} {e : Env} {R : Room} {s : State} {m : MethodId} {args : Array Value} {below : List Frame} {meth : Method} {c : Code} {H : Heap} {locs : List Loc} {cells slots : Nat} {Q : State → Prop}
variable {cc : ByteArray} {pc nL : Nat} {ls : Array Slot} {rest : List Value}
variable {σ : Type} {A : Nat → Prop} {Hp : σ → Heap → Prop} {Ev : State → Heap → Prop} {S0 : σ} {y : MethodName} {bytes : ByteArray} {maxL n idx mc ms mc' ms' b : Nat} {ret : Option FieldType} {rm : Room} {own : String} {As st0 : List Value}
theorem o_ycalli (hO : OI y.cls b A Hp Ev) (S : CallFix p m c cc nL s args WA own) (hC : Cn A Hp Ev S0 s H locs) {post : Int32 → σ → Prop} {X : String → Prop} {X' : String → σ → Prop} {Qc : Array Value → State → Outcome → State → Prop} (hM : vx_Met l y (wsM y bytes maxL ret) rm (PcO Hp Ev S0 (.ref b :: As)) (va_Qi post (fun S' t => Hp S' t.heap) A) (Xc Hp S0 A X) mc ms A) (hw : VW own idx y bytes maxL ret n) (hrm : RmOk rm R maxL mc ms) (hn : As.length = n) (hsize : ls.size = nL) (hst : st0 = As.reverse ++ .ref b :: rest) (hW : (rest.map fun v => v.category).sum ≤ 8) (hdg : decode cc pc = .ok (.invokevirtual idx, 3)) (hf : cells + mc ≤ R.cells ∧ slots + ms ≤ R.slots)
    (hnt : ∀ x ∈ c.exceptionTable.toList, False) (hlocks : meth.locks = false) (hm : cells + mc ≤ mc' ∧ slots + ms ≤ ms') (hX : ∀ E, X E → X' E S0)
    (kk : ∀ (r : Int32) (S1 : σ) (H1 : Heap) (locs1 : List Loc), post r S1 → Cn A Hp Ev S1 s H1 locs1 → W p l e R s m args below meth c H1 locs1 (cells + mc) (slots + ms) (vx_MQ below Qc (Xg Hp A X') args s mc' ms' A) (F0 m (pc + 3) ls (.int r :: rest))) : W p l e R s m args below meth c H locs cells slots (vx_MQ below Qc (Xg Hp A X') args s mc' ms' A) (F0 m pc ls st0) := by
  subst hst
  exact vx_calli (vx_runV (As := As) (rest := rest) S hM (cwV n S.2.2.2.2 (vw_good hw) rfl hrm.1 hrm.2.1 ⟨rfl, hw.2⟩ hrm.2.2) (o_pre hO hC) rfl hn hsize rfl (lv_room hW) hdg hf) hC.2.2 (fun q _ h => h) (fun q h => h) (fun q _ h => h)
    (fun E ce q9 u t H1 locs1 ht hvm _ hB _ _ hS h1 h2 h3 => vx_out (fun x hx => (hnt x hx).elim) hlocks h1 h2 h3 (fun t' ht' hvm' => ⟨S0, trivial, ⟨hX E hB.1, by rw [ht', ← ht]; exact hB.2⟩, hS.F ht'⟩) hS.2.2 hm.1 hm.2)
    (fun r u t H1 locs1 ht hvm hp hB _ _ hS => kk r u H1 locs1 hp ⟨hC.1, by rw [← ht]; exact hB, hS⟩)
theorem o_ycalll (hO : OI y.cls b A Hp Ev) (S : CallFix p m c cc nL s args WA own) (hC : Cn A Hp Ev S0 s H locs) {post : Int64 → σ → Prop} {X : String → Prop} {X' : String → σ → Prop} {Qc : Array Value → State → Outcome → State → Prop} (hM : vx_Met l y (wsM y bytes maxL ret) rm (PcO Hp Ev S0 (.ref b :: As)) (va_Ql post (fun S' t => Hp S' t.heap) A) (Xc Hp S0 A X) mc ms A) (hw : VW own idx y bytes maxL ret n) (hrm : RmOk rm R maxL mc ms) (hn : As.length = n) (hsize : ls.size = nL) (hst : st0 = As.reverse ++ .ref b :: rest) (hW : (rest.map fun v => v.category).sum ≤ 8) (hdg : decode cc pc = .ok (.invokevirtual idx, 3)) (hf : cells + mc ≤ R.cells ∧ slots + ms ≤ R.slots)
    (hnt : ∀ x ∈ c.exceptionTable.toList, False) (hlocks : meth.locks = false) (hm : cells + mc ≤ mc' ∧ slots + ms ≤ ms') (hX : ∀ E, X E → X' E S0)
    (kk : ∀ (r : Int64) (S1 : σ) (H1 : Heap) (locs1 : List Loc), post r S1 → Cn A Hp Ev S1 s H1 locs1 → W p l e R s m args below meth c H1 locs1 (cells + mc) (slots + ms) (vx_MQ below Qc (Xg Hp A X') args s mc' ms' A) (F0 m (pc + 3) ls (.long r :: rest))) : W p l e R s m args below meth c H locs cells slots (vx_MQ below Qc (Xg Hp A X') args s mc' ms' A) (F0 m pc ls st0) := by
  subst hst
  exact vx_calll (vx_runV (As := As) (rest := rest) S hM (cwV n S.2.2.2.2 (vw_good hw) rfl hrm.1 hrm.2.1 ⟨rfl, hw.2⟩ hrm.2.2) (o_pre hO hC) rfl hn hsize rfl (lv_room hW) hdg hf) hC.2.2 (fun q _ h => h) (fun q h => h) (fun q _ h => h)
    (fun E ce q9 u t H1 locs1 ht hvm _ hB _ _ hS h1 h2 h3 => vx_out (fun x hx => (hnt x hx).elim) hlocks h1 h2 h3 (fun t' ht' hvm' => ⟨S0, trivial, ⟨hX E hB.1, by rw [ht', ← ht]; exact hB.2⟩, hS.F ht'⟩) hS.2.2 hm.1 hm.2)
    (fun r u t H1 locs1 ht hvm hp hB _ _ hS => kk r u H1 locs1 hp ⟨hC.1, by rw [← ht]; exact hB, hS⟩)
theorem o_ycallv (hO : OI y.cls b A Hp Ev) (S : CallFix p m c cc nL s args WA own) (hC : Cn A Hp Ev S0 s H locs) {post : σ → Prop} {X : String → Prop} {X' : String → σ → Prop} {Qc : Array Value → State → Outcome → State → Prop} (hM : vx_Met l y (wsM y bytes maxL ret) rm (PcO Hp Ev S0 (.ref b :: As)) (va_Qv post (fun S' t => Hp S' t.heap) A) (Xc Hp S0 A X) mc ms A) (hw : VW own idx y bytes maxL ret n) (hrm : RmOk rm R maxL mc ms) (hn : As.length = n) (hsize : ls.size = nL) (hst : st0 = As.reverse ++ .ref b :: rest) (hW : (rest.map fun v => v.category).sum ≤ 8) (hdg : decode cc pc = .ok (.invokevirtual idx, 3)) (hf : cells + mc ≤ R.cells ∧ slots + ms ≤ R.slots)
    (hnt : ∀ x ∈ c.exceptionTable.toList, False) (hlocks : meth.locks = false) (hm : cells + mc ≤ mc' ∧ slots + ms ≤ ms') (hX : ∀ E, X E → X' E S0)
    (kk : ∀ (S1 : σ) (H1 : Heap) (locs1 : List Loc), post S1 → Cn A Hp Ev S1 s H1 locs1 → W p l e R s m args below meth c H1 locs1 (cells + mc) (slots + ms) (vx_MQ below Qc (Xg Hp A X') args s mc' ms' A) (F0 m (pc + 3) ls rest)) : W p l e R s m args below meth c H locs cells slots (vx_MQ below Qc (Xg Hp A X') args s mc' ms' A) (F0 m pc ls st0) := by
  subst hst
  exact vx_callv (vx_runV (As := As) (rest := rest) S hM (cwV n S.2.2.2.2 (vw_good hw) rfl hrm.1 hrm.2.1 ⟨rfl, hw.2⟩ hrm.2.2) (o_pre hO hC) rfl hn hsize rfl (lv_room hW) hdg hf) hC.2.2 (fun q _ h => h) (fun q h => h) (fun q _ h => h)
    (fun E ce q9 u t H1 locs1 ht hvm _ hB _ _ hS h1 h2 h3 => vx_out (fun x hx => (hnt x hx).elim) hlocks h1 h2 h3 (fun t' ht' hvm' => ⟨S0, trivial, ⟨hX E hB.1, by rw [ht', ← ht]; exact hB.2⟩, hS.F ht'⟩) hS.2.2 hm.1 hm.2)
    (fun u t H1 locs1 ht hvm hp hB _ _ hS => kk u H1 locs1 hp ⟨hC.1, by rw [← ht]; exact hB, hS⟩)
end OG
section XV
variable {p : Program} {l : Launch} {e : Env} {R : Room} {s : State} {m : MethodId} {args : Array Value} {below : List Frame} {meth : Method} {c : Code} {H : Heap} {locs : List Loc} {cells slots : Nat} {Q : State → Prop}
variable {cc : ByteArray} {pc nL : Nat} {ls : Array Slot} {rest : List Value} {loc : Nat → Nat} {n : Nat} {g : Gc} {S0 : RS} {Qc : Array Value → State → Outcome → State → Prop} {X : String → RS → Prop} {mc ms is : Nat} {tx : String}
theorem x_throw_nseG (hl : l.stackTraces = false) (S : CallFix p m c cc nL s args WA RX0) (hC : CX loc n g S0 s H locs) (hs : (is, tx) ∈ strsX) (hnt : ∀ x ∈ c.exceptionTable.toList, False) (hlocks : meth.locks = false) (hsz : ls.size = nL) (hX : X "java/util/NoSuchElementException" S0)
    (d0 : decode cc pc = .ok (.new 144, 3)) (d3 : decode cc (pc + 3) = .ok (.dup, 1)) (d4 : decode cc (pc + 4) = .ok (.ldc is, 2)) (d6 : decode cc (pc + 6) = .ok (.invokespecial 148, 3)) (d9 : decode cc (pc + 9) = .ok (.athrow, 1))
    (hR : 5 < R.frames ∧ (rest.map fun v => v.category).sum + 82 ≤ R.locals ∧ cells + 1 ≤ R.cells ∧ slots + 6 ≤ R.slots) (hm : cells + 1 ≤ mc ∧ slots + 6 ≤ ms) : W p l e R s m args below meth c H locs cells slots (vx_MQ below Qc (Xg (HX loc n g) (ZA loc 21) X) args s mc ms (ZA loc 21)) (F0 m pc ls rest) := by
  obtain ⟨⟨hK, ⟨h4, hU, hN, hst⟩, hJ⟩, hH, hS⟩ := hC
  obtain ⟨sa, hsa⟩ := hst _ hs
  exact y_throw (by decide +kernel) (by decide +kernel) (by decide +kernel) (by decide +kernel) (by decide) (cls := "java/util/NoSuchElementException") (YY := "java/lang/RuntimeException") (i1 := 13) (b1 := prog_22_method_4_code) (names := ["java/lang/Exception"]) (ik := 144) (ic := 148) S.1 S.2.1 hl S.2.2.2.1 (by decide) (by decide) (S.2.2.2.2 _ w_147) (S.2.2.2.2 _ w_148) hsa (vx_hat (fun w hw => S.2.2.2.2 w (xw_nse w hw)) (B := xwN) (by decide +kernel) (fun w hw => va_Nw.use (nw_tab hw) (h4 w hw))) (by decide +kernel) hU hN hS (hsz.trans S.2.2.1.symm) d0 d3 d4 d6 d9 (fun x hx => (hnt x hx).elim) hR.1 hR.2.1 hR.2.2.1 hR.2.2.2 hlocks
    (fun t hvm hz hk => ⟨S0, trivial, ⟨hX, hH.kept (fun i hi => by
      have hi2 : loc i < H.size := by
        rcases Nat.eq_zero_or_pos i with h0 | h0
        · subst h0
          obtain ⟨cell, q1, -⟩ := hH.1
          exact (Array.getElem?_eq_some_iff.mp q1).1
        · have q1 := hH.2 (i - 1) (by omega)
          rw [show i - 1 + 1 = i by omega] at q1
          exact (Array.getElem?_eq_some_iff.mp q1).1
      exact hk _ hi2)⟩, ⟨Nat.le_trans hS.1 hz, fun q h1 h2 => by rw [hk q (Nat.lt_of_lt_of_le h1 hS.1)]; exact hS.2.1 q h1 h2⟩⟩) hS.2.2 hm.1 hm.2
end XV
abbrev GXi (l : Launch) (y : MethodName) (cc : ByteArray) (maxL : Nat) (ret : Option FieldType) (rm : Room) (loc : Nat → Nat) (n : Nat) (g : Gc) (S0 : RS) (As : List Value) (post : Int32 → RS → Prop) (X : String → RS → Prop) : Prop :=
  vx_Met l y (wsM y cc maxL ret) rm (PcO (HX loc n g) (EvX loc g) S0 (.ref (loc 0) :: As)) (va_Qi post (fun S' t => HX loc n g S' t.heap) (ZA loc 21)) (Xg (HX loc n g) (ZA loc 21) X) rm.cells rm.slots (ZA loc 21)
