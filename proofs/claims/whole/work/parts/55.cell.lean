/-! the law's cell -/
def cel (L : Nat) (xs : Nat → Int32) : Int32 := if 0 < L then xs 0 else 0
set_option maxHeartbeats 4000000 in
theorem c_L_cell (l : Launch) {b L : Nat} {xs : Nat → Int32} (hL : L ≤ 2561) : Met l yL_cell (wsM yL_cell cL_cell 2 (some .int)) (rmL 1 0 0) (va_Pc [.ref b, .int (nI 0)] (fun U => va_X b L xs U U.heap)) (qSi (fun r => r = cel L xs)) 0 0 (fun _ => False) := by
  refine Met.ofW (cc := cL_cell) (maxL := 2) (ret := some .int) (by decide) rfl ?_
  intro p e s m args below meth c s₁ B hml hv
  obtain ⟨rfl, hX⟩ := hv
  have hr := B.returns
  have hlocks := B.notSynchronized
  have S : CallFix p m c cL_cell 2 s ([.ref b, .int (nI 0)] : List Value).toArray WA RL := ⟨B.exec, B.bytes, hml, findClass_of_methodNamed B.named, fun w h => atoms_spec (ws := wsM yL_cell cL_cell 2 (some .int)) B.pre w (List.mem_cons_of_mem _ h)⟩
  have hl := lv_entry ([.ref b, .int (nI 0)]) (n := 2) (Nat.le_of_ble_eq_true rfl)
  rw [lg_entry_eq]
  generalize (lg_sl ([.ref b, .int (nI 0)]) ++ List.replicate (2 - (lg_sl ([.ref b, .int (nI 0)])).length) Slot.unset).toArray = ls at hl ⊢
  have hl : lv_has ls 2 [(0, .ref b), (1, .int (nI 0))] := hl
  have hbl : b < s.heap.size := by
    obtain ⟨scr, h1, -⟩ := hX
    exact (Array.getElem?_eq_some_iff.mp h1).1
  have hS : va_S (fun _ => False) s.heap s.heap [] := va_S.rf
  refine lv_iload_n S.1 S.2.1 dL_cell_0 rfl (lv_at hl 1 rfl) ?_
  refine lv_aload_n S.1 S.2.1 dL_cell_1 rfl (lv_at hl 0 rfl) ?_
  refine va_slen S.1 S.2.1 hX hbl (fun q => q) hS dL_cell_2 ?_
  refine n_icmp_ge (a := 0) (b := L) (tgt := 12) S.1 S.2.1 dL_cell_3 (by decide) (by decide) (by omega) (fun h => ?_) (fun h => ?_)
  · refine lv_iconst (v := 0) S.1 S.2.1 dL_cell_12 rfl ?_
    exact s_iret S hr hlocks (by unfold cel; rw [if_neg (by omega)]) rfl dL_cell_13
  · refine lv_aload_n S.1 S.2.1 dL_cell_6 rfl (lv_at hl 0 rfl) ?_
    refine lv_iload_n S.1 S.2.1 dL_cell_7 rfl (lv_at hl 1 rfl) ?_
    refine va_sld S.1 S.2.1 hX hbl (fun q => q) hS (nI_in h (by omega)) dL_cell_8 ?_
    refine lv_goto (tgt := 13) S.1 S.2.1 dL_cell_9 (by decide) ?_
    exact s_iret S hr hlocks (by unfold cel; rw [if_pos h]; rfl) rfl dL_cell_13
section LG
variable {p : Program} {l : Launch} {e : Env} {R : Room} {s : State} {m : MethodId} {args : Array Value} {below : List Frame} {meth : Method} {c : Code} {H : Heap} {locs : List Loc} {cells slots : Nat} {Q : State → Prop}
variable {cc : ByteArray} {pc nL : Nat} {ls : Array Slot} {rest : List Value} {b L : Nat} {xs : Nat → Int32}
theorem l_cell (S : CallFix p m c cc nL s args WA RL) (hL : L ≤ 2561) (hX : va_X b L xs s H) (hR : 2 ≤ R.frames ∧ 61 ≤ R.locals) (hsize : ls.size = nL) (hW : (rest.map fun v => v.category).sum ≤ 8) (hdg : decode cc pc = .ok (.invokestatic 76, 3)) (hf : cells ≤ R.cells ∧ slots ≤ R.slots)
    (kk : W p l e R s m args below meth c H locs cells slots Q (F0 m (pc + 3) ls (.int (cel L xs) :: rest))) : W p l e R s m args below meth c H locs cells slots Q (F0 m pc ls (.int (nI 0) :: .ref b :: rest)) := by
  intro T hT X
  obtain ⟨v, st₀, t, T', L', h0, X', hL', e1, e2, ⟨r, hv, hp, hh⟩, st⟩ := va_runS (As := [.ref b, .int (nI 0)]) (rest := rest) (g := F0 m pc ls (.int (nI 0) :: .ref b :: rest)) S (c_L_cell l (b := b) (xs := xs) hL) (va_cwS 2 S.2.2.2.2 (sw_good cw_RL_L_cell) rfl rfl rfl cw_RL_L_cell.2 ⟨by show 1 + 1 ≤ _; omega, by show _ + 40 * 1 ≤ _; omega⟩) ⟨fun a U g mk q => ⟨q.1, va_X.moved (u := U) (U := U.calling g mk a) (Vm.Alike.refl U.vm) q.2⟩, fun U hU hW' => ⟨rfl, by show va_X b L xs U U.heap; rw [hU]; exact va_X.moved hW'.alike hX⟩⟩ rfl rfl hsize rfl (lv_room hW) hdg hf T hT X
  cases hv
  have hLn : L' = [] := List.eq_nil_iff_forall_not_mem.mpr (fun z hz => hL' z hz)
  subst hLn
  rw [List.append_nil] at X'
  rw [hp] at st
  obtain ⟨t2, a1, b1⟩ := kk T' (by rw [e1, hh, h0]) X'
  exact ⟨t2, st t2 a1, b1⟩
end LG
