section LQ
variable {p : Program} {l : Launch} {e : Env} {R : Room} {s : State} {m : MethodId} {below : List Frame} {meth : Method} {c : Code} {H : Heap} {locs : List Loc} {cells slots : Nat} {Q : State → Prop} {args : Array Value} {cc : ByteArray} {nL pc : Nat}
variable {ls : Array Slot} {rest : List Value} {loc locm : Nat → Nat} {n : Nat} {g gm : Gc} {ao : Nat} {S0 : RS} {o : Int64} {M0 : MS} {b L i : Nat} {xs : Nat → Int32}
theorem lc_clear (S : CallFix p m c cc nL s args WA RL) (hn : n ≤ 40) (hE : LC loc g ao locm gm s) (hL : LH loc n g ao locm gm S0 o M0 s H locs) (hR : 3 ≤ R.frames ∧ 101 ≤ R.locals) (hsize : ls.size = nL) (hW : (rest.map fun v => v.category).sum ≤ 8) (hdg : decode cc pc = .ok (.invokevirtual 88, 3)) (hf : cells ≤ R.cells ∧ slots ≤ R.slots)
    (kk : ∀ (H1 : Heap) (locs1 : List Loc), LH loc n g ao locm gm (clrF S0) o M0 s H1 locs1 → W p l e R s m args below meth c H1 locs1 cells slots Q (F0 m (pc + 3) ls (.int (S0.1 0) :: rest))) : W p l e R s m args below meth c H locs cells slots Q (F0 m pc ls (.ref (loc 0) :: rest)) := by
  obtain ⟨h1, h2, hS⟩ := hL
  obtain ⟨⟨k1, k2, k3, k4⟩, -, ⟨a1, a2, a3⟩, ⟨d1, d2, d3⟩⟩ := id hE
  have hA : ∀ q, ZA loc 21 q → A0 s q := by
    rintro q ⟨i, hi, rfl⟩
    exact a1 i hi
  have hpre : PreV s H RX0 (loc 0) (PcO (HX loc n g) (EvX loc g) S0 (.ref (loc 0) :: [])) [] := by
    refine ⟨fun a U g' mk q => ⟨q.1, q.2.1, (oiX (n := n)).1.2 U g' mk a q.2.2⟩, ?_, fun U hU hW' => ⟨rfl, by rw [hU]; exact h1.1, (ev_at hE hS hU hW').1⟩⟩
    obtain ⟨cell, q1, q2, q3, -⟩ := h1.1.1
    exact ⟨cell, q1, by rw [q3]; rfl, by rw [q2]; exact k1.1.2.1⟩
  refine va_calli (va_runV (As := []) (rest := rest) S (c_X0_clear l hn (S0 := S0) (loc := loc) (g := g)) (cwV 0 S.2.2.2.2 (vw_good cw_RL_X0_clear) rfl rfl rfl ⟨rfl, cw_RL_X0_clear.2⟩ ⟨by show 2 + 1 ≤ _; omega, by show _ + 40 * 2 ≤ _; omega⟩) hpre rfl rfl hsize rfl (lv_room hW) hdg hf) hS (fun q _ h => hA q h) (fun q h => hA q h) (fun r u t H1 locs1 ht hvm hp hB hz hk hS1 => ?_)
  obtain ⟨rfl, rfl⟩ := hp
  refine kk H1 locs1 ⟨⟨by rw [← ht]; exact hB, ?_⟩, ZH.kept h2 (fun i hi => hk _ (hm_lt h2 hi) ?_), hS1⟩
  · rw [hk _ (Array.getElem?_eq_some_iff.mp h1.2).1 (by
      rintro ⟨j, hj, e⟩
      exact d2 j hj e)]
    exact h1.2
  · rintro ⟨j, hj, e⟩
    exact d1 j i hj hi e.symm
theorem lw_clear (S : CallFix p m c cL_law 7 s #[.ref b] WA RL) (hn : n ≤ 40) (hE : LC loc g ao locm gm s) (hRm : 20 ≤ R.frames ∧ 5000 ≤ R.locals) (hf : cells + 8 ≤ R.cells ∧ slots + 48 ≤ R.slots) (hSim : Sim n S0 M0) (hL : LH loc n g ao locm gm S0 o M0 s H locs) (hl : lv_has ls 7 [(4, .int (nI i)), (0, .ref b), (1, .ref (loc 0)), (2, .ref (locm 0)), (3, .ref ao)]) (kk : ∀ (S1 : RS) (o1 : Int64) (M1 : MS) (H1 : Heap) (locs1 : List Loc) (ls1 : Array Slot), Sim n S1 M1 → LH loc n g ao locm gm S1 o1 M1 s H1 locs1 → lv_has ls1 7 [(4, .int (nI i)), (0, .ref b), (1, .ref (loc 0)), (2, .ref (locm 0)), (3, .ref ao)] → W p l e R s m #[.ref b] below meth c H1 locs1 (cells + 8) (slots + 48) Q (F0 m 1475 ls1 [])) : W p l e R s m #[.ref b] below meth c H locs cells slots Q (F0 m 140 ls []) := by
  obtain ⟨R0, t, q, hs⟩ := id hSim
  refine lv_aload_n S.1 S.2.1 dL_law_140 rfl (lv_at hl 2 rfl) ?_
  refine lc_clear S hn hE hL ⟨by omega, by omega⟩ hl.1 (Nat.le_of_ble_eq_true rfl) dL_law_141 ⟨by omega, by omega⟩ (fun H locs hL => ?_)
  refine lv_aload_n S.1 S.2.1 dL_law_144 rfl (lv_at hl 3 rfl) ?_
  refine lm_call (As := []) S hE hL (c_X1_clear l hn) ⟨rfl, rfl⟩ rfl cw_RL_X1_clear ⟨by show 2 + 1 ≤ _; omega, by show _ + 40 * 2 ≤ _; omega⟩ rfl hl.1 rfl (Nat.le_of_ble_eq_true rfl) dL_law_145 ⟨by omega, by omega⟩ (fun v M1 H locs hq hL2 => ?_)
  obtain ⟨hq1, rfl⟩ := hq
  rw [hq1] at hL2
  refine lv_icmp_eq (tgt := 1475) S.1 S.2.1 dL_law_148 (by decide) (fun _ => ?_) (fun hne => absurd (hs.1.2.2.2.1.trans hs.1.2.2.2.2.1.symm) hne)
  refine W.widen (k := cells + 8) (n := slots + 48) (by omega) (by omega) ?_
  exact kk _ _ _ H locs ls (Sim_clear hn hSim _) hL2 hl
end LQ
