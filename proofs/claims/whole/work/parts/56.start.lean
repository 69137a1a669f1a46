/-! the law's start -/
theorem xwN_in : ∀ w ∈ xwN, w ∈ lw_tbl := fun w h => of_decide_eq_true (List.all_eq_true.mp (show xwN.all (fun w => decide (w ∈ lw_tbl)) = true by decide +kernel) w h)
theorem strs_in : ∀ q ∈ strsX, Cond.stringRef RX0 q.1 q.2 ∈ lw_tbl := fun q h => of_decide_eq_true (List.all_eq_true.mp (show strsX.all (fun q => decide (Cond.stringRef RX0 q.1 q.2 ∈ lw_tbl)) = true by decide +kernel) q h)
theorem strs_ex : ∀ q ∈ strsX, Cond.exactly (.string RX0 q.1) "java/lang/String" ∈ flatC (Jvm.Cond.and given_1 narrow_1) := fun q h => of_decide_eq_true (List.all_eq_true.mp (show strsX.all (fun q => decide (Cond.exactly (.string RX0 q.1) "java/lang/String" ∈ flatC (Jvm.Cond.and given_1 narrow_1))) = true by decide +kernel) q h)
theorem lc_e {s : State} {b : Nat} (hts : ∀ w ∈ lw_tbl, w.before #[Value.ref b] s = true) (hgv : (Jvm.Cond.and given_1 narrow_1).before #[Value.ref b] s = true) :
    (∀ w ∈ xwN, va_Nw w s) ∧ vx_Zq Bundle.tN "UNASSIGNED_STACK" Bundle.steD (A0 s) s s.heap ∧ vx_Zq Bundle.tN "SUPPRESSED_SENTINEL" Bundle.listD (A0 s) s s.heap ∧ (∀ q ∈ strsX, ∃ a, vk_R RX0 q.1 q.2 a s) ∧ va_Nc iseS iaeS s ∧ va_Nc nseS iaeS s := by
  have hg := flat_of_before _ hgv
  have hA : ∀ a : Nat, a < s.heap.size → ¬ A0 s a := fun a h q => absurd h (Nat.not_lt.mpr q)
  refine ⟨fun w hw => va_Nw.of (nw_tab hw) (hts w (xwN_in w hw)), vx_Zqof (hts _ (by decide +kernel)) (hts _ (by decide +kernel)) (hg _ (by decide +kernel)) hA, vx_Zqof (hts _ (by decide +kernel)) (hts _ (by decide +kernel)) (hg _ (by decide +kernel)) hA, fun q hq => ?_, va_Nc.of (hg _ (by decide +kernel)), va_Nc.of (hg _ (by decide +kernel))⟩
  obtain ⟨a, -, -, -, q1, -⟩ := Cond.exactly_spec (hg _ (strs_ex q hq))
  exact ⟨a, vk_R.of (hts _ (strs_in q hq)) q1⟩
theorem fs0X_ok : ∀ j, j < 14 → defaultValue (tyX0 j) = vp_V fs0X j := fun j hj => match j, hj with
  | 0, _ => rfl
  | 1, _ => rfl
  | 2, _ => rfl
  | 3, _ => rfl
  | 4, _ => rfl
  | 5, _ => rfl
  | 6, _ => rfl
  | 7, _ => rfl
  | 8, _ => rfl
  | 9, _ => rfl
  | 10, _ => rfl
  | 11, _ => rfl
  | 12, _ => rfl
  | 13, _ => rfl
  | q + 14, h => absurd h (by omega)
theorem fs0M_ok : ∀ j, j < 14 → defaultValue (tyX1 j) = vp_V fs0M j := fun j hj => match j, hj with
  | 0, _ => rfl
  | 1, _ => rfl
  | 2, _ => rfl
  | 3, _ => rfl
  | 4, _ => rfl
  | 5, _ => rfl
  | 6, _ => rfl
  | 7, _ => rfl
  | 8, _ => rfl
  | 9, _ => rfl
  | 10, _ => rfl
  | 11, _ => rfl
  | 12, _ => rfl
  | 13, _ => rfl
  | q + 14, h => absurd h (by omega)
set_option maxHeartbeats 8000000 in
set_option maxRecDepth 100000 in
/-- THE LAW, from its entry -/
theorem whole_start {p : Program} {e : Env} {s : State} {m : MethodId} {below : List Frame} {meth : Method} {c : Code} (l : Launch) (hs0 : l.stackTraces = false) {b L : Nat} {xs : Nat → Int32} (hL : L ≤ 2561) (C0 : lw_At p s m meth c b L xs) : W p l e room_1 s m #[Value.ref b] below meth c s.heap [] 0 0 (lw_Z below #[Value.ref b] s) (entryFrame m ([Value.ref b] : List Value).toArray 7) := by
  obtain ⟨hx, hb, hr, hml, hown, hts, hX, hbl, hlocks, hgv⟩ := id C0
  have htW : ∀ w ∈ WA, w.before #[Value.ref b] s = true := fun w h => hts w (wa_tbl h)
  have S : CallFix p m c cL_law 7 s #[Value.ref b] WA RL := ⟨hx, hb, hml, hown, htW⟩
  have hbA : ¬ A0 s b := Nat.not_le.mpr hbl
  obtain ⟨c0, iS0, hKn0⟩ := u_known (C := RX0) (T := TX0) (N := 14) (n := 14) htW inX0 (htW _ w_415)
  obtain ⟨c1, iS1, hKn1⟩ := u_known (C := RX1) (T := TX1) (N := 14) (n := 14) htW inX1 (htW _ w_417)
  obtain ⟨D, hKc⟩ : ∃ D : va_G, ∀ (k : Nat) (q : vw_C), lwCl[k]? = some q → u_Kn s q.1 q.2.1 q.2.2 (D.1 k) (D.2 k) := by
    refine ⟨(fun k => if k = 0 then c0 else c1, fun k => if k = 0 then iS0 else iS1), ?_⟩
    intro k q hq
    match k, hq with
    | 0, hq => cases hq; exact hKn0
    | 1, hq => cases hq; exact hKn1
    | k + 2, hq => simp [lwCl] at hq
  have hK : va_K D lwCl [] s := ⟨hKc, fun k q h => by simp at h⟩
  have hPn : ∀ H : Heap, va_P D lwCl [] H := fun H k q h => by simp at h
  have hDn : ∀ A : Nat → Prop, va_D A [] := fun A => ⟨fun i j p q h => by simp at h, fun k q h => by simp at h⟩
  have hov : (Cond.arrayOver (.array .long)).before #[Value.ref b] s = true := hts _ (by decide +kernel)
  have hl := lv_entry ([.ref b]) (n := 7) (Nat.le_of_ble_eq_true rfl)
  rw [lg_entry_eq]
  generalize (lg_sl ([.ref b]) ++ List.replicate (7 - (lg_sl ([.ref b])).length) Slot.unset).toArray = ls at hl ⊢
  have hl : lv_has ls 7 [(0, .ref b)] := hl
  have hS : va_S (A0 s) s.heap s.heap [] := va_S.rf
  refine va_new (ci := 0) (fs := fs0X) (C := RX0) (T := TX0) (N := 14) hx hb htW inX0 tyX0 tyX0_ok hown (htW _ w_414) (htW _ w_415) (htW _ w_40) hK (hPn _) (hDn (A0 s)) hS (fun _ h => h) rfl fs0X_ok (Nat.le_of_ble_eq_true rfl) (Nat.le_of_ble_eq_true rfl) dL_law_0 (fun q0 H hP hD hS => ?_)
  have hP : va_P D lwCl [(q0, .inr (0, fs0X))] H := hP
  have hD : va_D (A0 s) [(q0, .inr (0, fs0X))] := hD
  have hq0 : A0 s q0 := hD.2 0 (q0, .inr (0, fs0X)) rfl
  have hq0H : q0 < H.size := (hP 0 (q0, .inr (0, fs0X)) rfl).lt
  refine lv_dup hx hb dL_law_3 rfl ?_
  refine lv_aload_n hx hb dL_law_4 rfl (lv_at hl 0 rfl) ?_
  refine lv_iconst (v := nI 0) hx hb dL_law_5 rfl ?_
  refine l_cell S hL (hX.kept (hS.2.1 b hbl hbA)) (by decide) hl.1 (Nat.le_of_ble_eq_true rfl) dL_law_6 ⟨Nat.le_of_ble_eq_true rfl, Nat.le_of_ble_eq_true rfl⟩ ?_
  have hF : ∀ q, AI q0 H.size q → A0 s q := fun q h => h.elim (fun e => by rw [e]; exact hq0) (fun h => Nat.le_trans hS.1 h)
  refine va_callv (va_runI (As := [.int (cel L xs)]) (rest := [.ref q0]) S (c_X0_init l (D := D) hq0H (cel L xs)) (cwI 1 htW (wsM_good w_0) rfl rfl rfl (htW _ w_40) (htW _ w_421) (htW _ w_422) rfl (by decide +kernel) ⟨Nat.le_of_ble_eq_true rfl, Nat.le_of_ble_eq_true rfl⟩) ⟨fun a U g mk q => ⟨q.1, q.2.1, q.2.2.1, va_K.moved (u := U) (U := U.calling g mk a) (Vm.Alike.refl U.vm) q.2.2.2.1, over_mv (s := U) (U := U.calling g mk a) (Vm.Alike.refl U.vm) q.2.2.2.2⟩, fun U hU hW => ⟨rfl, by rw [hU], by rw [hU]; exact hP, va_K.moved hW.alike hK, over_mv hW.alike hov⟩⟩ rfl rfl hl.1 rfl (lv_room (Nat.le_of_ble_eq_true rfl)) dL_law_9 ⟨Nat.le_of_ble_eq_true rfl, Nat.le_of_ble_eq_true rfl⟩) hS (fun q _ h => hF q h) hF (fun u t H1 locs1 ht hvm hw hB hz1 hk1 hS1 => ?_)
  obtain ⟨loc, g⟩ := u
  obtain ⟨hl0, hlr⟩ := hw
  obtain ⟨hHX, hKX, hZJ⟩ := hB
  dsimp only at hl0 hlr hHX hKX hZJ
  rw [ht] at hHX
  have hKX : KX g s := hKX.moved hvm.symm
  have hLA : ∀ i, i < 22 → A0 s (loc i) := fun i hi => by
    rcases Nat.eq_zero_or_pos i with h0 | h0
    · rw [h0, hl0]; exact hq0
    · exact Nat.le_trans hS.1 (hlr i h0 hi)
  refine lv_astore_n (lv' := [(1, .ref q0), (0, .ref b)]) hx hb dL_law_12 rfl hl (by decide) rfl (fun ls hl => ?_)
  refine va_forget (fun q hq => hS1.2.2 q hq) ?_
  refine va_new (ci := 1) (fs := fs0M) (C := RX1) (T := TX1) (N := 14) (H0 := H1) (A := fun q => H1.size ≤ q) hx hb htW inX1 tyX1 tyX1_ok hown (htW _ w_416) (htW _ w_417) (htW _ w_231) hK (hPn _) (hDn _) va_S.rf (fun _ h => h) rfl fs0M_ok (Nat.le_of_ble_eq_true rfl) (Nat.le_of_ble_eq_true rfl) dL_law_13 (fun q1 H2 hP2 hD2 hS2 => ?_)
  have hP2 : va_P D lwCl [(q1, .inr (1, fs0M))] H2 := hP2
  have hq1 : H1.size ≤ q1 := hD2.2 0 (q1, .inr (1, fs0M)) rfl
  have hq1H : q1 < H2.size := (hP2 0 (q1, .inr (1, fs0M)) rfl).lt
  have hz2 : H1.size ≤ H2.size := hS2.1
  have hSs : va_S (A0 s) s.heap H2 [] := ⟨Nat.le_trans hS1.1 hS2.1, fun q h1 h2 => (hS2.2.1 q (Nat.lt_of_lt_of_le h1 hS1.1) (Nat.not_le.mpr (Nat.lt_of_lt_of_le h1 hS1.1))).trans (hS1.2.1 q h1 h2), fun _ h => by cases h⟩
  have hlt : ∀ i, i < 22 → loc i < H1.size := fun i hi => hx_lt hHX hi
  have hHX2 : HX loc (clN (cel L xs)) g iniX H2 := ZH.kept hHX (fun i hi => hS2.2.1 _ (hlt i hi) (Nat.not_le.mpr (hlt i hi)))
  refine lv_dup hx hb dL_law_16 rfl ?_
  refine lv_aload_n hx hb dL_law_17 rfl (lv_at hl 1 rfl) ?_
  refine lv_iconst (v := nI 0) hx hb dL_law_18 rfl ?_
  refine l_cell S hL (hX.kept (hSs.2.1 b hbl hbA)) (by decide) hl.1 (Nat.le_of_ble_eq_true rfl) dL_law_19 ⟨Nat.le_of_ble_eq_true rfl, Nat.le_of_ble_eq_true rfl⟩ ?_
  have hF2 : ∀ q, AI q1 H2.size q → A0 s q := fun q h => h.elim (fun e => by rw [e]; exact Nat.le_trans hS1.1 hq1) (fun h => Nat.le_trans hSs.1 h)
  refine va_callv (va_runI (As := [.int (cel L xs)]) (rest := [.ref q1]) S (c_X1_init l (D := D) hq1H (cel L xs)) (cwI 1 htW (wsM_good w_216) rfl rfl rfl (htW _ w_231) (htW _ w_423) (htW _ w_424) rfl (by decide +kernel) ⟨Nat.le_of_ble_eq_true rfl, Nat.le_of_ble_eq_true rfl⟩) ⟨fun a U g mk q => ⟨q.1, q.2.1, q.2.2.1, va_K.moved (u := U) (U := U.calling g mk a) (Vm.Alike.refl U.vm) q.2.2.2⟩, fun U hU hW => ⟨rfl, by rw [hU], by rw [hU]; exact hP2, va_K.moved hW.alike hK⟩⟩ rfl rfl hl.1 rfl (lv_room (Nat.le_of_ble_eq_true rfl)) dL_law_22 ⟨Nat.le_of_ble_eq_true rfl, Nat.le_of_ble_eq_true rfl⟩) hSs (fun q _ h => hF2 q h) hF2 (fun u t H3 locs3 ht3 hvm3 hw3 hB3 hz3 hk3 hS3 => ?_)
  obtain ⟨locm, gm⟩ := u
  obtain ⟨hm0, hmr⟩ := hw3
  obtain ⟨hHM, hKM, hZJm⟩ := hB3
  dsimp only at hm0 hmr hHM hKM hZJm
  rw [ht3] at hHM
  have hKM : KM gm s := ⟨u_Kn_moved hvm3.symm hKM.1, arrOfT_moved hvm3.symm hKM.2.1, arrOfT_moved hvm3.symm hKM.2.2⟩
  have hmg : ∀ j, j < 11 → H1.size ≤ locm j := fun j hj => by
    rcases Nat.eq_zero_or_pos j with h0 | h0
    · rw [h0, hm0]; exact hq1
    · exact Nat.le_trans hz2 (hmr j h0 hj)
  have hHX3 : HX loc (clN (cel L xs)) g iniX H3 := ZH.kept hHX2 (fun i hi => hk3 _ (Nat.lt_of_lt_of_le (hlt i hi) hz2) (by
    have := hlt i hi
    rintro (h | h)
    · omega
    · omega))
  refine lv_astore_n (lv' := [(2, .ref q1), (1, .ref q0), (0, .ref b)]) hx hb dL_law_25 rfl hl (by decide) rfl (fun ls hl => ?_)
  refine lv_iconst (v := nI 1) hx hb dL_law_26 rfl ?_
  refine va_newaK (atype := .long) (n := nI 1) (N := 1) (rest := []) hx hb (htW _ w_20) rfl dL_law_27 rfl (by decide) (by decide) (by decide) (Nat.le_of_ble_eq_true rfl) (Nat.le_of_ble_eq_true rfl) (h := H3.size) rfl (fun H4 cA e1 z1 o1 hAr hNm => ?_)
  have ec : cA = g.2 3 := Option.some.inj (hNm.symm.trans (show s.vm.findClass ("[" ++ (newarray.typeOf ArrayType.long).toString) = some (g.2 3) from hKX.2.2.2.2))
  subst ec
  have hS4 : va_S (A0 s) s.heap H4 locs3 := ⟨Nat.le_trans hS3.1 (by omega), fun q h1 h2 => (o1 q (Nat.lt_of_lt_of_le h1 hS3.1)).trans (hS3.2.1 q h1 h2), hS3.2.2⟩
  have hHX4 : HX loc (clN (cel L xs)) g iniX H4 := ZH.kept hHX3 (fun i hi => o1 _ (hx_lt hHX3 hi))
  have hHM4 : HM locm (clN (cel L xs)) gm (begF iniM) H4 := ZH.kept hHM (fun i hi => o1 _ (hm_lt hHM hi))
  have hE : LC loc g H3.size locm gm s := ⟨⟨hKX, hZJ, hKM, hZJm⟩, lc_e hts hgv, ⟨hLA, hS3.1, fun i hi => Nat.le_trans hS1.1 (hmg i hi)⟩, ⟨fun i j hi hj e => by
    have h1 := hlt i hi
    have h2 := hmg j hj
    omega, fun i hi e => by
    have h1 := hx_lt hHX3 hi
    omega, fun j hj e => by
    have h1 := hm_lt hHM hj
    omega⟩⟩
  show W p l e room_1 s m #[Value.ref b] below meth c H4 locs3 _ _ (lw_Z below #[Value.ref b] s) (F0 m 29 ls [.ref H3.size])
  refine lv_astore_n (lv' := [(3, .ref H3.size), (2, .ref q1), (1, .ref q0), (0, .ref b)]) hx hb dL_law_29 rfl hl (by decide) rfl (fun ls hl => ?_)
  refine lv_iconst (v := nI 1) hx hb dL_law_30 rfl ?_
  refine lv_istore (lv' := [(4, .int (nI 1)), (3, .ref H3.size), (2, .ref q1), (1, .ref q0), (0, .ref b)]) hx hb dL_law_31 hl (by decide) rfl (fun ls hl => ?_)
  refine W.widen (k := 100 + 8 * 1) (n := 30000 + 48 * 1) (Nat.le_of_ble_eq_true rfl) (Nat.le_of_ble_eq_true rfl) ?_
  have hn : clN (cel L xs) ≤ 40 := (clN_in _).2
  have hl2 : lv_has ls 7 [(4, .int (nI 1)), (0, .ref b), (1, .ref (loc 0)), (2, .ref (locm 0)), (3, .ref H3.size)] := by
    rw [hl0, hm0]
    exact lv_sub hl [0, 4, 3, 2, 1] rfl
  exact law_loop hs0 hL hn S hr hlocks hX hbl hE (L + 6) 1 (by omega) (by omega) iniX 0 (begF iniM) H4 locs3 ls (Sim_ini hn) ⟨⟨hHX4, e1⟩, hHM4, hS4⟩ hl2
