theorem posM : ∀ i, i < 11 → ∀ j, j < 11 → (if i < 5 then i else if i < 8 then i + 1 else if i = 8 then 10 else if i = 9 then 5 else 9) = (if j < 5 then j else if j < 8 then j + 1 else if j = 8 then 10 else if j = 9 then 5 else 9) → i = j := by decide
theorem oiN {loc : Nat → Nat} {n : Nat} {g : Gc} {A : Nat → Prop} : OI RX1 (loc 0) A (HM loc n g) (EvM loc g) := by
  refine ⟨⟨fun s U H locs hE hU hW hS => ⟨hE.1.moved hW.alike, hE.2⟩, fun U gg mk a hE => ⟨hE.1.moved (Vm.Alike.refl U.vm), hE.2⟩⟩, fun s S H hE hH => ?_⟩
  obtain ⟨cell, q1, q2, q3, -⟩ := hH.1
  exact ⟨cell, q1, by rw [q3]; rfl, by rw [q2]; exact hE.1.1.2.1⟩
set_option maxRecDepth 100000 in
set_option maxHeartbeats 8000000 in
theorem c_X1_init (l : Launch) {D : va_G} {h0 sz : Nat} (hh : h0 < sz) (x : Int32) : Met l yX1_init (wsM yX1_init cX1_init 2 none) rmJ (va_Pc [.ref h0, .int x] (fun U => U.heap.size = sz ∧ va_P D lwCl [(h0, .inr (1, fs0M))] U.heap ∧ va_K D lwCl [] U)) (va_Qv (fun u : (Nat → Nat) × Gc => u.1 0 = h0 ∧ ∀ i, 1 ≤ i → i < 11 → sz ≤ u.1 i) (fun u t => HM u.1 (clN x) u.2 (begF iniM) t.heap ∧ KM u.2 t ∧ ZJ u.1 10) (AI h0 sz)) 10 23000 (AI h0 sz) := by
  refine Met.ofW (cc := cX1_init) (maxL := 2) (ret := none) (by decide) rfl ?_
  intro p e s m args below meth c s₁ B hml hv
  obtain ⟨rfl, hsz, hP, hK⟩ := hv
  have hr := B.returns
  have hlocks := B.notSynchronized
  have hin : meth.name = "<init>" := (name_of_methodNamed B.named B.method).1
  have S : CallFix p m c cX1_init 2 s ([.ref h0, .int x] : List Value).toArray WA RX1 := ⟨B.exec, B.bytes, hml, findClass_of_methodNamed B.named, fun w h => atoms_spec (ws := wsM yX1_init cX1_init 2 none) B.pre w (List.mem_cons_of_mem _ h)⟩
  subst hsz
  obtain ⟨hN1, hN40⟩ := clN_in x
  have hcl : ∀ k, k < 2 ^ 31 → (nI k).toNatClampNeg = k := fun k h => nI_clamp h
  have hA : ∀ q : Nat, s.heap.size ≤ q → AI h0 s.heap.size q := fun q h => Or.inr h
  have hS : va_S (AI h0 s.heap.size) s.heap s.heap [] := va_S.rf
  have hD : va_D (AI h0 s.heap.size) [(h0, .inr (1, fs0M))] := ⟨fun i j p q hp hq _ => by
    have e1 := (List.getElem?_eq_some_iff.mp hp).1
    have e2 := (List.getElem?_eq_some_iff.mp hq).1
    simp at e1 e2
    omega, fun k q hk => by
    have e1 := (List.getElem?_eq_some_iff.mp hk).1
    simp at e1
    subst e1
    cases hk
    exact Or.inl rfl⟩
  have hP : va_P D lwCl [(h0, .inr (1, [.int 0, .int 0, .null, .int 0, .null, .null, .null, .null, .int 0, .null, .null, .null, .null, .null]))] s.heap := hP
  have hD : va_D (AI h0 s.heap.size) [(h0, .inr (1, [.int 0, .int 0, .null, .int 0, .null, .null, .null, .null, .int 0, .null, .null, .null, .null, .null]))] := hD
  have hl := lv_entry ([.ref h0, .int x]) (n := 2) (Nat.le_of_ble_eq_true rfl)
  rw [lg_entry_eq]
  generalize (lg_sl ([.ref h0, .int x]) ++ List.replicate (2 - (lg_sl ([.ref h0, .int x])).length) Slot.unset).toArray = ls at hl ⊢
  have hl : lv_has ls 2 [(0, .ref h0), (1, .int x)] := hl
  refine lv_aload_n S.1 S.2.1 dX1_init_0 rfl (lv_at hl 0 rfl) ?_
  refine W.objInit S.1 S.2.1 S.2.2.2.1 (S.2.2.2.2 _ w_217) (S.2.2.2.2 _ w_2) (S.2.2.2.2 _ w_3) rfl (by rw [S.2.2.1]; exact hl.1) rfl dX1_init_1 (Nat.le_of_ble_eq_true rfl) (Nat.le_of_ble_eq_true rfl) ?_
  refine W.eq (g2 := F0 m 4 ls []) rfl ?_
  refine lv_aload_n S.1 S.2.1 dX1_init_4 rfl (lv_at hl 0 rfl) ?_
  refine lv_bipush (v := nI 40) S.1 S.2.1 dX1_init_5 rfl ?_
  refine va_newa (ty := .int) (atype := .int) (a0 := (40, .inl (fun _ => 0))) S.1 S.2.1 (S.2.2.2.2 _ w_13) rfl hK hP hD hS hA (fun _ => rfl) (nI_pos (by omega)) (hcl _ (by omega)) (by show _ * 4 ≤ _; omega) (Nat.le_of_ble_eq_true rfl) (by show _ ≤ (23000 : Nat); omega) dX1_init_7 (fun q1 c1 H hK hP hD hS => ?_)
  have hP : va_P D lwCl [(h0, .inr (1, [.int 0, .int 0, .null, .int 0, .null, .null, .null, .null, .int 0, .null, .null, .null, .null, .null])), (q1, .inl (c1, 40, .inl (fun _ => 0)))] H := hP
  have hD : va_D (AI h0 s.heap.size) [(h0, .inr (1, [.int 0, .int 0, .null, .int 0, .null, .null, .null, .null, .int 0, .null, .null, .null, .null, .null])), (q1, .inl (c1, 40, .inl (fun _ => 0)))] := hD
  have hK : va_K D lwCl [(c1, .int)] s := hK
  refine va_putF (D := D) (ci := 1) (v := .ref q1) (ty := tyX1 2) (C := RX1) (T := TX1) (N := 14) S.1 S.2.1 S.2.2.2.2 inX1 tyX1 tyX1_ok nmX1 S.2.2.2.1 hK hP hD hS 0 rfl rfl 2 (Nat.le_of_ble_eq_true rfl) (S.2.2.2.2 _ w_214) (fun _ h9 => h9) rfl hin rfl (tyX1_ok 2 (by decide)) rfl rfl (Nat.le_of_ble_eq_true rfl) dX1_init_9 (fun H locs hP hD hS => ?_)
  have hP : va_P D lwCl [(h0, .inr (1, [.int 0, .int 0, .ref q1, .int 0, .null, .null, .null, .null, .int 0, .null, .null, .null, .null, .null])), (q1, .inl (c1, 40, .inl (fun _ => 0)))] H := hP
  have hD : va_D (AI h0 s.heap.size) [(h0, .inr (1, [.int 0, .int 0, .ref q1, .int 0, .null, .null, .null, .null, .int 0, .null, .null, .null, .null, .null])), (q1, .inl (c1, 40, .inl (fun _ => 0)))] := hD
  refine lv_aload_n S.1 S.2.1 dX1_init_12 rfl (lv_at hl 0 rfl) ?_
  refine lv_bipush (v := nI 12) S.1 S.2.1 dX1_init_13 rfl ?_
  refine va_newa (ty := .int) (atype := .int) (a0 := (12, .inl (fun _ => 0))) S.1 S.2.1 (S.2.2.2.2 _ w_13) rfl hK hP hD hS hA (fun _ => rfl) (nI_pos (by omega)) (hcl _ (by omega)) (by show _ * 4 ≤ _; omega) (Nat.le_of_ble_eq_true rfl) (by show _ ≤ (23000 : Nat); omega) dX1_init_15 (fun q2 c2 H hK hP hD hS => ?_)
  have hP : va_P D lwCl [(h0, .inr (1, [.int 0, .int 0, .ref q1, .int 0, .null, .null, .null, .null, .int 0, .null, .null, .null, .null, .null])), (q1, .inl (c1, 40, .inl (fun _ => 0))), (q2, .inl (c2, 12, .inl (fun _ => 0)))] H := hP
  have hD : va_D (AI h0 s.heap.size) [(h0, .inr (1, [.int 0, .int 0, .ref q1, .int 0, .null, .null, .null, .null, .int 0, .null, .null, .null, .null, .null])), (q1, .inl (c1, 40, .inl (fun _ => 0))), (q2, .inl (c2, 12, .inl (fun _ => 0)))] := hD
  have hK : va_K D lwCl [(c1, .int), (c2, .int)] s := hK
  refine va_putF (D := D) (ci := 1) (v := .ref q2) (ty := tyX1 4) (C := RX1) (T := TX1) (N := 14) S.1 S.2.1 S.2.2.2.2 inX1 tyX1 tyX1_ok nmX1 S.2.2.2.1 hK hP hD hS 0 rfl rfl 4 (Nat.le_of_ble_eq_true rfl) (S.2.2.2.2 _ w_218) (fun _ h9 => h9) rfl hin rfl (tyX1_ok 4 (by decide)) rfl rfl (Nat.le_of_ble_eq_true rfl) dX1_init_17 (fun H locs hP hD hS => ?_)
  have hP : va_P D lwCl [(h0, .inr (1, [.int 0, .int 0, .ref q1, .int 0, .ref q2, .null, .null, .null, .int 0, .null, .null, .null, .null, .null])), (q1, .inl (c1, 40, .inl (fun _ => 0))), (q2, .inl (c2, 12, .inl (fun _ => 0)))] H := hP
  have hD : va_D (AI h0 s.heap.size) [(h0, .inr (1, [.int 0, .int 0, .ref q1, .int 0, .ref q2, .null, .null, .null, .int 0, .null, .null, .null, .null, .null])), (q1, .inl (c1, 40, .inl (fun _ => 0))), (q2, .inl (c2, 12, .inl (fun _ => 0)))] := hD
  refine lv_aload_n S.1 S.2.1 dX1_init_20 rfl (lv_at hl 0 rfl) ?_
  refine lv_bipush (v := nI 12) S.1 S.2.1 dX1_init_21 rfl ?_
  refine va_newa (ty := .int) (atype := .int) (a0 := (12, .inl (fun _ => 0))) S.1 S.2.1 (S.2.2.2.2 _ w_13) rfl hK hP hD hS hA (fun _ => rfl) (nI_pos (by omega)) (hcl _ (by omega)) (by show _ * 4 ≤ _; omega) (Nat.le_of_ble_eq_true rfl) (by show _ ≤ (23000 : Nat); omega) dX1_init_23 (fun q3 c3 H hK hP hD hS => ?_)
  have hP : va_P D lwCl [(h0, .inr (1, [.int 0, .int 0, .ref q1, .int 0, .ref q2, .null, .null, .null, .int 0, .null, .null, .null, .null, .null])), (q1, .inl (c1, 40, .inl (fun _ => 0))), (q2, .inl (c2, 12, .inl (fun _ => 0))), (q3, .inl (c3, 12, .inl (fun _ => 0)))] H := hP
  have hD : va_D (AI h0 s.heap.size) [(h0, .inr (1, [.int 0, .int 0, .ref q1, .int 0, .ref q2, .null, .null, .null, .int 0, .null, .null, .null, .null, .null])), (q1, .inl (c1, 40, .inl (fun _ => 0))), (q2, .inl (c2, 12, .inl (fun _ => 0))), (q3, .inl (c3, 12, .inl (fun _ => 0)))] := hD
  have hK : va_K D lwCl [(c1, .int), (c2, .int), (c3, .int)] s := hK
  refine va_putF (D := D) (ci := 1) (v := .ref q3) (ty := tyX1 5) (C := RX1) (T := TX1) (N := 14) S.1 S.2.1 S.2.2.2.2 inX1 tyX1 tyX1_ok nmX1 S.2.2.2.1 hK hP hD hS 0 rfl rfl 5 (Nat.le_of_ble_eq_true rfl) (S.2.2.2.2 _ w_219) (fun _ h9 => h9) rfl hin rfl (tyX1_ok 5 (by decide)) rfl rfl (Nat.le_of_ble_eq_true rfl) dX1_init_25 (fun H locs hP hD hS => ?_)
  have hP : va_P D lwCl [(h0, .inr (1, [.int 0, .int 0, .ref q1, .int 0, .ref q2, .ref q3, .null, .null, .int 0, .null, .null, .null, .null, .null])), (q1, .inl (c1, 40, .inl (fun _ => 0))), (q2, .inl (c2, 12, .inl (fun _ => 0))), (q3, .inl (c3, 12, .inl (fun _ => 0)))] H := hP
  have hD : va_D (AI h0 s.heap.size) [(h0, .inr (1, [.int 0, .int 0, .ref q1, .int 0, .ref q2, .ref q3, .null, .null, .int 0, .null, .null, .null, .null, .null])), (q1, .inl (c1, 40, .inl (fun _ => 0))), (q2, .inl (c2, 12, .inl (fun _ => 0))), (q3, .inl (c3, 12, .inl (fun _ => 0)))] := hD
  refine lv_aload_n S.1 S.2.1 dX1_init_28 rfl (lv_at hl 0 rfl) ?_
  refine lv_bipush (v := nI 12) S.1 S.2.1 dX1_init_29 rfl ?_
  refine va_newa (ty := .int) (atype := .int) (a0 := (12, .inl (fun _ => 0))) S.1 S.2.1 (S.2.2.2.2 _ w_13) rfl hK hP hD hS hA (fun _ => rfl) (nI_pos (by omega)) (hcl _ (by omega)) (by show _ * 4 ≤ _; omega) (Nat.le_of_ble_eq_true rfl) (by show _ ≤ (23000 : Nat); omega) dX1_init_31 (fun q4 c4 H hK hP hD hS => ?_)
  have hP : va_P D lwCl [(h0, .inr (1, [.int 0, .int 0, .ref q1, .int 0, .ref q2, .ref q3, .null, .null, .int 0, .null, .null, .null, .null, .null])), (q1, .inl (c1, 40, .inl (fun _ => 0))), (q2, .inl (c2, 12, .inl (fun _ => 0))), (q3, .inl (c3, 12, .inl (fun _ => 0))), (q4, .inl (c4, 12, .inl (fun _ => 0)))] H := hP
  have hD : va_D (AI h0 s.heap.size) [(h0, .inr (1, [.int 0, .int 0, .ref q1, .int 0, .ref q2, .ref q3, .null, .null, .int 0, .null, .null, .null, .null, .null])), (q1, .inl (c1, 40, .inl (fun _ => 0))), (q2, .inl (c2, 12, .inl (fun _ => 0))), (q3, .inl (c3, 12, .inl (fun _ => 0))), (q4, .inl (c4, 12, .inl (fun _ => 0)))] := hD
  have hK : va_K D lwCl [(c1, .int), (c2, .int), (c3, .int), (c4, .int)] s := hK
  refine va_putF (D := D) (ci := 1) (v := .ref q4) (ty := tyX1 6) (C := RX1) (T := TX1) (N := 14) S.1 S.2.1 S.2.2.2.2 inX1 tyX1 tyX1_ok nmX1 S.2.2.2.1 hK hP hD hS 0 rfl rfl 6 (Nat.le_of_ble_eq_true rfl) (S.2.2.2.2 _ w_220) (fun _ h9 => h9) rfl hin rfl (tyX1_ok 6 (by decide)) rfl rfl (Nat.le_of_ble_eq_true rfl) dX1_init_33 (fun H locs hP hD hS => ?_)
  have hP : va_P D lwCl [(h0, .inr (1, [.int 0, .int 0, .ref q1, .int 0, .ref q2, .ref q3, .ref q4, .null, .int 0, .null, .null, .null, .null, .null])), (q1, .inl (c1, 40, .inl (fun _ => 0))), (q2, .inl (c2, 12, .inl (fun _ => 0))), (q3, .inl (c3, 12, .inl (fun _ => 0))), (q4, .inl (c4, 12, .inl (fun _ => 0)))] H := hP
  have hD : va_D (AI h0 s.heap.size) [(h0, .inr (1, [.int 0, .int 0, .ref q1, .int 0, .ref q2, .ref q3, .ref q4, .null, .int 0, .null, .null, .null, .null, .null])), (q1, .inl (c1, 40, .inl (fun _ => 0))), (q2, .inl (c2, 12, .inl (fun _ => 0))), (q3, .inl (c3, 12, .inl (fun _ => 0))), (q4, .inl (c4, 12, .inl (fun _ => 0)))] := hD
  refine lv_aload_n S.1 S.2.1 dX1_init_36 rfl (lv_at hl 0 rfl) ?_
  refine lv_sipush (v := nI 19200) S.1 S.2.1 dX1_init_37 rfl ?_
  refine va_newa (ty := .boolean) (atype := .boolean) (a0 := (19200, .inl (fun _ => 0))) S.1 S.2.1 (S.2.2.2.2 _ w_221) rfl hK hP hD hS hA (fun _ => rfl) (nI_pos (by omega)) (hcl _ (by omega)) (by show _ * 1 ≤ _; omega) (Nat.le_of_ble_eq_true rfl) (by show _ ≤ (23000 : Nat); omega) dX1_init_40 (fun q5 c5 H hK hP hD hS => ?_)
  have hP : va_P D lwCl [(h0, .inr (1, [.int 0, .int 0, .ref q1, .int 0, .ref q2, .ref q3, .ref q4, .null, .int 0, .null, .null, .null, .null, .null])), (q1, .inl (c1, 40, .inl (fun _ => 0))), (q2, .inl (c2, 12, .inl (fun _ => 0))), (q3, .inl (c3, 12, .inl (fun _ => 0))), (q4, .inl (c4, 12, .inl (fun _ => 0))), (q5, .inl (c5, 19200, .inl (fun _ => 0)))] H := hP
  have hD : va_D (AI h0 s.heap.size) [(h0, .inr (1, [.int 0, .int 0, .ref q1, .int 0, .ref q2, .ref q3, .ref q4, .null, .int 0, .null, .null, .null, .null, .null])), (q1, .inl (c1, 40, .inl (fun _ => 0))), (q2, .inl (c2, 12, .inl (fun _ => 0))), (q3, .inl (c3, 12, .inl (fun _ => 0))), (q4, .inl (c4, 12, .inl (fun _ => 0))), (q5, .inl (c5, 19200, .inl (fun _ => 0)))] := hD
  have hK : va_K D lwCl [(c1, .int), (c2, .int), (c3, .int), (c4, .int), (c5, .boolean)] s := hK
  refine va_putF (D := D) (ci := 1) (v := .ref q5) (ty := tyX1 7) (C := RX1) (T := TX1) (N := 14) S.1 S.2.1 S.2.2.2.2 inX1 tyX1 tyX1_ok nmX1 S.2.2.2.1 hK hP hD hS 0 rfl rfl 7 (Nat.le_of_ble_eq_true rfl) (S.2.2.2.2 _ w_222) (fun _ h9 => h9) rfl hin rfl (tyX1_ok 7 (by decide)) rfl rfl (Nat.le_of_ble_eq_true rfl) dX1_init_42 (fun H locs hP hD hS => ?_)
  have hP : va_P D lwCl [(h0, .inr (1, [.int 0, .int 0, .ref q1, .int 0, .ref q2, .ref q3, .ref q4, .ref q5, .int 0, .null, .null, .null, .null, .null])), (q1, .inl (c1, 40, .inl (fun _ => 0))), (q2, .inl (c2, 12, .inl (fun _ => 0))), (q3, .inl (c3, 12, .inl (fun _ => 0))), (q4, .inl (c4, 12, .inl (fun _ => 0))), (q5, .inl (c5, 19200, .inl (fun _ => 0)))] H := hP
  have hD : va_D (AI h0 s.heap.size) [(h0, .inr (1, [.int 0, .int 0, .ref q1, .int 0, .ref q2, .ref q3, .ref q4, .ref q5, .int 0, .null, .null, .null, .null, .null])), (q1, .inl (c1, 40, .inl (fun _ => 0))), (q2, .inl (c2, 12, .inl (fun _ => 0))), (q3, .inl (c3, 12, .inl (fun _ => 0))), (q4, .inl (c4, 12, .inl (fun _ => 0))), (q5, .inl (c5, 19200, .inl (fun _ => 0)))] := hD
  refine lv_aload_n S.1 S.2.1 dX1_init_45 rfl (lv_at hl 0 rfl) ?_
  refine lv_iconst (v := nI 4) S.1 S.2.1 dX1_init_46 rfl ?_
  refine va_newa (ty := .int) (atype := .int) (a0 := (4, .inl (fun _ => 0))) S.1 S.2.1 (S.2.2.2.2 _ w_13) rfl hK hP hD hS hA (fun _ => rfl) (nI_pos (by omega)) (hcl _ (by omega)) (by show _ * 4 ≤ _; omega) (Nat.le_of_ble_eq_true rfl) (by show _ ≤ (23000 : Nat); omega) dX1_init_47 (fun q6 c6 H hK hP hD hS => ?_)
  have hP : va_P D lwCl [(h0, .inr (1, [.int 0, .int 0, .ref q1, .int 0, .ref q2, .ref q3, .ref q4, .ref q5, .int 0, .null, .null, .null, .null, .null])), (q1, .inl (c1, 40, .inl (fun _ => 0))), (q2, .inl (c2, 12, .inl (fun _ => 0))), (q3, .inl (c3, 12, .inl (fun _ => 0))), (q4, .inl (c4, 12, .inl (fun _ => 0))), (q5, .inl (c5, 19200, .inl (fun _ => 0))), (q6, .inl (c6, 4, .inl (fun _ => 0)))] H := hP
  have hD : va_D (AI h0 s.heap.size) [(h0, .inr (1, [.int 0, .int 0, .ref q1, .int 0, .ref q2, .ref q3, .ref q4, .ref q5, .int 0, .null, .null, .null, .null, .null])), (q1, .inl (c1, 40, .inl (fun _ => 0))), (q2, .inl (c2, 12, .inl (fun _ => 0))), (q3, .inl (c3, 12, .inl (fun _ => 0))), (q4, .inl (c4, 12, .inl (fun _ => 0))), (q5, .inl (c5, 19200, .inl (fun _ => 0))), (q6, .inl (c6, 4, .inl (fun _ => 0)))] := hD
  have hK : va_K D lwCl [(c1, .int), (c2, .int), (c3, .int), (c4, .int), (c5, .boolean), (c6, .int)] s := hK
  refine va_putF (D := D) (ci := 1) (v := .ref q6) (ty := tyX1 9) (C := RX1) (T := TX1) (N := 14) S.1 S.2.1 S.2.2.2.2 inX1 tyX1 tyX1_ok nmX1 S.2.2.2.1 hK hP hD hS 0 rfl rfl 9 (Nat.le_of_ble_eq_true rfl) (S.2.2.2.2 _ w_223) (fun _ h9 => h9) rfl hin rfl (tyX1_ok 9 (by decide)) rfl rfl (Nat.le_of_ble_eq_true rfl) dX1_init_49 (fun H locs hP hD hS => ?_)
  have hP : va_P D lwCl [(h0, .inr (1, [.int 0, .int 0, .ref q1, .int 0, .ref q2, .ref q3, .ref q4, .ref q5, .int 0, .ref q6, .null, .null, .null, .null])), (q1, .inl (c1, 40, .inl (fun _ => 0))), (q2, .inl (c2, 12, .inl (fun _ => 0))), (q3, .inl (c3, 12, .inl (fun _ => 0))), (q4, .inl (c4, 12, .inl (fun _ => 0))), (q5, .inl (c5, 19200, .inl (fun _ => 0))), (q6, .inl (c6, 4, .inl (fun _ => 0)))] H := hP
  have hD : va_D (AI h0 s.heap.size) [(h0, .inr (1, [.int 0, .int 0, .ref q1, .int 0, .ref q2, .ref q3, .ref q4, .ref q5, .int 0, .ref q6, .null, .null, .null, .null])), (q1, .inl (c1, 40, .inl (fun _ => 0))), (q2, .inl (c2, 12, .inl (fun _ => 0))), (q3, .inl (c3, 12, .inl (fun _ => 0))), (q4, .inl (c4, 12, .inl (fun _ => 0))), (q5, .inl (c5, 19200, .inl (fun _ => 0))), (q6, .inl (c6, 4, .inl (fun _ => 0)))] := hD
  refine lv_aload_n S.1 S.2.1 dX1_init_52 rfl (lv_at hl 0 rfl) ?_
  refine lv_iconst (v := nI 4) S.1 S.2.1 dX1_init_53 rfl ?_
  refine va_newa (ty := .int) (atype := .int) (a0 := (4, .inl (fun _ => 0))) S.1 S.2.1 (S.2.2.2.2 _ w_13) rfl hK hP hD hS hA (fun _ => rfl) (nI_pos (by omega)) (hcl _ (by omega)) (by show _ * 4 ≤ _; omega) (Nat.le_of_ble_eq_true rfl) (by show _ ≤ (23000 : Nat); omega) dX1_init_54 (fun q7 c7 H hK hP hD hS => ?_)
  have hP : va_P D lwCl [(h0, .inr (1, [.int 0, .int 0, .ref q1, .int 0, .ref q2, .ref q3, .ref q4, .ref q5, .int 0, .ref q6, .null, .null, .null, .null])), (q1, .inl (c1, 40, .inl (fun _ => 0))), (q2, .inl (c2, 12, .inl (fun _ => 0))), (q3, .inl (c3, 12, .inl (fun _ => 0))), (q4, .inl (c4, 12, .inl (fun _ => 0))), (q5, .inl (c5, 19200, .inl (fun _ => 0))), (q6, .inl (c6, 4, .inl (fun _ => 0))), (q7, .inl (c7, 4, .inl (fun _ => 0)))] H := hP
  have hD : va_D (AI h0 s.heap.size) [(h0, .inr (1, [.int 0, .int 0, .ref q1, .int 0, .ref q2, .ref q3, .ref q4, .ref q5, .int 0, .ref q6, .null, .null, .null, .null])), (q1, .inl (c1, 40, .inl (fun _ => 0))), (q2, .inl (c2, 12, .inl (fun _ => 0))), (q3, .inl (c3, 12, .inl (fun _ => 0))), (q4, .inl (c4, 12, .inl (fun _ => 0))), (q5, .inl (c5, 19200, .inl (fun _ => 0))), (q6, .inl (c6, 4, .inl (fun _ => 0))), (q7, .inl (c7, 4, .inl (fun _ => 0)))] := hD
  have hK : va_K D lwCl [(c1, .int), (c2, .int), (c3, .int), (c4, .int), (c5, .boolean), (c6, .int), (c7, .int)] s := hK
  refine va_putF (D := D) (ci := 1) (v := .ref q7) (ty := tyX1 10) (C := RX1) (T := TX1) (N := 14) S.1 S.2.1 S.2.2.2.2 inX1 tyX1 tyX1_ok nmX1 S.2.2.2.1 hK hP hD hS 0 rfl rfl 10 (Nat.le_of_ble_eq_true rfl) (S.2.2.2.2 _ w_224) (fun _ h9 => h9) rfl hin rfl (tyX1_ok 10 (by decide)) rfl rfl (Nat.le_of_ble_eq_true rfl) dX1_init_56 (fun H locs hP hD hS => ?_)
  have hP : va_P D lwCl [(h0, .inr (1, [.int 0, .int 0, .ref q1, .int 0, .ref q2, .ref q3, .ref q4, .ref q5, .int 0, .ref q6, .ref q7, .null, .null, .null])), (q1, .inl (c1, 40, .inl (fun _ => 0))), (q2, .inl (c2, 12, .inl (fun _ => 0))), (q3, .inl (c3, 12, .inl (fun _ => 0))), (q4, .inl (c4, 12, .inl (fun _ => 0))), (q5, .inl (c5, 19200, .inl (fun _ => 0))), (q6, .inl (c6, 4, .inl (fun _ => 0))), (q7, .inl (c7, 4, .inl (fun _ => 0)))] H := hP
  have hD : va_D (AI h0 s.heap.size) [(h0, .inr (1, [.int 0, .int 0, .ref q1, .int 0, .ref q2, .ref q3, .ref q4, .ref q5, .int 0, .ref q6, .ref q7, .null, .null, .null])), (q1, .inl (c1, 40, .inl (fun _ => 0))), (q2, .inl (c2, 12, .inl (fun _ => 0))), (q3, .inl (c3, 12, .inl (fun _ => 0))), (q4, .inl (c4, 12, .inl (fun _ => 0))), (q5, .inl (c5, 19200, .inl (fun _ => 0))), (q6, .inl (c6, 4, .inl (fun _ => 0))), (q7, .inl (c7, 4, .inl (fun _ => 0)))] := hD
  refine lv_aload_n S.1 S.2.1 dX1_init_59 rfl (lv_at hl 0 rfl) ?_
  refine lv_sipush (v := nI 1600) S.1 S.2.1 dX1_init_60 rfl ?_
  refine va_newa (ty := .int) (atype := .int) (a0 := (1600, .inl (fun _ => 0))) S.1 S.2.1 (S.2.2.2.2 _ w_13) rfl hK hP hD hS hA (fun _ => rfl) (nI_pos (by omega)) (hcl _ (by omega)) (by show _ * 4 ≤ _; omega) (Nat.le_of_ble_eq_true rfl) (by show _ ≤ (23000 : Nat); omega) dX1_init_63 (fun q8 c8 H hK hP hD hS => ?_)
  have hP : va_P D lwCl [(h0, .inr (1, [.int 0, .int 0, .ref q1, .int 0, .ref q2, .ref q3, .ref q4, .ref q5, .int 0, .ref q6, .ref q7, .null, .null, .null])), (q1, .inl (c1, 40, .inl (fun _ => 0))), (q2, .inl (c2, 12, .inl (fun _ => 0))), (q3, .inl (c3, 12, .inl (fun _ => 0))), (q4, .inl (c4, 12, .inl (fun _ => 0))), (q5, .inl (c5, 19200, .inl (fun _ => 0))), (q6, .inl (c6, 4, .inl (fun _ => 0))), (q7, .inl (c7, 4, .inl (fun _ => 0))), (q8, .inl (c8, 1600, .inl (fun _ => 0)))] H := hP
  have hD : va_D (AI h0 s.heap.size) [(h0, .inr (1, [.int 0, .int 0, .ref q1, .int 0, .ref q2, .ref q3, .ref q4, .ref q5, .int 0, .ref q6, .ref q7, .null, .null, .null])), (q1, .inl (c1, 40, .inl (fun _ => 0))), (q2, .inl (c2, 12, .inl (fun _ => 0))), (q3, .inl (c3, 12, .inl (fun _ => 0))), (q4, .inl (c4, 12, .inl (fun _ => 0))), (q5, .inl (c5, 19200, .inl (fun _ => 0))), (q6, .inl (c6, 4, .inl (fun _ => 0))), (q7, .inl (c7, 4, .inl (fun _ => 0))), (q8, .inl (c8, 1600, .inl (fun _ => 0)))] := hD
  have hK : va_K D lwCl [(c1, .int), (c2, .int), (c3, .int), (c4, .int), (c5, .boolean), (c6, .int), (c7, .int), (c8, .int)] s := hK
  refine va_putF (D := D) (ci := 1) (v := .ref q8) (ty := tyX1 11) (C := RX1) (T := TX1) (N := 14) S.1 S.2.1 S.2.2.2.2 inX1 tyX1 tyX1_ok nmX1 S.2.2.2.1 hK hP hD hS 0 rfl rfl 11 (Nat.le_of_ble_eq_true rfl) (S.2.2.2.2 _ w_215) (fun _ h9 => h9) rfl hin rfl (tyX1_ok 11 (by decide)) rfl rfl (Nat.le_of_ble_eq_true rfl) dX1_init_65 (fun H locs hP hD hS => ?_)
  have hP : va_P D lwCl [(h0, .inr (1, [.int 0, .int 0, .ref q1, .int 0, .ref q2, .ref q3, .ref q4, .ref q5, .int 0, .ref q6, .ref q7, .ref q8, .null, .null])), (q1, .inl (c1, 40, .inl (fun _ => 0))), (q2, .inl (c2, 12, .inl (fun _ => 0))), (q3, .inl (c3, 12, .inl (fun _ => 0))), (q4, .inl (c4, 12, .inl (fun _ => 0))), (q5, .inl (c5, 19200, .inl (fun _ => 0))), (q6, .inl (c6, 4, .inl (fun _ => 0))), (q7, .inl (c7, 4, .inl (fun _ => 0))), (q8, .inl (c8, 1600, .inl (fun _ => 0)))] H := hP
  have hD : va_D (AI h0 s.heap.size) [(h0, .inr (1, [.int 0, .int 0, .ref q1, .int 0, .ref q2, .ref q3, .ref q4, .ref q5, .int 0, .ref q6, .ref q7, .ref q8, .null, .null])), (q1, .inl (c1, 40, .inl (fun _ => 0))), (q2, .inl (c2, 12, .inl (fun _ => 0))), (q3, .inl (c3, 12, .inl (fun _ => 0))), (q4, .inl (c4, 12, .inl (fun _ => 0))), (q5, .inl (c5, 19200, .inl (fun _ => 0))), (q6, .inl (c6, 4, .inl (fun _ => 0))), (q7, .inl (c7, 4, .inl (fun _ => 0))), (q8, .inl (c8, 1600, .inl (fun _ => 0)))] := hD
  refine lv_aload_n S.1 S.2.1 dX1_init_68 rfl (lv_at hl 0 rfl) ?_
  refine lv_sipush (v := nI 1600) S.1 S.2.1 dX1_init_69 rfl ?_
  refine va_newa (ty := .boolean) (atype := .boolean) (a0 := (1600, .inl (fun _ => 0))) S.1 S.2.1 (S.2.2.2.2 _ w_221) rfl hK hP hD hS hA (fun _ => rfl) (nI_pos (by omega)) (hcl _ (by omega)) (by show _ * 1 ≤ _; omega) (Nat.le_of_ble_eq_true rfl) (by show _ ≤ (23000 : Nat); omega) dX1_init_72 (fun q9 c9 H hK hP hD hS => ?_)
  have hP : va_P D lwCl [(h0, .inr (1, [.int 0, .int 0, .ref q1, .int 0, .ref q2, .ref q3, .ref q4, .ref q5, .int 0, .ref q6, .ref q7, .ref q8, .null, .null])), (q1, .inl (c1, 40, .inl (fun _ => 0))), (q2, .inl (c2, 12, .inl (fun _ => 0))), (q3, .inl (c3, 12, .inl (fun _ => 0))), (q4, .inl (c4, 12, .inl (fun _ => 0))), (q5, .inl (c5, 19200, .inl (fun _ => 0))), (q6, .inl (c6, 4, .inl (fun _ => 0))), (q7, .inl (c7, 4, .inl (fun _ => 0))), (q8, .inl (c8, 1600, .inl (fun _ => 0))), (q9, .inl (c9, 1600, .inl (fun _ => 0)))] H := hP
  have hD : va_D (AI h0 s.heap.size) [(h0, .inr (1, [.int 0, .int 0, .ref q1, .int 0, .ref q2, .ref q3, .ref q4, .ref q5, .int 0, .ref q6, .ref q7, .ref q8, .null, .null])), (q1, .inl (c1, 40, .inl (fun _ => 0))), (q2, .inl (c2, 12, .inl (fun _ => 0))), (q3, .inl (c3, 12, .inl (fun _ => 0))), (q4, .inl (c4, 12, .inl (fun _ => 0))), (q5, .inl (c5, 19200, .inl (fun _ => 0))), (q6, .inl (c6, 4, .inl (fun _ => 0))), (q7, .inl (c7, 4, .inl (fun _ => 0))), (q8, .inl (c8, 1600, .inl (fun _ => 0))), (q9, .inl (c9, 1600, .inl (fun _ => 0)))] := hD
  have hK : va_K D lwCl [(c1, .int), (c2, .int), (c3, .int), (c4, .int), (c5, .boolean), (c6, .int), (c7, .int), (c8, .int), (c9, .boolean)] s := hK
  refine va_putF (D := D) (ci := 1) (v := .ref q9) (ty := tyX1 12) (C := RX1) (T := TX1) (N := 14) S.1 S.2.1 S.2.2.2.2 inX1 tyX1 tyX1_ok nmX1 S.2.2.2.1 hK hP hD hS 0 rfl rfl 12 (Nat.le_of_ble_eq_true rfl) (S.2.2.2.2 _ w_225) (fun _ h9 => h9) rfl hin rfl (tyX1_ok 12 (by decide)) rfl rfl (Nat.le_of_ble_eq_true rfl) dX1_init_74 (fun H locs hP hD hS => ?_)
  have hP : va_P D lwCl [(h0, .inr (1, [.int 0, .int 0, .ref q1, .int 0, .ref q2, .ref q3, .ref q4, .ref q5, .int 0, .ref q6, .ref q7, .ref q8, .ref q9, .null])), (q1, .inl (c1, 40, .inl (fun _ => 0))), (q2, .inl (c2, 12, .inl (fun _ => 0))), (q3, .inl (c3, 12, .inl (fun _ => 0))), (q4, .inl (c4, 12, .inl (fun _ => 0))), (q5, .inl (c5, 19200, .inl (fun _ => 0))), (q6, .inl (c6, 4, .inl (fun _ => 0))), (q7, .inl (c7, 4, .inl (fun _ => 0))), (q8, .inl (c8, 1600, .inl (fun _ => 0))), (q9, .inl (c9, 1600, .inl (fun _ => 0)))] H := hP
  have hD : va_D (AI h0 s.heap.size) [(h0, .inr (1, [.int 0, .int 0, .ref q1, .int 0, .ref q2, .ref q3, .ref q4, .ref q5, .int 0, .ref q6, .ref q7, .ref q8, .ref q9, .null])), (q1, .inl (c1, 40, .inl (fun _ => 0))), (q2, .inl (c2, 12, .inl (fun _ => 0))), (q3, .inl (c3, 12, .inl (fun _ => 0))), (q4, .inl (c4, 12, .inl (fun _ => 0))), (q5, .inl (c5, 19200, .inl (fun _ => 0))), (q6, .inl (c6, 4, .inl (fun _ => 0))), (q7, .inl (c7, 4, .inl (fun _ => 0))), (q8, .inl (c8, 1600, .inl (fun _ => 0))), (q9, .inl (c9, 1600, .inl (fun _ => 0)))] := hD
  refine lv_aload_n S.1 S.2.1 dX1_init_77 rfl (lv_at hl 0 rfl) ?_
  refine lv_bipush (v := nI 40) S.1 S.2.1 dX1_init_78 rfl ?_
  refine va_newa (ty := .int) (atype := .int) (a0 := (40, .inl (fun _ => 0))) S.1 S.2.1 (S.2.2.2.2 _ w_13) rfl hK hP hD hS hA (fun _ => rfl) (nI_pos (by omega)) (hcl _ (by omega)) (by show _ * 4 ≤ _; omega) (Nat.le_of_ble_eq_true rfl) (by show _ ≤ (23000 : Nat); omega) dX1_init_80 (fun q10 c10 H hK hP hD hS => ?_)
  have hP : va_P D lwCl [(h0, .inr (1, [.int 0, .int 0, .ref q1, .int 0, .ref q2, .ref q3, .ref q4, .ref q5, .int 0, .ref q6, .ref q7, .ref q8, .ref q9, .null])), (q1, .inl (c1, 40, .inl (fun _ => 0))), (q2, .inl (c2, 12, .inl (fun _ => 0))), (q3, .inl (c3, 12, .inl (fun _ => 0))), (q4, .inl (c4, 12, .inl (fun _ => 0))), (q5, .inl (c5, 19200, .inl (fun _ => 0))), (q6, .inl (c6, 4, .inl (fun _ => 0))), (q7, .inl (c7, 4, .inl (fun _ => 0))), (q8, .inl (c8, 1600, .inl (fun _ => 0))), (q9, .inl (c9, 1600, .inl (fun _ => 0))), (q10, .inl (c10, 40, .inl (fun _ => 0)))] H := hP
  have hD : va_D (AI h0 s.heap.size) [(h0, .inr (1, [.int 0, .int 0, .ref q1, .int 0, .ref q2, .ref q3, .ref q4, .ref q5, .int 0, .ref q6, .ref q7, .ref q8, .ref q9, .null])), (q1, .inl (c1, 40, .inl (fun _ => 0))), (q2, .inl (c2, 12, .inl (fun _ => 0))), (q3, .inl (c3, 12, .inl (fun _ => 0))), (q4, .inl (c4, 12, .inl (fun _ => 0))), (q5, .inl (c5, 19200, .inl (fun _ => 0))), (q6, .inl (c6, 4, .inl (fun _ => 0))), (q7, .inl (c7, 4, .inl (fun _ => 0))), (q8, .inl (c8, 1600, .inl (fun _ => 0))), (q9, .inl (c9, 1600, .inl (fun _ => 0))), (q10, .inl (c10, 40, .inl (fun _ => 0)))] := hD
  have hK : va_K D lwCl [(c1, .int), (c2, .int), (c3, .int), (c4, .int), (c5, .boolean), (c6, .int), (c7, .int), (c8, .int), (c9, .boolean), (c10, .int)] s := hK
  refine va_putF (D := D) (ci := 1) (v := .ref q10) (ty := tyX1 13) (C := RX1) (T := TX1) (N := 14) S.1 S.2.1 S.2.2.2.2 inX1 tyX1 tyX1_ok nmX1 S.2.2.2.1 hK hP hD hS 0 rfl rfl 13 (Nat.le_of_ble_eq_true rfl) (S.2.2.2.2 _ w_226) (fun _ h9 => h9) rfl hin rfl (tyX1_ok 13 (by decide)) rfl rfl (Nat.le_of_ble_eq_true rfl) dX1_init_82 (fun H locs hP hD hS => ?_)
  have hP : va_P D lwCl [(h0, .inr (1, [.int 0, .int 0, .ref q1, .int 0, .ref q2, .ref q3, .ref q4, .ref q5, .int 0, .ref q6, .ref q7, .ref q8, .ref q9, .ref q10])), (q1, .inl (c1, 40, .inl (fun _ => 0))), (q2, .inl (c2, 12, .inl (fun _ => 0))), (q3, .inl (c3, 12, .inl (fun _ => 0))), (q4, .inl (c4, 12, .inl (fun _ => 0))), (q5, .inl (c5, 19200, .inl (fun _ => 0))), (q6, .inl (c6, 4, .inl (fun _ => 0))), (q7, .inl (c7, 4, .inl (fun _ => 0))), (q8, .inl (c8, 1600, .inl (fun _ => 0))), (q9, .inl (c9, 1600, .inl (fun _ => 0))), (q10, .inl (c10, 40, .inl (fun _ => 0)))] H := hP
  have hD : va_D (AI h0 s.heap.size) [(h0, .inr (1, [.int 0, .int 0, .ref q1, .int 0, .ref q2, .ref q3, .ref q4, .ref q5, .int 0, .ref q6, .ref q7, .ref q8, .ref q9, .ref q10])), (q1, .inl (c1, 40, .inl (fun _ => 0))), (q2, .inl (c2, 12, .inl (fun _ => 0))), (q3, .inl (c3, 12, .inl (fun _ => 0))), (q4, .inl (c4, 12, .inl (fun _ => 0))), (q5, .inl (c5, 19200, .inl (fun _ => 0))), (q6, .inl (c6, 4, .inl (fun _ => 0))), (q7, .inl (c7, 4, .inl (fun _ => 0))), (q8, .inl (c8, 1600, .inl (fun _ => 0))), (q9, .inl (c9, 1600, .inl (fun _ => 0))), (q10, .inl (c10, 40, .inl (fun _ => 0)))] := hD
  refine lv_aload_n S.1 S.2.1 dX1_init_85 rfl (lv_at hl 0 rfl) ?_
  refine lv_iload_n S.1 S.2.1 dX1_init_86 rfl (lv_at hl 1 rfl) ?_
  refine lv_iconst (v := 1) S.1 S.2.1 dX1_init_87 rfl ?_
  refine lv_icmp_ge (tgt := 95) S.1 S.2.1 dX1_init_88 (by decide) (fun h1 => ?_) (fun h1 => ?_)
  · skip
    have h1 : ¬ x < 1 := Int32.not_lt.mpr h1
    refine lv_iload_n S.1 S.2.1 dX1_init_95 rfl (lv_at hl 1 rfl) ?_
    refine lv_bipush (v := 40) S.1 S.2.1 dX1_init_96 rfl ?_
    refine lv_icmp_le (tgt := 106) S.1 S.2.1 dX1_init_98 (by decide) (fun h2 => ?_) (fun h2 => ?_)
    · skip
      have xe : x = nI (clN x) := clN_x h1 (Int32.not_lt.mpr h2)
      refine lv_iload_n S.1 S.2.1 dX1_init_106 rfl (lv_at hl 1 rfl) ?_
      refine W.eq (g2 := F0 m 107 ls [.int (nI (clN x)), .ref h0]) (by rw [← xe]) ?_
      clear xe
      generalize hNe : clN x = N at hN1 hN40 ⊢
      refine va_putF (D := D) (ci := 1) (v := .int (nI N)) (ty := tyX1 1) (C := RX1) (T := TX1) (N := 14) S.1 S.2.1 S.2.2.2.2 inX1 tyX1 tyX1_ok nmX1 S.2.2.2.1 hK hP hD hS 0 rfl rfl 1 (Nat.le_of_ble_eq_true rfl) (S.2.2.2.2 _ w_227) (fun _ h9 => h9) rfl hin rfl (tyX1_ok 1 (by decide)) rfl rfl (Nat.le_of_ble_eq_true rfl) dX1_init_107 (fun H locs hP hD hS => ?_)
      have hP : va_P D lwCl [(h0, .inr (1, [.int 0, .int (nI N), .ref q1, .int 0, .ref q2, .ref q3, .ref q4, .ref q5, .int 0, .ref q6, .ref q7, .ref q8, .ref q9, .ref q10])), (q1, .inl (c1, 40, .inl (fun _ => 0))), (q2, .inl (c2, 12, .inl (fun _ => 0))), (q3, .inl (c3, 12, .inl (fun _ => 0))), (q4, .inl (c4, 12, .inl (fun _ => 0))), (q5, .inl (c5, 19200, .inl (fun _ => 0))), (q6, .inl (c6, 4, .inl (fun _ => 0))), (q7, .inl (c7, 4, .inl (fun _ => 0))), (q8, .inl (c8, 1600, .inl (fun _ => 0))), (q9, .inl (c9, 1600, .inl (fun _ => 0))), (q10, .inl (c10, 40, .inl (fun _ => 0)))] H := hP
      have hD : va_D (AI h0 s.heap.size) [(h0, .inr (1, [.int 0, .int (nI N), .ref q1, .int 0, .ref q2, .ref q3, .ref q4, .ref q5, .int 0, .ref q6, .ref q7, .ref q8, .ref q9, .ref q10])), (q1, .inl (c1, 40, .inl (fun _ => 0))), (q2, .inl (c2, 12, .inl (fun _ => 0))), (q3, .inl (c3, 12, .inl (fun _ => 0))), (q4, .inl (c4, 12, .inl (fun _ => 0))), (q5, .inl (c5, 19200, .inl (fun _ => 0))), (q6, .inl (c6, 4, .inl (fun _ => 0))), (q7, .inl (c7, 4, .inl (fun _ => 0))), (q8, .inl (c8, 1600, .inl (fun _ => 0))), (q9, .inl (c9, 1600, .inl (fun _ => 0))), (q10, .inl (c10, 40, .inl (fun _ => 0)))] := hD
      refine lv_aload_n S.1 S.2.1 dX1_init_110 rfl (lv_at hl 0 rfl) ?_
      have hKI : ∀ (k : Nat) (q : ClassId × FieldType), ([(c1, .int), (c2, .int), (c3, .int), (c4, .int), (c5, .boolean), (c6, .int), (c7, .int), (c8, .int), (c9, .boolean), (c10, .int)] : List (ClassId × FieldType))[k]? = some q → q.2 = .int → s.vm.findClass "[I" = some q.1 := fun k q hk e => by have := (hK.2 k q hk).2; rw [e] at this; exact this
      have hKB : ∀ (k : Nat) (q : ClassId × FieldType), ([(c1, .int), (c2, .int), (c3, .int), (c4, .int), (c5, .boolean), (c6, .int), (c7, .int), (c8, .int), (c9, .boolean), (c10, .int)] : List (ClassId × FieldType))[k]? = some q → q.2 = .boolean → s.vm.findClass "[Z" = some q.1 := fun k q hk e => by have := (hK.2 k q hk).2; rw [e] at this; exact this
      have e2 : c1 = c2 := Option.some.inj ((hKI 0 _ rfl rfl).symm.trans (hKI 1 _ rfl rfl))
      have e3 : c1 = c3 := Option.some.inj ((hKI 0 _ rfl rfl).symm.trans (hKI 2 _ rfl rfl))
      have e4 : c1 = c4 := Option.some.inj ((hKI 0 _ rfl rfl).symm.trans (hKI 3 _ rfl rfl))
      have e6 : c1 = c6 := Option.some.inj ((hKI 0 _ rfl rfl).symm.trans (hKI 5 _ rfl rfl))
      have e7 : c1 = c7 := Option.some.inj ((hKI 0 _ rfl rfl).symm.trans (hKI 6 _ rfl rfl))
      have e8 : c1 = c8 := Option.some.inj ((hKI 0 _ rfl rfl).symm.trans (hKI 7 _ rfl rfl))
      have e10 : c1 = c10 := Option.some.inj ((hKI 0 _ rfl rfl).symm.trans (hKI 9 _ rfl rfl))
      have e9 : c5 = c9 := Option.some.inj ((hKB 4 _ rfl rfl).symm.trans (hKB 8 _ rfl rfl))
      subst e2 e3 e4 e6 e7 e8 e10 e9
      obtain ⟨loc, hloc⟩ : ∃ z : Nat → Nat, z = (fun i => match i with | 0 => h0 | 1 => q1 | 2 => q2 | 3 => q3 | 4 => q4 | 5 => q6 | 6 => q7 | 7 => q8 | 8 => q10 | 9 => q5 | _ => q9 : Nat → Nat) := ⟨_, rfl⟩
      obtain ⟨g, hg⟩ : ∃ z : Gc, z = ((D.2 1, fun k => match k with | 0 => D.1 1 | 1 => c1 | _ => c5) : Gc) := ⟨_, rfl⟩
      have hpos : ∀ i, i < 11 → ∃ k ent, k < 11 ∧ ([(h0, .inr (1, [.int 0, .int (nI N), .ref q1, .int 0, .ref q2, .ref q3, .ref q4, .ref q5, .int 0, .ref q6, .ref q7, .ref q8, .ref q9, .ref q10])), (q1, .inl (c1, 40, .inl (fun _ => 0))), (q2, .inl (c1, 12, .inl (fun _ => 0))), (q3, .inl (c1, 12, .inl (fun _ => 0))), (q4, .inl (c1, 12, .inl (fun _ => 0))), (q5, .inl (c5, 19200, .inl (fun _ => 0))), (q6, .inl (c1, 4, .inl (fun _ => 0))), (q7, .inl (c1, 4, .inl (fun _ => 0))), (q8, .inl (c1, 1600, .inl (fun _ => 0))), (q9, .inl (c5, 1600, .inl (fun _ => 0))), (q10, .inl (c1, 40, .inl (fun _ => 0)))] : va_W)[k]? = some (loc i, ent) ∧ k = (if i < 5 then i else if i < 8 then i + 1 else if i = 8 then 10 else if i = 9 then 5 else 9) := by
        intro i hi
        subst hloc
        match i, hi with
        | 0, _ => exact ⟨0, _, by decide, rfl, by decide⟩
        | 1, _ => exact ⟨1, _, by decide, rfl, by decide⟩
        | 2, _ => exact ⟨2, _, by decide, rfl, by decide⟩
        | 3, _ => exact ⟨3, _, by decide, rfl, by decide⟩
        | 4, _ => exact ⟨4, _, by decide, rfl, by decide⟩
        | 5, _ => exact ⟨6, _, by decide, rfl, by decide⟩
        | 6, _ => exact ⟨7, _, by decide, rfl, by decide⟩
        | 7, _ => exact ⟨8, _, by decide, rfl, by decide⟩
        | 8, _ => exact ⟨10, _, by decide, rfl, by decide⟩
        | 9, _ => exact ⟨5, _, by decide, rfl, by decide⟩
        | 10, _ => exact ⟨9, _, by decide, rfl, by decide⟩
        | k + 11, h => omega
      have hZJ : ZJ loc 10 := by
        intro i j hi hj e
        obtain ⟨k1, e1, h1, h2, h3⟩ := hpos i (by omega)
        obtain ⟨k2, e2, h4, h5, h6⟩ := hpos j (by omega)
        have hk := hD.1 k1 k2 _ _ h2 h5 e
        rw [h3, h6] at hk
        exact posM i (by omega) j (by omega) hk
      have hAd : ∀ i, 1 ≤ i → i < 11 → s.heap.size ≤ loc i := by
        intro i h1 h2
        obtain ⟨k1, e1, h3, h4, h5⟩ := hpos i h2
        rcases hD.2 k1 _ h4 with q | q
        · exfalso
          have h00 : loc 0 = h0 := by subst hloc; rfl
          have := hZJ i 0 (by omega) (by omega) (by rw [h00]; exact q)
          omega
        · exact q
      have hHM : HM loc N g iniM H := by
        refine ⟨?_, ?_⟩
        · obtain ⟨rr, hrr, hob⟩ := hP 0 _ rfl
          cases hrr
          subst hloc
          subst hg
          exact t_OB.to hob (fun k hk => match k, hk with
            | 0, _ => rfl
            | 1, _ => rfl
            | 2, _ => rfl
            | 3, _ => rfl
            | 4, _ => rfl
            | 5, _ => rfl
            | 6, _ => rfl
            | 7, _ => rfl
            | 8, _ => rfl
            | 9, _ => rfl
            | 10, _ => rfl
            | 11, _ => rfl
            | 12, _ => rfl
            | 13, _ => rfl
            | k + 14, h => absurd h (by omega))
        · intro i hi
          subst hloc
          subst hg
          match i, hi with
          | 0, _ => exact cell_i (hP 1 _ rfl) rfl rfl (fun j hj => rfl)
          | 1, _ => exact cell_i (hP 2 _ rfl) rfl rfl (fun j hj => rfl)
          | 2, _ => exact cell_i (hP 3 _ rfl) rfl rfl (fun j hj => rfl)
          | 3, _ => exact cell_i (hP 4 _ rfl) rfl rfl (fun j hj => rfl)
          | 4, _ => exact cell_i (hP 6 _ rfl) rfl rfl (fun j hj => rfl)
          | 5, _ => exact cell_i (hP 7 _ rfl) rfl rfl (fun j hj => rfl)
          | 6, _ => exact cell_i (hP 8 _ rfl) rfl rfl (fun j hj => rfl)
          | 7, _ => exact cell_i (hP 10 _ rfl) rfl rfl (fun j hj => rfl)
          | 8, _ => exact cell_i (hP 5 _ rfl) rfl rfl (fun j hj => rfl)
          | 9, _ => exact cell_i (hP 9 _ rfl) rfl rfl (fun j hj => rfl)
          | k + 10, h => omega
      have hKM : KM g s := by
        subst hg
        exact ⟨hK.1 1 _ rfl, (hK.2 0 _ rfl).1, (hK.2 4 _ rfl).1⟩
      have hC : Cn (AI h0 s.heap.size) (HM loc N g) (EvM loc g) iniM s H locs := ⟨⟨hKM, hZJ⟩, hHM, hS⟩
      have hAq : ∀ q, ZA loc 10 q → AI h0 s.heap.size q := by
        rintro q ⟨a, ha, rfl⟩
        by_cases ha0 : a = 0
        · subst ha0; exact Or.inl (by subst hloc; rfl)
        · exact Or.inr (hAd a (by omega) (by omega))
      have h00 : h0 = loc 0 := by subst hloc; rfl
      refine W.eq (g2 := F0 m 111 ls [.ref (loc 0)]) (by rw [← h00]) ?_
      refine va_callv (va_runV (As := []) (rest := []) S (c_X1_begin l (n := N) (loc := loc) (g := g) (S0 := iniM) (by omega)) (cwV 0 S.2.2.2.2 (vw_good cw_RX1_X1_begin) rfl rfl rfl ⟨rfl, cw_RX1_X1_begin.2⟩ (by decide)) (o_pre oiN hC) rfl rfl hl.1 rfl (lv_room (Nat.le_of_ble_eq_true rfl)) dX1_init_111 ⟨Nat.le_of_ble_eq_true rfl, Nat.le_of_ble_eq_true rfl⟩) hS (fun q _ hz => hAq q hz) (fun q hz => hAq q hz) (fun u t H1 locs1 ht hvm hp hB _ _ hS => ?_)
      refine W.widen (k := 10) (n := 23000) (Nat.le_of_ble_eq_true rfl) (Nat.le_of_ble_eq_true rfl) ?_
      exact W.vret S.1 S.2.1 hr (fun t2 ht2 hW => ⟨⟨(loc, g), rfl, ⟨h00.symm, hAd⟩, by rw [ht2]; subst hp; rw [← ht]; exact hB, hKM.moved hW.alike, hZJ⟩, hS.F ht2⟩) hS.2.2 dX1_init_114 hlocks
    · skip
      have h2 : 40 < x := Int32.not_le.mp h2
      have xe : (40 : Int32) = nI (clN x) := by rw [show clN x = 40 from (by unfold clN; rw [if_neg h1, if_pos h2])]; rfl
      refine lv_bipush (v := 40) S.1 S.2.1 dX1_init_101 rfl ?_
      refine lv_goto (tgt := 107) S.1 S.2.1 dX1_init_103 (by decide) ?_
      rw [xe]
      clear xe
      generalize hNe : clN x = N at hN1 hN40 ⊢
      refine va_putF (D := D) (ci := 1) (v := .int (nI N)) (ty := tyX1 1) (C := RX1) (T := TX1) (N := 14) S.1 S.2.1 S.2.2.2.2 inX1 tyX1 tyX1_ok nmX1 S.2.2.2.1 hK hP hD hS 0 rfl rfl 1 (Nat.le_of_ble_eq_true rfl) (S.2.2.2.2 _ w_227) (fun _ h9 => h9) rfl hin rfl (tyX1_ok 1 (by decide)) rfl rfl (Nat.le_of_ble_eq_true rfl) dX1_init_107 (fun H locs hP hD hS => ?_)
      have hP : va_P D lwCl [(h0, .inr (1, [.int 0, .int (nI N), .ref q1, .int 0, .ref q2, .ref q3, .ref q4, .ref q5, .int 0, .ref q6, .ref q7, .ref q8, .ref q9, .ref q10])), (q1, .inl (c1, 40, .inl (fun _ => 0))), (q2, .inl (c2, 12, .inl (fun _ => 0))), (q3, .inl (c3, 12, .inl (fun _ => 0))), (q4, .inl (c4, 12, .inl (fun _ => 0))), (q5, .inl (c5, 19200, .inl (fun _ => 0))), (q6, .inl (c6, 4, .inl (fun _ => 0))), (q7, .inl (c7, 4, .inl (fun _ => 0))), (q8, .inl (c8, 1600, .inl (fun _ => 0))), (q9, .inl (c9, 1600, .inl (fun _ => 0))), (q10, .inl (c10, 40, .inl (fun _ => 0)))] H := hP
      have hD : va_D (AI h0 s.heap.size) [(h0, .inr (1, [.int 0, .int (nI N), .ref q1, .int 0, .ref q2, .ref q3, .ref q4, .ref q5, .int 0, .ref q6, .ref q7, .ref q8, .ref q9, .ref q10])), (q1, .inl (c1, 40, .inl (fun _ => 0))), (q2, .inl (c2, 12, .inl (fun _ => 0))), (q3, .inl (c3, 12, .inl (fun _ => 0))), (q4, .inl (c4, 12, .inl (fun _ => 0))), (q5, .inl (c5, 19200, .inl (fun _ => 0))), (q6, .inl (c6, 4, .inl (fun _ => 0))), (q7, .inl (c7, 4, .inl (fun _ => 0))), (q8, .inl (c8, 1600, .inl (fun _ => 0))), (q9, .inl (c9, 1600, .inl (fun _ => 0))), (q10, .inl (c10, 40, .inl (fun _ => 0)))] := hD
      refine lv_aload_n S.1 S.2.1 dX1_init_110 rfl (lv_at hl 0 rfl) ?_
      have hKI : ∀ (k : Nat) (q : ClassId × FieldType), ([(c1, .int), (c2, .int), (c3, .int), (c4, .int), (c5, .boolean), (c6, .int), (c7, .int), (c8, .int), (c9, .boolean), (c10, .int)] : List (ClassId × FieldType))[k]? = some q → q.2 = .int → s.vm.findClass "[I" = some q.1 := fun k q hk e => by have := (hK.2 k q hk).2; rw [e] at this; exact this
      have hKB : ∀ (k : Nat) (q : ClassId × FieldType), ([(c1, .int), (c2, .int), (c3, .int), (c4, .int), (c5, .boolean), (c6, .int), (c7, .int), (c8, .int), (c9, .boolean), (c10, .int)] : List (ClassId × FieldType))[k]? = some q → q.2 = .boolean → s.vm.findClass "[Z" = some q.1 := fun k q hk e => by have := (hK.2 k q hk).2; rw [e] at this; exact this
      have e2 : c1 = c2 := Option.some.inj ((hKI 0 _ rfl rfl).symm.trans (hKI 1 _ rfl rfl))
      have e3 : c1 = c3 := Option.some.inj ((hKI 0 _ rfl rfl).symm.trans (hKI 2 _ rfl rfl))
      have e4 : c1 = c4 := Option.some.inj ((hKI 0 _ rfl rfl).symm.trans (hKI 3 _ rfl rfl))
      have e6 : c1 = c6 := Option.some.inj ((hKI 0 _ rfl rfl).symm.trans (hKI 5 _ rfl rfl))
      have e7 : c1 = c7 := Option.some.inj ((hKI 0 _ rfl rfl).symm.trans (hKI 6 _ rfl rfl))
      have e8 : c1 = c8 := Option.some.inj ((hKI 0 _ rfl rfl).symm.trans (hKI 7 _ rfl rfl))
      have e10 : c1 = c10 := Option.some.inj ((hKI 0 _ rfl rfl).symm.trans (hKI 9 _ rfl rfl))
      have e9 : c5 = c9 := Option.some.inj ((hKB 4 _ rfl rfl).symm.trans (hKB 8 _ rfl rfl))
      subst e2 e3 e4 e6 e7 e8 e10 e9
      obtain ⟨loc, hloc⟩ : ∃ z : Nat → Nat, z = (fun i => match i with | 0 => h0 | 1 => q1 | 2 => q2 | 3 => q3 | 4 => q4 | 5 => q6 | 6 => q7 | 7 => q8 | 8 => q10 | 9 => q5 | _ => q9 : Nat → Nat) := ⟨_, rfl⟩
      obtain ⟨g, hg⟩ : ∃ z : Gc, z = ((D.2 1, fun k => match k with | 0 => D.1 1 | 1 => c1 | _ => c5) : Gc) := ⟨_, rfl⟩
      have hpos : ∀ i, i < 11 → ∃ k ent, k < 11 ∧ ([(h0, .inr (1, [.int 0, .int (nI N), .ref q1, .int 0, .ref q2, .ref q3, .ref q4, .ref q5, .int 0, .ref q6, .ref q7, .ref q8, .ref q9, .ref q10])), (q1, .inl (c1, 40, .inl (fun _ => 0))), (q2, .inl (c1, 12, .inl (fun _ => 0))), (q3, .inl (c1, 12, .inl (fun _ => 0))), (q4, .inl (c1, 12, .inl (fun _ => 0))), (q5, .inl (c5, 19200, .inl (fun _ => 0))), (q6, .inl (c1, 4, .inl (fun _ => 0))), (q7, .inl (c1, 4, .inl (fun _ => 0))), (q8, .inl (c1, 1600, .inl (fun _ => 0))), (q9, .inl (c5, 1600, .inl (fun _ => 0))), (q10, .inl (c1, 40, .inl (fun _ => 0)))] : va_W)[k]? = some (loc i, ent) ∧ k = (if i < 5 then i else if i < 8 then i + 1 else if i = 8 then 10 else if i = 9 then 5 else 9) := by
        intro i hi
        subst hloc
        match i, hi with
        | 0, _ => exact ⟨0, _, by decide, rfl, by decide⟩
        | 1, _ => exact ⟨1, _, by decide, rfl, by decide⟩
        | 2, _ => exact ⟨2, _, by decide, rfl, by decide⟩
        | 3, _ => exact ⟨3, _, by decide, rfl, by decide⟩
        | 4, _ => exact ⟨4, _, by decide, rfl, by decide⟩
        | 5, _ => exact ⟨6, _, by decide, rfl, by decide⟩
        | 6, _ => exact ⟨7, _, by decide, rfl, by decide⟩
        | 7, _ => exact ⟨8, _, by decide, rfl, by decide⟩
        | 8, _ => exact ⟨10, _, by decide, rfl, by decide⟩
        | 9, _ => exact ⟨5, _, by decide, rfl, by decide⟩
        | 10, _ => exact ⟨9, _, by decide, rfl, by decide⟩
        | k + 11, h => omega
      have hZJ : ZJ loc 10 := by
        intro i j hi hj e
        obtain ⟨k1, e1, h1, h2, h3⟩ := hpos i (by omega)
        obtain ⟨k2, e2, h4, h5, h6⟩ := hpos j (by omega)
        have hk := hD.1 k1 k2 _ _ h2 h5 e
        rw [h3, h6] at hk
        exact posM i (by omega) j (by omega) hk
      have hAd : ∀ i, 1 ≤ i → i < 11 → s.heap.size ≤ loc i := by
        intro i h1 h2
        obtain ⟨k1, e1, h3, h4, h5⟩ := hpos i h2
        rcases hD.2 k1 _ h4 with q | q
        · exfalso
          have h00 : loc 0 = h0 := by subst hloc; rfl
          have := hZJ i 0 (by omega) (by omega) (by rw [h00]; exact q)
          omega
        · exact q
      have hHM : HM loc N g iniM H := by
        refine ⟨?_, ?_⟩
        · obtain ⟨rr, hrr, hob⟩ := hP 0 _ rfl
          cases hrr
          subst hloc
          subst hg
          exact t_OB.to hob (fun k hk => match k, hk with
            | 0, _ => rfl
            | 1, _ => rfl
            | 2, _ => rfl
            | 3, _ => rfl
            | 4, _ => rfl
            | 5, _ => rfl
            | 6, _ => rfl
            | 7, _ => rfl
            | 8, _ => rfl
            | 9, _ => rfl
            | 10, _ => rfl
            | 11, _ => rfl
            | 12, _ => rfl
            | 13, _ => rfl
            | k + 14, h => absurd h (by omega))
        · intro i hi
          subst hloc
          subst hg
          match i, hi with
          | 0, _ => exact cell_i (hP 1 _ rfl) rfl rfl (fun j hj => rfl)
          | 1, _ => exact cell_i (hP 2 _ rfl) rfl rfl (fun j hj => rfl)
          | 2, _ => exact cell_i (hP 3 _ rfl) rfl rfl (fun j hj => rfl)
          | 3, _ => exact cell_i (hP 4 _ rfl) rfl rfl (fun j hj => rfl)
          | 4, _ => exact cell_i (hP 6 _ rfl) rfl rfl (fun j hj => rfl)
          | 5, _ => exact cell_i (hP 7 _ rfl) rfl rfl (fun j hj => rfl)
          | 6, _ => exact cell_i (hP 8 _ rfl) rfl rfl (fun j hj => rfl)
          | 7, _ => exact cell_i (hP 10 _ rfl) rfl rfl (fun j hj => rfl)
          | 8, _ => exact cell_i (hP 5 _ rfl) rfl rfl (fun j hj => rfl)
          | 9, _ => exact cell_i (hP 9 _ rfl) rfl rfl (fun j hj => rfl)
          | k + 10, h => omega
      have hKM : KM g s := by
        subst hg
        exact ⟨hK.1 1 _ rfl, (hK.2 0 _ rfl).1, (hK.2 4 _ rfl).1⟩
      have hC : Cn (AI h0 s.heap.size) (HM loc N g) (EvM loc g) iniM s H locs := ⟨⟨hKM, hZJ⟩, hHM, hS⟩
      have hAq : ∀ q, ZA loc 10 q → AI h0 s.heap.size q := by
        rintro q ⟨a, ha, rfl⟩
        by_cases ha0 : a = 0
        · subst ha0; exact Or.inl (by subst hloc; rfl)
        · exact Or.inr (hAd a (by omega) (by omega))
      have h00 : h0 = loc 0 := by subst hloc; rfl
      refine W.eq (g2 := F0 m 111 ls [.ref (loc 0)]) (by rw [← h00]) ?_
      refine va_callv (va_runV (As := []) (rest := []) S (c_X1_begin l (n := N) (loc := loc) (g := g) (S0 := iniM) (by omega)) (cwV 0 S.2.2.2.2 (vw_good cw_RX1_X1_begin) rfl rfl rfl ⟨rfl, cw_RX1_X1_begin.2⟩ (by decide)) (o_pre oiN hC) rfl rfl hl.1 rfl (lv_room (Nat.le_of_ble_eq_true rfl)) dX1_init_111 ⟨Nat.le_of_ble_eq_true rfl, Nat.le_of_ble_eq_true rfl⟩) hS (fun q _ hz => hAq q hz) (fun q hz => hAq q hz) (fun u t H1 locs1 ht hvm hp hB _ _ hS => ?_)
      refine W.widen (k := 10) (n := 23000) (Nat.le_of_ble_eq_true rfl) (Nat.le_of_ble_eq_true rfl) ?_
      exact W.vret S.1 S.2.1 hr (fun t2 ht2 hW => ⟨⟨(loc, g), rfl, ⟨h00.symm, hAd⟩, by rw [ht2]; subst hp; rw [← ht]; exact hB, hKM.moved hW.alike, hZJ⟩, hS.F ht2⟩) hS.2.2 dX1_init_114 hlocks
  · skip
    have h1 : x < 1 := Int32.not_le.mp h1
    have xe : (1 : Int32) = nI (clN x) := by rw [show clN x = 1 from (by unfold clN; rw [if_pos h1])]; rfl
    refine lv_iconst (v := 1) S.1 S.2.1 dX1_init_91 rfl ?_
    refine lv_goto (tgt := 107) S.1 S.2.1 dX1_init_92 (by decide) ?_
    rw [xe]
    clear xe
    generalize hNe : clN x = N at hN1 hN40 ⊢
    refine va_putF (D := D) (ci := 1) (v := .int (nI N)) (ty := tyX1 1) (C := RX1) (T := TX1) (N := 14) S.1 S.2.1 S.2.2.2.2 inX1 tyX1 tyX1_ok nmX1 S.2.2.2.1 hK hP hD hS 0 rfl rfl 1 (Nat.le_of_ble_eq_true rfl) (S.2.2.2.2 _ w_227) (fun _ h9 => h9) rfl hin rfl (tyX1_ok 1 (by decide)) rfl rfl (Nat.le_of_ble_eq_true rfl) dX1_init_107 (fun H locs hP hD hS => ?_)
    have hP : va_P D lwCl [(h0, .inr (1, [.int 0, .int (nI N), .ref q1, .int 0, .ref q2, .ref q3, .ref q4, .ref q5, .int 0, .ref q6, .ref q7, .ref q8, .ref q9, .ref q10])), (q1, .inl (c1, 40, .inl (fun _ => 0))), (q2, .inl (c2, 12, .inl (fun _ => 0))), (q3, .inl (c3, 12, .inl (fun _ => 0))), (q4, .inl (c4, 12, .inl (fun _ => 0))), (q5, .inl (c5, 19200, .inl (fun _ => 0))), (q6, .inl (c6, 4, .inl (fun _ => 0))), (q7, .inl (c7, 4, .inl (fun _ => 0))), (q8, .inl (c8, 1600, .inl (fun _ => 0))), (q9, .inl (c9, 1600, .inl (fun _ => 0))), (q10, .inl (c10, 40, .inl (fun _ => 0)))] H := hP
    have hD : va_D (AI h0 s.heap.size) [(h0, .inr (1, [.int 0, .int (nI N), .ref q1, .int 0, .ref q2, .ref q3, .ref q4, .ref q5, .int 0, .ref q6, .ref q7, .ref q8, .ref q9, .ref q10])), (q1, .inl (c1, 40, .inl (fun _ => 0))), (q2, .inl (c2, 12, .inl (fun _ => 0))), (q3, .inl (c3, 12, .inl (fun _ => 0))), (q4, .inl (c4, 12, .inl (fun _ => 0))), (q5, .inl (c5, 19200, .inl (fun _ => 0))), (q6, .inl (c6, 4, .inl (fun _ => 0))), (q7, .inl (c7, 4, .inl (fun _ => 0))), (q8, .inl (c8, 1600, .inl (fun _ => 0))), (q9, .inl (c9, 1600, .inl (fun _ => 0))), (q10, .inl (c10, 40, .inl (fun _ => 0)))] := hD
    refine lv_aload_n S.1 S.2.1 dX1_init_110 rfl (lv_at hl 0 rfl) ?_
    have hKI : ∀ (k : Nat) (q : ClassId × FieldType), ([(c1, .int), (c2, .int), (c3, .int), (c4, .int), (c5, .boolean), (c6, .int), (c7, .int), (c8, .int), (c9, .boolean), (c10, .int)] : List (ClassId × FieldType))[k]? = some q → q.2 = .int → s.vm.findClass "[I" = some q.1 := fun k q hk e => by have := (hK.2 k q hk).2; rw [e] at this; exact this
    have hKB : ∀ (k : Nat) (q : ClassId × FieldType), ([(c1, .int), (c2, .int), (c3, .int), (c4, .int), (c5, .boolean), (c6, .int), (c7, .int), (c8, .int), (c9, .boolean), (c10, .int)] : List (ClassId × FieldType))[k]? = some q → q.2 = .boolean → s.vm.findClass "[Z" = some q.1 := fun k q hk e => by have := (hK.2 k q hk).2; rw [e] at this; exact this
    have e2 : c1 = c2 := Option.some.inj ((hKI 0 _ rfl rfl).symm.trans (hKI 1 _ rfl rfl))
    have e3 : c1 = c3 := Option.some.inj ((hKI 0 _ rfl rfl).symm.trans (hKI 2 _ rfl rfl))
    have e4 : c1 = c4 := Option.some.inj ((hKI 0 _ rfl rfl).symm.trans (hKI 3 _ rfl rfl))
    have e6 : c1 = c6 := Option.some.inj ((hKI 0 _ rfl rfl).symm.trans (hKI 5 _ rfl rfl))
    have e7 : c1 = c7 := Option.some.inj ((hKI 0 _ rfl rfl).symm.trans (hKI 6 _ rfl rfl))
    have e8 : c1 = c8 := Option.some.inj ((hKI 0 _ rfl rfl).symm.trans (hKI 7 _ rfl rfl))
    have e10 : c1 = c10 := Option.some.inj ((hKI 0 _ rfl rfl).symm.trans (hKI 9 _ rfl rfl))
    have e9 : c5 = c9 := Option.some.inj ((hKB 4 _ rfl rfl).symm.trans (hKB 8 _ rfl rfl))
    subst e2 e3 e4 e6 e7 e8 e10 e9
    obtain ⟨loc, hloc⟩ : ∃ z : Nat → Nat, z = (fun i => match i with | 0 => h0 | 1 => q1 | 2 => q2 | 3 => q3 | 4 => q4 | 5 => q6 | 6 => q7 | 7 => q8 | 8 => q10 | 9 => q5 | _ => q9 : Nat → Nat) := ⟨_, rfl⟩
    obtain ⟨g, hg⟩ : ∃ z : Gc, z = ((D.2 1, fun k => match k with | 0 => D.1 1 | 1 => c1 | _ => c5) : Gc) := ⟨_, rfl⟩
    have hpos : ∀ i, i < 11 → ∃ k ent, k < 11 ∧ ([(h0, .inr (1, [.int 0, .int (nI N), .ref q1, .int 0, .ref q2, .ref q3, .ref q4, .ref q5, .int 0, .ref q6, .ref q7, .ref q8, .ref q9, .ref q10])), (q1, .inl (c1, 40, .inl (fun _ => 0))), (q2, .inl (c1, 12, .inl (fun _ => 0))), (q3, .inl (c1, 12, .inl (fun _ => 0))), (q4, .inl (c1, 12, .inl (fun _ => 0))), (q5, .inl (c5, 19200, .inl (fun _ => 0))), (q6, .inl (c1, 4, .inl (fun _ => 0))), (q7, .inl (c1, 4, .inl (fun _ => 0))), (q8, .inl (c1, 1600, .inl (fun _ => 0))), (q9, .inl (c5, 1600, .inl (fun _ => 0))), (q10, .inl (c1, 40, .inl (fun _ => 0)))] : va_W)[k]? = some (loc i, ent) ∧ k = (if i < 5 then i else if i < 8 then i + 1 else if i = 8 then 10 else if i = 9 then 5 else 9) := by
      intro i hi
      subst hloc
      match i, hi with
      | 0, _ => exact ⟨0, _, by decide, rfl, by decide⟩
      | 1, _ => exact ⟨1, _, by decide, rfl, by decide⟩
      | 2, _ => exact ⟨2, _, by decide, rfl, by decide⟩
      | 3, _ => exact ⟨3, _, by decide, rfl, by decide⟩
      | 4, _ => exact ⟨4, _, by decide, rfl, by decide⟩
      | 5, _ => exact ⟨6, _, by decide, rfl, by decide⟩
      | 6, _ => exact ⟨7, _, by decide, rfl, by decide⟩
      | 7, _ => exact ⟨8, _, by decide, rfl, by decide⟩
      | 8, _ => exact ⟨10, _, by decide, rfl, by decide⟩
      | 9, _ => exact ⟨5, _, by decide, rfl, by decide⟩
      | 10, _ => exact ⟨9, _, by decide, rfl, by decide⟩
      | k + 11, h => omega
    have hZJ : ZJ loc 10 := by
      intro i j hi hj e
      obtain ⟨k1, e1, h1, h2, h3⟩ := hpos i (by omega)
      obtain ⟨k2, e2, h4, h5, h6⟩ := hpos j (by omega)
      have hk := hD.1 k1 k2 _ _ h2 h5 e
      rw [h3, h6] at hk
      exact posM i (by omega) j (by omega) hk
    have hAd : ∀ i, 1 ≤ i → i < 11 → s.heap.size ≤ loc i := by
      intro i h1 h2
      obtain ⟨k1, e1, h3, h4, h5⟩ := hpos i h2
      rcases hD.2 k1 _ h4 with q | q
      · exfalso
        have h00 : loc 0 = h0 := by subst hloc; rfl
        have := hZJ i 0 (by omega) (by omega) (by rw [h00]; exact q)
        omega
      · exact q
    have hHM : HM loc N g iniM H := by
      refine ⟨?_, ?_⟩
      · obtain ⟨rr, hrr, hob⟩ := hP 0 _ rfl
        cases hrr
        subst hloc
        subst hg
        exact t_OB.to hob (fun k hk => match k, hk with
          | 0, _ => rfl
          | 1, _ => rfl
          | 2, _ => rfl
          | 3, _ => rfl
          | 4, _ => rfl
          | 5, _ => rfl
          | 6, _ => rfl
          | 7, _ => rfl
          | 8, _ => rfl
          | 9, _ => rfl
          | 10, _ => rfl
          | 11, _ => rfl
          | 12, _ => rfl
          | 13, _ => rfl
          | k + 14, h => absurd h (by omega))
      · intro i hi
        subst hloc
        subst hg
        match i, hi with
        | 0, _ => exact cell_i (hP 1 _ rfl) rfl rfl (fun j hj => rfl)
        | 1, _ => exact cell_i (hP 2 _ rfl) rfl rfl (fun j hj => rfl)
        | 2, _ => exact cell_i (hP 3 _ rfl) rfl rfl (fun j hj => rfl)
        | 3, _ => exact cell_i (hP 4 _ rfl) rfl rfl (fun j hj => rfl)
        | 4, _ => exact cell_i (hP 6 _ rfl) rfl rfl (fun j hj => rfl)
        | 5, _ => exact cell_i (hP 7 _ rfl) rfl rfl (fun j hj => rfl)
        | 6, _ => exact cell_i (hP 8 _ rfl) rfl rfl (fun j hj => rfl)
        | 7, _ => exact cell_i (hP 10 _ rfl) rfl rfl (fun j hj => rfl)
        | 8, _ => exact cell_i (hP 5 _ rfl) rfl rfl (fun j hj => rfl)
        | 9, _ => exact cell_i (hP 9 _ rfl) rfl rfl (fun j hj => rfl)
        | k + 10, h => omega
    have hKM : KM g s := by
      subst hg
      exact ⟨hK.1 1 _ rfl, (hK.2 0 _ rfl).1, (hK.2 4 _ rfl).1⟩
    have hC : Cn (AI h0 s.heap.size) (HM loc N g) (EvM loc g) iniM s H locs := ⟨⟨hKM, hZJ⟩, hHM, hS⟩
    have hAq : ∀ q, ZA loc 10 q → AI h0 s.heap.size q := by
      rintro q ⟨a, ha, rfl⟩
      by_cases ha0 : a = 0
      · subst ha0; exact Or.inl (by subst hloc; rfl)
      · exact Or.inr (hAd a (by omega) (by omega))
    have h00 : h0 = loc 0 := by subst hloc; rfl
    refine W.eq (g2 := F0 m 111 ls [.ref (loc 0)]) (by rw [← h00]) ?_
    refine va_callv (va_runV (As := []) (rest := []) S (c_X1_begin l (n := N) (loc := loc) (g := g) (S0 := iniM) (by omega)) (cwV 0 S.2.2.2.2 (vw_good cw_RX1_X1_begin) rfl rfl rfl ⟨rfl, cw_RX1_X1_begin.2⟩ (by decide)) (o_pre oiN hC) rfl rfl hl.1 rfl (lv_room (Nat.le_of_ble_eq_true rfl)) dX1_init_111 ⟨Nat.le_of_ble_eq_true rfl, Nat.le_of_ble_eq_true rfl⟩) hS (fun q _ hz => hAq q hz) (fun q hz => hAq q hz) (fun u t H1 locs1 ht hvm hp hB _ _ hS => ?_)
    refine W.widen (k := 10) (n := 23000) (Nat.le_of_ble_eq_true rfl) (Nat.le_of_ble_eq_true rfl) ?_
    exact W.vret S.1 S.2.1 hr (fun t2 ht2 hW => ⟨⟨(loc, g), rfl, ⟨h00.symm, hAd⟩, by rw [ht2]; subst hp; rw [← ht]; exact hB, hKM.moved hW.alike, hZJ⟩, hS.F ht2⟩) hS.2.2 dX1_init_114 hlocks
