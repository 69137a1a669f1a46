def clN (x : Int32) : Nat := if x < 1 then 1 else if 40 < x then 40 else ixN x
theorem clN_in (x : Int32) : 1 ≤ clN x ∧ clN x ≤ 40 := by
  unfold clN
  by_cases h1 : x < 1
  · rw [if_pos h1]; omega
  · rw [if_neg h1]
    by_cases h2 : 40 < x
    · rw [if_pos h2]; omega
    · rw [if_neg h2]
      have e1 := Int32.le_iff_toInt_le.mp (Int32.not_lt.mp h1)
      have e2 := Int32.le_iff_toInt_le.mp (Int32.not_lt.mp h2)
      have q1 : (1 : Int32).toInt = 1 := by decide
      have q2 : (40 : Int32).toInt = 40 := by decide
      rw [q1] at e1
      rw [q2] at e2
      unfold ixN Int32.toNatClampNeg
      omega
theorem clN_x {x : Int32} (h1 : ¬ x < 1) (h2 : ¬ 40 < x) : x = nI (clN x) := by
  have e : clN x = ixN x := by unfold clN; rw [if_neg h1, if_neg h2]
  rw [e]
  have e1 := Int32.le_iff_toInt_le.mp (Int32.not_lt.mp h1)
  have q1 : (1 : Int32).toInt = 1 := by decide
  rw [q1] at e1
  obtain ⟨j, hj, rfl⟩ := nI_of (x := x) (fun q => by
    have := Int32.lt_iff_toInt_lt.mp q
    have q0 : (0 : Int32).toInt = 0 := by decide
    rw [q0] at this
    omega)
  rw [ixN_nI hj]
theorem clN_mm (x : Int32) : (if (1 : Int32) < (if x < 40 then x else 40) then (if x < 40 then x else 40) else 1) = nI (clN x) := by
  by_cases h1 : x < 1
  · have e : clN x = 1 := by unfold clN; rw [if_pos h1]
    have h40 : x < 40 := Int32.lt_trans h1 (by decide)
    rw [if_pos h40, if_neg (fun q => Int32.lt_irrefl (Int32.lt_trans h1 q)), e]
    rfl
  · by_cases h2 : 40 < x
    · have e : clN x = 40 := by unfold clN; rw [if_neg h1, if_pos h2]
      rw [if_neg (fun q => Int32.lt_irrefl (Int32.lt_trans h2 q)), if_pos (by decide), e]
      rfl
    · have e := clN_x h1 h2
      by_cases h4 : x < 40
      · rw [if_pos h4]
        by_cases h5 : 1 < x
        · rw [if_pos h5]; exact e
        · rw [if_neg h5]
          have : x = 1 := Int32.le_antisymm (Int32.not_lt.mp h5) (Int32.not_lt.mp h1)
          rw [← e, this]
      · rw [if_neg h4, if_pos (by decide)]
        have : x = 40 := Int32.le_antisymm (Int32.not_lt.mp h2) (Int32.not_lt.mp h4)
        rw [← e, this]
abbrev lwCl : List vw_C := [(RX0, TX0, 14), (RX1, TX1, 14)]
def iniX : RS := (fun _ => 0, fun _ _ => 0, fun _ _ => 0)
def iniM : MS := (fun _ => 0, fun _ _ => 0, fun _ _ => false)
theorem over_mv {a a' : Array Value} {s U : State} {t : FieldType} (h : s.vm.Alike U.vm) (hz : (Cond.arrayOver t).before a s = true) : (Cond.arrayOver t).before a' U = true := by
  have e := Cond.arrayOver_setVmC (args := a) h t
  rw [← e] at hz
  exact hz
def fs0X : List Value := [.int 0, .long 0, .null, .null, .int 0, .null, .null, .null, .null, .int 0, .int 0, .null, .null, .null]
def fs0M : List Value := [.int 0, .int 0, .null, .int 0, .null, .null, .null, .null, .int 0, .null, .null, .null, .null, .null]
theorem cell_i {H : Heap} {q N N' : Nat} {c c' : ClassId} {f : Nat → Int32} {F : Nat → Value} (h : H[q]? = some (vp_cell c (N, .inl f))) (e1 : c = c') (e2 : N = N') (e : ∀ j, j < N → Value.int (f j) = F j) : H[q]? = some (arrV c' N' F) := by
  subst e1
  subst e2
  rw [h, vp_cell_i]
  exact congrArg some (arrV_congr _ e)
theorem cell_l {H : Heap} {q N N' : Nat} {c c' : ClassId} {f : Nat → Int64} {F : Nat → Value} (h : H[q]? = some (vp_cell c (N, .inr (.inl f)))) (e1 : c = c') (e2 : N = N') (e : ∀ j, j < N → Value.long (f j) = F j) : H[q]? = some (arrV c' N' F) := by
  subst e1
  subst e2
  rw [h, vp_cell_l]
  exact congrArg some (arrV_congr _ e)
theorem cell_q {H : Heap} {q N N' : Nat} {c c' : ClassId} {f : Nat → Option Nat} {F : Nat → Value} (h : H[q]? = some (vp_cell c (N, .inr (.inr (.inr (.inr f)))))) (e1 : c = c') (e2 : N = N') (e : ∀ j, j < N → va_rf (f j) = F j) : H[q]? = some (arrV c' N' F) := by
  subst e1
  subst e2
  rw [h, vp_cell_q]
  exact congrArg some (arrV_congr _ e)
def AI (h0 sz : Nat) : Nat → Prop := fun q => q = h0 ∨ sz ≤ q
def rmI : Room := { frames := 4, cells := 21, slots := 2500, locals := 300 }
def rmJ : Room := { frames := 4, cells := 10, slots := 23000, locals := 300 }
set_option maxRecDepth 100000 in
set_option maxHeartbeats 8000000 in
theorem c_X0_init (l : Launch) {D : va_G} {h0 sz : Nat} (hh : h0 < sz) (x : Int32) : Met l yX0_init (wsM yX0_init cX0_init 3 none) rmI (va_Pc [.ref h0, .int x] (fun U => U.heap.size = sz ∧ va_P D lwCl [(h0, .inr (0, fs0X))] U.heap ∧ va_K D lwCl [] U ∧ (Cond.arrayOver (.array .long)).before #[] U = true)) (va_Qv (fun u : (Nat → Nat) × Gc => u.1 0 = h0 ∧ ∀ i, 1 ≤ i → i < 22 → sz ≤ u.1 i) (fun u t => HX u.1 (clN x) u.2 iniX t.heap ∧ KX u.2 t ∧ ZJ u.1 21) (AI h0 sz)) 21 2500 (AI h0 sz) := by
  refine Met.ofW (cc := cX0_init) (maxL := 3) (ret := none) (by decide) rfl ?_
  intro p e s m args below meth c s₁ B hml hv
  obtain ⟨rfl, hsz, hP, hK, hov⟩ := hv
  have hr := B.returns
  have hlocks := B.notSynchronized
  have hin : meth.name = "<init>" := (name_of_methodNamed B.named B.method).1
  have S : CallFix p m c cX0_init 3 s ([.ref h0, .int x] : List Value).toArray WA RX0 := ⟨B.exec, B.bytes, hml, findClass_of_methodNamed B.named, fun w h => atoms_spec (ws := wsM yX0_init cX0_init 3 none) B.pre w (List.mem_cons_of_mem _ h)⟩
  subst hsz
  obtain ⟨hN1, hN40⟩ := clN_in x
  have hNN : clN x * clN x ≤ 40 * 40 := Nat.mul_le_mul hN40 hN40
  have hcl : ∀ k, k < 2 ^ 31 → (nI k).toNatClampNeg = k := fun k h => nI_clamp h
  have hA : ∀ q : Nat, s.heap.size ≤ q → AI h0 s.heap.size q := fun q h => Or.inr h
  have hS : va_S (AI h0 s.heap.size) s.heap s.heap [] := va_S.rf
  have hD : va_D (AI h0 s.heap.size) [(h0, .inr (0, fs0X))] := ⟨fun i j p q hp hq _ => by
    have e1 := (List.getElem?_eq_some_iff.mp hp).1
    have e2 := (List.getElem?_eq_some_iff.mp hq).1
    simp at e1 e2
    omega, fun k q hk => by
    have e1 := (List.getElem?_eq_some_iff.mp hk).1
    simp at e1
    subst e1
    cases hk
    exact Or.inl rfl⟩
  have hP : va_P D lwCl [(h0, .inr (0, [.int 0, .long 0, .null, .null, .int 0, .null, .null, .null, .null, .int 0, .int 0, .null, .null, .null]))] s.heap := hP
  have hD : va_D (AI h0 s.heap.size) [(h0, .inr (0, [.int 0, .long 0, .null, .null, .int 0, .null, .null, .null, .null, .int 0, .int 0, .null, .null, .null]))] := hD
  have hl := lv_entry ([.ref h0, .int x]) (n := 3) (Nat.le_of_ble_eq_true rfl)
  rw [lg_entry_eq]
  generalize (lg_sl ([.ref h0, .int x]) ++ List.replicate (3 - (lg_sl ([.ref h0, .int x])).length) Slot.unset).toArray = ls at hl ⊢
  have hl : lv_has ls 3 [(0, .ref h0), (1, .int x)] := hl
  refine lv_aload_n S.1 S.2.1 dX0_init_0 rfl (lv_at hl 0 rfl) ?_
  refine W.objInit S.1 S.2.1 S.2.2.2.1 (S.2.2.2.2 _ w_1) (S.2.2.2.2 _ w_2) (S.2.2.2.2 _ w_3) rfl (by rw [S.2.2.1]; exact hl.1) rfl dX0_init_1 (Nat.le_of_ble_eq_true rfl) (Nat.le_of_ble_eq_true rfl) ?_
  refine W.eq (g2 := F0 m 4 ls []) rfl ?_
  refine lv_iconst (v := 1) S.1 S.2.1 dX0_init_4 rfl ?_
  refine lv_bipush (v := 40) S.1 S.2.1 dX0_init_5 rfl ?_
  refine lv_iload_n S.1 S.2.1 dX0_init_7 rfl (lv_at hl 1 rfl) ?_
  refine va_mmin S.1 S.2.1 (S.2.2.1.trans hl.1.symm) S.2.2.2.1 (S.2.2.2.2 _ w_4) (S.2.2.2.2 _ w_5) (S.2.2.2.2 _ w_6) (S.2.2.2.2 _ w_7) (Nat.le_of_ble_eq_true rfl) (Nat.le_of_ble_eq_true rfl) (Nat.le_of_ble_eq_true rfl) (Nat.le_of_ble_eq_true rfl) dX0_init_8 ?_
  refine va_mmax S.1 S.2.1 (S.2.2.1.trans hl.1.symm) S.2.2.2.1 (S.2.2.2.2 _ w_8) (S.2.2.2.2 _ w_9) (S.2.2.2.2 _ w_6) (S.2.2.2.2 _ w_10) (Nat.le_of_ble_eq_true rfl) (Nat.le_of_ble_eq_true rfl) (Nat.le_of_ble_eq_true rfl) (Nat.le_of_ble_eq_true rfl) dX0_init_11 ?_
  rw [clN_mm x]
  generalize hNe : clN x = N at hN1 hN40 hNN ⊢
  refine lv_istore_n S.1 S.2.1 dX0_init_14 rfl hl (by decide) rfl (fun ls hl => ?_)
  have hl : lv_has ls 3 [(2, .int (nI N)), (0, .ref h0), (1, .int x)] := hl
  refine lv_aload_n S.1 S.2.1 dX0_init_15 rfl (lv_at hl 1 rfl) ?_
  refine lv_iload_n S.1 S.2.1 dX0_init_16 rfl (lv_at hl 0 rfl) ?_
  refine va_putF (D := D) (ci := 0) (v := .int (nI N)) (ty := tyX0 0) (C := RX0) (T := TX0) (N := 14) S.1 S.2.1 S.2.2.2.2 inX0 tyX0 tyX0_ok nmX0 S.2.2.2.1 hK hP hD hS 0 rfl rfl 0 (Nat.le_of_ble_eq_true rfl) (S.2.2.2.2 _ w_11) (fun _ h9 => h9) rfl hin rfl (tyX0_ok 0 (by decide)) rfl rfl (Nat.le_of_ble_eq_true rfl) dX0_init_17 (fun H locs hP hD hS => ?_)
  have hP : va_P D lwCl [(h0, .inr (0, [.int (nI N), .long 0, .null, .null, .int 0, .null, .null, .null, .null, .int 0, .int 0, .null, .null, .null]))] H := hP
  have hD : va_D (AI h0 s.heap.size) [(h0, .inr (0, [.int (nI N), .long 0, .null, .null, .int 0, .null, .null, .null, .null, .int 0, .int 0, .null, .null, .null]))] := hD
  refine lv_aload_n S.1 S.2.1 dX0_init_20 rfl (lv_at hl 1 rfl) ?_
  refine lv_lconst (v := 1) S.1 S.2.1 dX0_init_21 rfl ?_
  refine lv_iload_n S.1 S.2.1 dX0_init_22 rfl (lv_at hl 0 rfl) ?_
  refine lv_lshl S.1 S.2.1 dX0_init_23 rfl ?_
  refine lv_lconst (v := 1) S.1 S.2.1 dX0_init_24 rfl ?_
  refine lv_lsub S.1 S.2.1 dX0_init_25 ?_
  refine lv_topl (fun aL eaL => ?_)
  refine va_putF (D := D) (ci := 0) (v := .long aL) (ty := tyX0 1) (C := RX0) (T := TX0) (N := 14) S.1 S.2.1 S.2.2.2.2 inX0 tyX0 tyX0_ok nmX0 S.2.2.2.1 hK hP hD hS 0 rfl rfl 1 (Nat.le_of_ble_eq_true rfl) (S.2.2.2.2 _ w_12) (fun _ h9 => h9) rfl hin rfl (tyX0_ok 1 (by decide)) rfl rfl (Nat.le_of_ble_eq_true rfl) dX0_init_26 (fun H locs hP hD hS => ?_)
  have hP : va_P D lwCl [(h0, .inr (0, [.int (nI N), .long aL, .null, .null, .int 0, .null, .null, .null, .null, .int 0, .int 0, .null, .null, .null]))] H := hP
  have hD : va_D (AI h0 s.heap.size) [(h0, .inr (0, [.int (nI N), .long aL, .null, .null, .int 0, .null, .null, .null, .null, .int 0, .int 0, .null, .null, .null]))] := hD
  refine lv_aload_n S.1 S.2.1 dX0_init_29 rfl (lv_at hl 1 rfl) ?_
  refine lv_iload_n S.1 S.2.1 dX0_init_30 rfl (lv_at hl 0 rfl) ?_
  refine va_newa (ty := .int) (atype := .int) (a0 := (N, .inl (fun _ => 0))) S.1 S.2.1 (S.2.2.2.2 _ w_13) rfl hK hP hD hS hA (fun _ => rfl) (nI_pos (by omega)) (hcl _ (by omega)) (by show _ * 4 ≤ _; omega) (Nat.le_of_ble_eq_true rfl) (by show _ ≤ (2500 : Nat); omega) dX0_init_31 (fun q1 c1 H hK hP hD hS => ?_)
  have hP : va_P D lwCl [(h0, .inr (0, [.int (nI N), .long aL, .null, .null, .int 0, .null, .null, .null, .null, .int 0, .int 0, .null, .null, .null])), (q1, .inl (c1, N, .inl (fun _ => 0)))] H := hP
  have hD : va_D (AI h0 s.heap.size) [(h0, .inr (0, [.int (nI N), .long aL, .null, .null, .int 0, .null, .null, .null, .null, .int 0, .int 0, .null, .null, .null])), (q1, .inl (c1, N, .inl (fun _ => 0)))] := hD
  have hK : va_K D lwCl [(c1, .int)] s := hK
  refine va_putF (D := D) (ci := 0) (v := .ref q1) (ty := tyX0 2) (C := RX0) (T := TX0) (N := 14) S.1 S.2.1 S.2.2.2.2 inX0 tyX0 tyX0_ok nmX0 S.2.2.2.1 hK hP hD hS 0 rfl rfl 2 (Nat.le_of_ble_eq_true rfl) (S.2.2.2.2 _ w_14) (fun _ h9 => h9) rfl hin rfl (tyX0_ok 2 (by decide)) rfl rfl (Nat.le_of_ble_eq_true rfl) dX0_init_33 (fun H locs hP hD hS => ?_)
  have hP : va_P D lwCl [(h0, .inr (0, [.int (nI N), .long aL, .ref q1, .null, .int 0, .null, .null, .null, .null, .int 0, .int 0, .null, .null, .null])), (q1, .inl (c1, N, .inl (fun _ => 0)))] H := hP
  have hD : va_D (AI h0 s.heap.size) [(h0, .inr (0, [.int (nI N), .long aL, .ref q1, .null, .int 0, .null, .null, .null, .null, .int 0, .int 0, .null, .null, .null])), (q1, .inl (c1, N, .inl (fun _ => 0)))] := hD
  refine lv_aload_n S.1 S.2.1 dX0_init_36 rfl (lv_at hl 1 rfl) ?_
  refine lv_iload_n S.1 S.2.1 dX0_init_37 rfl (lv_at hl 0 rfl) ?_
  refine lv_iload_n S.1 S.2.1 dX0_init_38 rfl (lv_at hl 0 rfl) ?_
  refine t_imul S.1 S.2.1 dX0_init_39 (pk_mul _ _) ?_
  refine va_newa (ty := .int) (atype := .int) (a0 := ((N * N), .inl (fun _ => 0))) S.1 S.2.1 (S.2.2.2.2 _ w_13) rfl hK hP hD hS hA (fun _ => rfl) (nI_pos (by omega)) (hcl _ (by omega)) (by show _ * 4 ≤ _; omega) (Nat.le_of_ble_eq_true rfl) (by show _ ≤ (2500 : Nat); omega) dX0_init_40 (fun q2 c2 H hK hP hD hS => ?_)
  have hP : va_P D lwCl [(h0, .inr (0, [.int (nI N), .long aL, .ref q1, .null, .int 0, .null, .null, .null, .null, .int 0, .int 0, .null, .null, .null])), (q1, .inl (c1, N, .inl (fun _ => 0))), (q2, .inl (c2, (N * N), .inl (fun _ => 0)))] H := hP
  have hD : va_D (AI h0 s.heap.size) [(h0, .inr (0, [.int (nI N), .long aL, .ref q1, .null, .int 0, .null, .null, .null, .null, .int 0, .int 0, .null, .null, .null])), (q1, .inl (c1, N, .inl (fun _ => 0))), (q2, .inl (c2, (N * N), .inl (fun _ => 0)))] := hD
  have hK : va_K D lwCl [(c1, .int), (c2, .int)] s := hK
  refine va_putF (D := D) (ci := 0) (v := .ref q2) (ty := tyX0 3) (C := RX0) (T := TX0) (N := 14) S.1 S.2.1 S.2.2.2.2 inX0 tyX0 tyX0_ok nmX0 S.2.2.2.1 hK hP hD hS 0 rfl rfl 3 (Nat.le_of_ble_eq_true rfl) (S.2.2.2.2 _ w_15) (fun _ h9 => h9) rfl hin rfl (tyX0_ok 3 (by decide)) rfl rfl (Nat.le_of_ble_eq_true rfl) dX0_init_42 (fun H locs hP hD hS => ?_)
  have hP : va_P D lwCl [(h0, .inr (0, [.int (nI N), .long aL, .ref q1, .ref q2, .int 0, .null, .null, .null, .null, .int 0, .int 0, .null, .null, .null])), (q1, .inl (c1, N, .inl (fun _ => 0))), (q2, .inl (c2, (N * N), .inl (fun _ => 0)))] H := hP
  have hD : va_D (AI h0 s.heap.size) [(h0, .inr (0, [.int (nI N), .long aL, .ref q1, .ref q2, .int 0, .null, .null, .null, .null, .int 0, .int 0, .null, .null, .null])), (q1, .inl (c1, N, .inl (fun _ => 0))), (q2, .inl (c2, (N * N), .inl (fun _ => 0)))] := hD
  refine lv_aload_n S.1 S.2.1 dX0_init_45 rfl (lv_at hl 1 rfl) ?_
  refine lv_bipush (v := nI 12) S.1 S.2.1 dX0_init_46 rfl ?_
  refine va_newa (ty := .int) (atype := .int) (a0 := (12, .inl (fun _ => 0))) S.1 S.2.1 (S.2.2.2.2 _ w_13) rfl hK hP hD hS hA (fun _ => rfl) (nI_pos (by omega)) (hcl _ (by omega)) (by show _ * 4 ≤ _; omega) (Nat.le_of_ble_eq_true rfl) (by show _ ≤ (2500 : Nat); omega) dX0_init_48 (fun q3 c3 H hK hP hD hS => ?_)
  have hP : va_P D lwCl [(h0, .inr (0, [.int (nI N), .long aL, .ref q1, .ref q2, .int 0, .null, .null, .null, .null, .int 0, .int 0, .null, .null, .null])), (q1, .inl (c1, N, .inl (fun _ => 0))), (q2, .inl (c2, (N * N), .inl (fun _ => 0))), (q3, .inl (c3, 12, .inl (fun _ => 0)))] H := hP
  have hD : va_D (AI h0 s.heap.size) [(h0, .inr (0, [.int (nI N), .long aL, .ref q1, .ref q2, .int 0, .null, .null, .null, .null, .int 0, .int 0, .null, .null, .null])), (q1, .inl (c1, N, .inl (fun _ => 0))), (q2, .inl (c2, (N * N), .inl (fun _ => 0))), (q3, .inl (c3, 12, .inl (fun _ => 0)))] := hD
  have hK : va_K D lwCl [(c1, .int), (c2, .int), (c3, .int)] s := hK
  refine va_putF (D := D) (ci := 0) (v := .ref q3) (ty := tyX0 5) (C := RX0) (T := TX0) (N := 14) S.1 S.2.1 S.2.2.2.2 inX0 tyX0 tyX0_ok nmX0 S.2.2.2.1 hK hP hD hS 0 rfl rfl 5 (Nat.le_of_ble_eq_true rfl) (S.2.2.2.2 _ w_16) (fun _ h9 => h9) rfl hin rfl (tyX0_ok 5 (by decide)) rfl rfl (Nat.le_of_ble_eq_true rfl) dX0_init_50 (fun H locs hP hD hS => ?_)
  have hP : va_P D lwCl [(h0, .inr (0, [.int (nI N), .long aL, .ref q1, .ref q2, .int 0, .ref q3, .null, .null, .null, .int 0, .int 0, .null, .null, .null])), (q1, .inl (c1, N, .inl (fun _ => 0))), (q2, .inl (c2, (N * N), .inl (fun _ => 0))), (q3, .inl (c3, 12, .inl (fun _ => 0)))] H := hP
  have hD : va_D (AI h0 s.heap.size) [(h0, .inr (0, [.int (nI N), .long aL, .ref q1, .ref q2, .int 0, .ref q3, .null, .null, .null, .int 0, .int 0, .null, .null, .null])), (q1, .inl (c1, N, .inl (fun _ => 0))), (q2, .inl (c2, (N * N), .inl (fun _ => 0))), (q3, .inl (c3, 12, .inl (fun _ => 0)))] := hD
  refine lv_aload_n S.1 S.2.1 dX0_init_53 rfl (lv_at hl 1 rfl) ?_
  refine lv_bipush (v := nI 12) S.1 S.2.1 dX0_init_54 rfl ?_
  refine va_newa (ty := .int) (atype := .int) (a0 := (12, .inl (fun _ => 0))) S.1 S.2.1 (S.2.2.2.2 _ w_13) rfl hK hP hD hS hA (fun _ => rfl) (nI_pos (by omega)) (hcl _ (by omega)) (by show _ * 4 ≤ _; omega) (Nat.le_of_ble_eq_true rfl) (by show _ ≤ (2500 : Nat); omega) dX0_init_56 (fun q4 c4 H hK hP hD hS => ?_)
  have hP : va_P D lwCl [(h0, .inr (0, [.int (nI N), .long aL, .ref q1, .ref q2, .int 0, .ref q3, .null, .null, .null, .int 0, .int 0, .null, .null, .null])), (q1, .inl (c1, N, .inl (fun _ => 0))), (q2, .inl (c2, (N * N), .inl (fun _ => 0))), (q3, .inl (c3, 12, .inl (fun _ => 0))), (q4, .inl (c4, 12, .inl (fun _ => 0)))] H := hP
  have hD : va_D (AI h0 s.heap.size) [(h0, .inr (0, [.int (nI N), .long aL, .ref q1, .ref q2, .int 0, .ref q3, .null, .null, .null, .int 0, .int 0, .null, .null, .null])), (q1, .inl (c1, N, .inl (fun _ => 0))), (q2, .inl (c2, (N * N), .inl (fun _ => 0))), (q3, .inl (c3, 12, .inl (fun _ => 0))), (q4, .inl (c4, 12, .inl (fun _ => 0)))] := hD
  have hK : va_K D lwCl [(c1, .int), (c2, .int), (c3, .int), (c4, .int)] s := hK
  refine va_putF (D := D) (ci := 0) (v := .ref q4) (ty := tyX0 6) (C := RX0) (T := TX0) (N := 14) S.1 S.2.1 S.2.2.2.2 inX0 tyX0 tyX0_ok nmX0 S.2.2.2.1 hK hP hD hS 0 rfl rfl 6 (Nat.le_of_ble_eq_true rfl) (S.2.2.2.2 _ w_17) (fun _ h9 => h9) rfl hin rfl (tyX0_ok 6 (by decide)) rfl rfl (Nat.le_of_ble_eq_true rfl) dX0_init_58 (fun H locs hP hD hS => ?_)
  have hP : va_P D lwCl [(h0, .inr (0, [.int (nI N), .long aL, .ref q1, .ref q2, .int 0, .ref q3, .ref q4, .null, .null, .int 0, .int 0, .null, .null, .null])), (q1, .inl (c1, N, .inl (fun _ => 0))), (q2, .inl (c2, (N * N), .inl (fun _ => 0))), (q3, .inl (c3, 12, .inl (fun _ => 0))), (q4, .inl (c4, 12, .inl (fun _ => 0)))] H := hP
  have hD : va_D (AI h0 s.heap.size) [(h0, .inr (0, [.int (nI N), .long aL, .ref q1, .ref q2, .int 0, .ref q3, .ref q4, .null, .null, .int 0, .int 0, .null, .null, .null])), (q1, .inl (c1, N, .inl (fun _ => 0))), (q2, .inl (c2, (N * N), .inl (fun _ => 0))), (q3, .inl (c3, 12, .inl (fun _ => 0))), (q4, .inl (c4, 12, .inl (fun _ => 0)))] := hD
  refine lv_aload_n S.1 S.2.1 dX0_init_61 rfl (lv_at hl 1 rfl) ?_
  refine lv_bipush (v := nI 12) S.1 S.2.1 dX0_init_62 rfl ?_
  refine va_newa (ty := .int) (atype := .int) (a0 := (12, .inl (fun _ => 0))) S.1 S.2.1 (S.2.2.2.2 _ w_13) rfl hK hP hD hS hA (fun _ => rfl) (nI_pos (by omega)) (hcl _ (by omega)) (by show _ * 4 ≤ _; omega) (Nat.le_of_ble_eq_true rfl) (by show _ ≤ (2500 : Nat); omega) dX0_init_64 (fun q5 c5 H hK hP hD hS => ?_)
  have hP : va_P D lwCl [(h0, .inr (0, [.int (nI N), .long aL, .ref q1, .ref q2, .int 0, .ref q3, .ref q4, .null, .null, .int 0, .int 0, .null, .null, .null])), (q1, .inl (c1, N, .inl (fun _ => 0))), (q2, .inl (c2, (N * N), .inl (fun _ => 0))), (q3, .inl (c3, 12, .inl (fun _ => 0))), (q4, .inl (c4, 12, .inl (fun _ => 0))), (q5, .inl (c5, 12, .inl (fun _ => 0)))] H := hP
  have hD : va_D (AI h0 s.heap.size) [(h0, .inr (0, [.int (nI N), .long aL, .ref q1, .ref q2, .int 0, .ref q3, .ref q4, .null, .null, .int 0, .int 0, .null, .null, .null])), (q1, .inl (c1, N, .inl (fun _ => 0))), (q2, .inl (c2, (N * N), .inl (fun _ => 0))), (q3, .inl (c3, 12, .inl (fun _ => 0))), (q4, .inl (c4, 12, .inl (fun _ => 0))), (q5, .inl (c5, 12, .inl (fun _ => 0)))] := hD
  have hK : va_K D lwCl [(c1, .int), (c2, .int), (c3, .int), (c4, .int), (c5, .int)] s := hK
  refine va_putF (D := D) (ci := 0) (v := .ref q5) (ty := tyX0 7) (C := RX0) (T := TX0) (N := 14) S.1 S.2.1 S.2.2.2.2 inX0 tyX0 tyX0_ok nmX0 S.2.2.2.1 hK hP hD hS 0 rfl rfl 7 (Nat.le_of_ble_eq_true rfl) (S.2.2.2.2 _ w_18) (fun _ h9 => h9) rfl hin rfl (tyX0_ok 7 (by decide)) rfl rfl (Nat.le_of_ble_eq_true rfl) dX0_init_66 (fun H locs hP hD hS => ?_)
  have hP : va_P D lwCl [(h0, .inr (0, [.int (nI N), .long aL, .ref q1, .ref q2, .int 0, .ref q3, .ref q4, .ref q5, .null, .int 0, .int 0, .null, .null, .null])), (q1, .inl (c1, N, .inl (fun _ => 0))), (q2, .inl (c2, (N * N), .inl (fun _ => 0))), (q3, .inl (c3, 12, .inl (fun _ => 0))), (q4, .inl (c4, 12, .inl (fun _ => 0))), (q5, .inl (c5, 12, .inl (fun _ => 0)))] H := hP
  have hD : va_D (AI h0 s.heap.size) [(h0, .inr (0, [.int (nI N), .long aL, .ref q1, .ref q2, .int 0, .ref q3, .ref q4, .ref q5, .null, .int 0, .int 0, .null, .null, .null])), (q1, .inl (c1, N, .inl (fun _ => 0))), (q2, .inl (c2, (N * N), .inl (fun _ => 0))), (q3, .inl (c3, 12, .inl (fun _ => 0))), (q4, .inl (c4, 12, .inl (fun _ => 0))), (q5, .inl (c5, 12, .inl (fun _ => 0)))] := hD
  refine lv_aload_n S.1 S.2.1 dX0_init_69 rfl (lv_at hl 1 rfl) ?_
  refine lv_bipush (v := nI 12) S.1 S.2.1 dX0_init_70 rfl ?_
  refine lv_iload_n S.1 S.2.1 dX0_init_72 rfl (lv_at hl 0 rfl) ?_
  obtain ⟨cy, ky, cmp, hcy, hky, hkk⟩ := Cond.arrayClass_spec (show (Cond.arrayClass .long).holds ([.ref h0, .int x] : List Value).toArray s none s [] = true from S.2.2.2.2 _ w_20)
  have hArJ : ArrOfT s cy .long := fun n z => ⟨fun k h => (by cases h), ky, hky, cmp, hkk⟩
  refine va_mna (X := [(h0, .inr (0, [.int (nI N), .long aL, .ref q1, .ref q2, .int 0, .ref q3, .ref q4, .ref q5, .null, .int 0, .int 0, .null, .null, .null])), (q1, .inl (c1, N, .inl (fun _ => 0))), (q2, .inl (c2, (N * N), .inl (fun _ => 0))), (q3, .inl (c3, 12, .inl (fun _ => 0))), (q4, .inl (c4, 12, .inl (fun _ => 0))), (q5, .inl (c5, 12, .inl (fun _ => 0)))]) (L := []) (f := fun _ => .inl (cy, N, .inr (.inl (fun _ => 0)))) (ty := .long) (cy := cy) (z := (N, .inr (.inl (fun _ => 0)))) S.1 S.2.1 S.2.2.2.1 (S.2.2.2.2 _ w_19) (over_mv (Vm.Alike.refl _) hov) (S.2.2.2.2 _ w_20) hcy hK (by simpa [va_pl] using hP) (by simpa [va_pl] using hD) hS hA (nI_pos (by omega)) (nI_pos (by omega)) (hcl 12 (by omega)) (hcl N (by omega)) (by omega) (by show _ * 8 ≤ _; omega) (by omega) rfl rfl (by decide) (by show _ ≤ (2500 : Nat); omega) (fun c0 => arrV_new c0 N _) dX0_init_73 (fun q6 r cA H hrj hrn hK hP hD hS => ?_)
  rw [← vr_rows (fun a _ h => by cases h)] at hP hD
  have hP : va_P D lwCl [(h0, .inr (0, [.int (nI N), .long aL, .ref q1, .ref q2, .int 0, .ref q3, .ref q4, .ref q5, .null, .int 0, .int 0, .null, .null, .null])), (q1, .inl (c1, N, .inl (fun _ => 0))), (q2, .inl (c2, (N * N), .inl (fun _ => 0))), (q3, .inl (c3, 12, .inl (fun _ => 0))), (q4, .inl (c4, 12, .inl (fun _ => 0))), (q5, .inl (c5, 12, .inl (fun _ => 0))), (q6, .inl (cA, 12, .inr (.inr (.inr (.inr (fun i => if i < 12 then some (r i) else none)))))), (r 0, .inl (cy, N, .inr (.inl (fun _ => 0)))), (r 1, .inl (cy, N, .inr (.inl (fun _ => 0)))), (r 2, .inl (cy, N, .inr (.inl (fun _ => 0)))), (r 3, .inl (cy, N, .inr (.inl (fun _ => 0)))), (r 4, .inl (cy, N, .inr (.inl (fun _ => 0)))), (r 5, .inl (cy, N, .inr (.inl (fun _ => 0)))), (r 6, .inl (cy, N, .inr (.inl (fun _ => 0)))), (r 7, .inl (cy, N, .inr (.inl (fun _ => 0)))), (r 8, .inl (cy, N, .inr (.inl (fun _ => 0)))), (r 9, .inl (cy, N, .inr (.inl (fun _ => 0)))), (r 10, .inl (cy, N, .inr (.inl (fun _ => 0)))), (r 11, .inl (cy, N, .inr (.inl (fun _ => 0))))] H := hP
  have hD : va_D (AI h0 s.heap.size) [(h0, .inr (0, [.int (nI N), .long aL, .ref q1, .ref q2, .int 0, .ref q3, .ref q4, .ref q5, .null, .int 0, .int 0, .null, .null, .null])), (q1, .inl (c1, N, .inl (fun _ => 0))), (q2, .inl (c2, (N * N), .inl (fun _ => 0))), (q3, .inl (c3, 12, .inl (fun _ => 0))), (q4, .inl (c4, 12, .inl (fun _ => 0))), (q5, .inl (c5, 12, .inl (fun _ => 0))), (q6, .inl (cA, 12, .inr (.inr (.inr (.inr (fun i => if i < 12 then some (r i) else none)))))), (r 0, .inl (cy, N, .inr (.inl (fun _ => 0)))), (r 1, .inl (cy, N, .inr (.inl (fun _ => 0)))), (r 2, .inl (cy, N, .inr (.inl (fun _ => 0)))), (r 3, .inl (cy, N, .inr (.inl (fun _ => 0)))), (r 4, .inl (cy, N, .inr (.inl (fun _ => 0)))), (r 5, .inl (cy, N, .inr (.inl (fun _ => 0)))), (r 6, .inl (cy, N, .inr (.inl (fun _ => 0)))), (r 7, .inl (cy, N, .inr (.inl (fun _ => 0)))), (r 8, .inl (cy, N, .inr (.inl (fun _ => 0)))), (r 9, .inl (cy, N, .inr (.inl (fun _ => 0)))), (r 10, .inl (cy, N, .inr (.inl (fun _ => 0)))), (r 11, .inl (cy, N, .inr (.inl (fun _ => 0))))] := hD
  have hK : va_K D lwCl [(c1, .int), (c2, .int), (c3, .int), (c4, .int), (c5, .int), (cA, .array .long)] s := hK
  refine va_putF (D := D) (ci := 0) (v := .ref q6) (ty := tyX0 8) (C := RX0) (T := TX0) (N := 14) S.1 S.2.1 S.2.2.2.2 inX0 tyX0 tyX0_ok nmX0 S.2.2.2.1 hK hP hD hS 0 rfl rfl 8 (Nat.le_of_ble_eq_true rfl) (S.2.2.2.2 _ w_21) (fun _ h9 => h9) rfl hin rfl (tyX0_ok 8 (by decide)) rfl rfl (Nat.le_of_ble_eq_true rfl) dX0_init_77 (fun H locs hP hD hS => ?_)
  have hP : va_P D lwCl [(h0, .inr (0, [.int (nI N), .long aL, .ref q1, .ref q2, .int 0, .ref q3, .ref q4, .ref q5, .ref q6, .int 0, .int 0, .null, .null, .null])), (q1, .inl (c1, N, .inl (fun _ => 0))), (q2, .inl (c2, (N * N), .inl (fun _ => 0))), (q3, .inl (c3, 12, .inl (fun _ => 0))), (q4, .inl (c4, 12, .inl (fun _ => 0))), (q5, .inl (c5, 12, .inl (fun _ => 0))), (q6, .inl (cA, 12, .inr (.inr (.inr (.inr (fun i => if i < 12 then some (r i) else none)))))), (r 0, .inl (cy, N, .inr (.inl (fun _ => 0)))), (r 1, .inl (cy, N, .inr (.inl (fun _ => 0)))), (r 2, .inl (cy, N, .inr (.inl (fun _ => 0)))), (r 3, .inl (cy, N, .inr (.inl (fun _ => 0)))), (r 4, .inl (cy, N, .inr (.inl (fun _ => 0)))), (r 5, .inl (cy, N, .inr (.inl (fun _ => 0)))), (r 6, .inl (cy, N, .inr (.inl (fun _ => 0)))), (r 7, .inl (cy, N, .inr (.inl (fun _ => 0)))), (r 8, .inl (cy, N, .inr (.inl (fun _ => 0)))), (r 9, .inl (cy, N, .inr (.inl (fun _ => 0)))), (r 10, .inl (cy, N, .inr (.inl (fun _ => 0)))), (r 11, .inl (cy, N, .inr (.inl (fun _ => 0))))] H := hP
  have hD : va_D (AI h0 s.heap.size) [(h0, .inr (0, [.int (nI N), .long aL, .ref q1, .ref q2, .int 0, .ref q3, .ref q4, .ref q5, .ref q6, .int 0, .int 0, .null, .null, .null])), (q1, .inl (c1, N, .inl (fun _ => 0))), (q2, .inl (c2, (N * N), .inl (fun _ => 0))), (q3, .inl (c3, 12, .inl (fun _ => 0))), (q4, .inl (c4, 12, .inl (fun _ => 0))), (q5, .inl (c5, 12, .inl (fun _ => 0))), (q6, .inl (cA, 12, .inr (.inr (.inr (.inr (fun i => if i < 12 then some (r i) else none)))))), (r 0, .inl (cy, N, .inr (.inl (fun _ => 0)))), (r 1, .inl (cy, N, .inr (.inl (fun _ => 0)))), (r 2, .inl (cy, N, .inr (.inl (fun _ => 0)))), (r 3, .inl (cy, N, .inr (.inl (fun _ => 0)))), (r 4, .inl (cy, N, .inr (.inl (fun _ => 0)))), (r 5, .inl (cy, N, .inr (.inl (fun _ => 0)))), (r 6, .inl (cy, N, .inr (.inl (fun _ => 0)))), (r 7, .inl (cy, N, .inr (.inl (fun _ => 0)))), (r 8, .inl (cy, N, .inr (.inl (fun _ => 0)))), (r 9, .inl (cy, N, .inr (.inl (fun _ => 0)))), (r 10, .inl (cy, N, .inr (.inl (fun _ => 0)))), (r 11, .inl (cy, N, .inr (.inl (fun _ => 0))))] := hD
  refine lv_aload_n S.1 S.2.1 dX0_init_80 rfl (lv_at hl 1 rfl) ?_
  refine lv_iconst (v := nI 2) S.1 S.2.1 dX0_init_81 rfl ?_
  refine va_newa (ty := .int) (atype := .int) (a0 := (2, .inl (fun _ => 0))) S.1 S.2.1 (S.2.2.2.2 _ w_13) rfl hK hP hD hS hA (fun _ => rfl) (nI_pos (by omega)) (hcl _ (by omega)) (by show _ * 4 ≤ _; omega) (Nat.le_of_ble_eq_true rfl) (by show _ ≤ (2500 : Nat); omega) dX0_init_82 (fun q7 c7 H hK hP hD hS => ?_)
  have hP : va_P D lwCl [(h0, .inr (0, [.int (nI N), .long aL, .ref q1, .ref q2, .int 0, .ref q3, .ref q4, .ref q5, .ref q6, .int 0, .int 0, .null, .null, .null])), (q1, .inl (c1, N, .inl (fun _ => 0))), (q2, .inl (c2, (N * N), .inl (fun _ => 0))), (q3, .inl (c3, 12, .inl (fun _ => 0))), (q4, .inl (c4, 12, .inl (fun _ => 0))), (q5, .inl (c5, 12, .inl (fun _ => 0))), (q6, .inl (cA, 12, .inr (.inr (.inr (.inr (fun i => if i < 12 then some (r i) else none)))))), (r 0, .inl (cy, N, .inr (.inl (fun _ => 0)))), (r 1, .inl (cy, N, .inr (.inl (fun _ => 0)))), (r 2, .inl (cy, N, .inr (.inl (fun _ => 0)))), (r 3, .inl (cy, N, .inr (.inl (fun _ => 0)))), (r 4, .inl (cy, N, .inr (.inl (fun _ => 0)))), (r 5, .inl (cy, N, .inr (.inl (fun _ => 0)))), (r 6, .inl (cy, N, .inr (.inl (fun _ => 0)))), (r 7, .inl (cy, N, .inr (.inl (fun _ => 0)))), (r 8, .inl (cy, N, .inr (.inl (fun _ => 0)))), (r 9, .inl (cy, N, .inr (.inl (fun _ => 0)))), (r 10, .inl (cy, N, .inr (.inl (fun _ => 0)))), (r 11, .inl (cy, N, .inr (.inl (fun _ => 0)))), (q7, .inl (c7, 2, .inl (fun _ => 0)))] H := hP
  have hD : va_D (AI h0 s.heap.size) [(h0, .inr (0, [.int (nI N), .long aL, .ref q1, .ref q2, .int 0, .ref q3, .ref q4, .ref q5, .ref q6, .int 0, .int 0, .null, .null, .null])), (q1, .inl (c1, N, .inl (fun _ => 0))), (q2, .inl (c2, (N * N), .inl (fun _ => 0))), (q3, .inl (c3, 12, .inl (fun _ => 0))), (q4, .inl (c4, 12, .inl (fun _ => 0))), (q5, .inl (c5, 12, .inl (fun _ => 0))), (q6, .inl (cA, 12, .inr (.inr (.inr (.inr (fun i => if i < 12 then some (r i) else none)))))), (r 0, .inl (cy, N, .inr (.inl (fun _ => 0)))), (r 1, .inl (cy, N, .inr (.inl (fun _ => 0)))), (r 2, .inl (cy, N, .inr (.inl (fun _ => 0)))), (r 3, .inl (cy, N, .inr (.inl (fun _ => 0)))), (r 4, .inl (cy, N, .inr (.inl (fun _ => 0)))), (r 5, .inl (cy, N, .inr (.inl (fun _ => 0)))), (r 6, .inl (cy, N, .inr (.inl (fun _ => 0)))), (r 7, .inl (cy, N, .inr (.inl (fun _ => 0)))), (r 8, .inl (cy, N, .inr (.inl (fun _ => 0)))), (r 9, .inl (cy, N, .inr (.inl (fun _ => 0)))), (r 10, .inl (cy, N, .inr (.inl (fun _ => 0)))), (r 11, .inl (cy, N, .inr (.inl (fun _ => 0)))), (q7, .inl (c7, 2, .inl (fun _ => 0)))] := hD
  have hK : va_K D lwCl [(c1, .int), (c2, .int), (c3, .int), (c4, .int), (c5, .int), (cA, .array .long), (c7, .int)] s := hK
  refine va_putF (D := D) (ci := 0) (v := .ref q7) (ty := tyX0 11) (C := RX0) (T := TX0) (N := 14) S.1 S.2.1 S.2.2.2.2 inX0 tyX0 tyX0_ok nmX0 S.2.2.2.1 hK hP hD hS 0 rfl rfl 11 (Nat.le_of_ble_eq_true rfl) (S.2.2.2.2 _ w_22) (fun _ h9 => h9) rfl hin rfl (tyX0_ok 11 (by decide)) rfl rfl (Nat.le_of_ble_eq_true rfl) dX0_init_84 (fun H locs hP hD hS => ?_)
  have hP : va_P D lwCl [(h0, .inr (0, [.int (nI N), .long aL, .ref q1, .ref q2, .int 0, .ref q3, .ref q4, .ref q5, .ref q6, .int 0, .int 0, .ref q7, .null, .null])), (q1, .inl (c1, N, .inl (fun _ => 0))), (q2, .inl (c2, (N * N), .inl (fun _ => 0))), (q3, .inl (c3, 12, .inl (fun _ => 0))), (q4, .inl (c4, 12, .inl (fun _ => 0))), (q5, .inl (c5, 12, .inl (fun _ => 0))), (q6, .inl (cA, 12, .inr (.inr (.inr (.inr (fun i => if i < 12 then some (r i) else none)))))), (r 0, .inl (cy, N, .inr (.inl (fun _ => 0)))), (r 1, .inl (cy, N, .inr (.inl (fun _ => 0)))), (r 2, .inl (cy, N, .inr (.inl (fun _ => 0)))), (r 3, .inl (cy, N, .inr (.inl (fun _ => 0)))), (r 4, .inl (cy, N, .inr (.inl (fun _ => 0)))), (r 5, .inl (cy, N, .inr (.inl (fun _ => 0)))), (r 6, .inl (cy, N, .inr (.inl (fun _ => 0)))), (r 7, .inl (cy, N, .inr (.inl (fun _ => 0)))), (r 8, .inl (cy, N, .inr (.inl (fun _ => 0)))), (r 9, .inl (cy, N, .inr (.inl (fun _ => 0)))), (r 10, .inl (cy, N, .inr (.inl (fun _ => 0)))), (r 11, .inl (cy, N, .inr (.inl (fun _ => 0)))), (q7, .inl (c7, 2, .inl (fun _ => 0)))] H := hP
  have hD : va_D (AI h0 s.heap.size) [(h0, .inr (0, [.int (nI N), .long aL, .ref q1, .ref q2, .int 0, .ref q3, .ref q4, .ref q5, .ref q6, .int 0, .int 0, .ref q7, .null, .null])), (q1, .inl (c1, N, .inl (fun _ => 0))), (q2, .inl (c2, (N * N), .inl (fun _ => 0))), (q3, .inl (c3, 12, .inl (fun _ => 0))), (q4, .inl (c4, 12, .inl (fun _ => 0))), (q5, .inl (c5, 12, .inl (fun _ => 0))), (q6, .inl (cA, 12, .inr (.inr (.inr (.inr (fun i => if i < 12 then some (r i) else none)))))), (r 0, .inl (cy, N, .inr (.inl (fun _ => 0)))), (r 1, .inl (cy, N, .inr (.inl (fun _ => 0)))), (r 2, .inl (cy, N, .inr (.inl (fun _ => 0)))), (r 3, .inl (cy, N, .inr (.inl (fun _ => 0)))), (r 4, .inl (cy, N, .inr (.inl (fun _ => 0)))), (r 5, .inl (cy, N, .inr (.inl (fun _ => 0)))), (r 6, .inl (cy, N, .inr (.inl (fun _ => 0)))), (r 7, .inl (cy, N, .inr (.inl (fun _ => 0)))), (r 8, .inl (cy, N, .inr (.inl (fun _ => 0)))), (r 9, .inl (cy, N, .inr (.inl (fun _ => 0)))), (r 10, .inl (cy, N, .inr (.inl (fun _ => 0)))), (r 11, .inl (cy, N, .inr (.inl (fun _ => 0)))), (q7, .inl (c7, 2, .inl (fun _ => 0)))] := hD
  refine lv_aload_n S.1 S.2.1 dX0_init_87 rfl (lv_at hl 1 rfl) ?_
  refine lv_iconst (v := nI 2) S.1 S.2.1 dX0_init_88 rfl ?_
  refine va_newa (ty := .int) (atype := .int) (a0 := (2, .inl (fun _ => 0))) S.1 S.2.1 (S.2.2.2.2 _ w_13) rfl hK hP hD hS hA (fun _ => rfl) (nI_pos (by omega)) (hcl _ (by omega)) (by show _ * 4 ≤ _; omega) (Nat.le_of_ble_eq_true rfl) (by show _ ≤ (2500 : Nat); omega) dX0_init_89 (fun q8 c8 H hK hP hD hS => ?_)
  have hP : va_P D lwCl [(h0, .inr (0, [.int (nI N), .long aL, .ref q1, .ref q2, .int 0, .ref q3, .ref q4, .ref q5, .ref q6, .int 0, .int 0, .ref q7, .null, .null])), (q1, .inl (c1, N, .inl (fun _ => 0))), (q2, .inl (c2, (N * N), .inl (fun _ => 0))), (q3, .inl (c3, 12, .inl (fun _ => 0))), (q4, .inl (c4, 12, .inl (fun _ => 0))), (q5, .inl (c5, 12, .inl (fun _ => 0))), (q6, .inl (cA, 12, .inr (.inr (.inr (.inr (fun i => if i < 12 then some (r i) else none)))))), (r 0, .inl (cy, N, .inr (.inl (fun _ => 0)))), (r 1, .inl (cy, N, .inr (.inl (fun _ => 0)))), (r 2, .inl (cy, N, .inr (.inl (fun _ => 0)))), (r 3, .inl (cy, N, .inr (.inl (fun _ => 0)))), (r 4, .inl (cy, N, .inr (.inl (fun _ => 0)))), (r 5, .inl (cy, N, .inr (.inl (fun _ => 0)))), (r 6, .inl (cy, N, .inr (.inl (fun _ => 0)))), (r 7, .inl (cy, N, .inr (.inl (fun _ => 0)))), (r 8, .inl (cy, N, .inr (.inl (fun _ => 0)))), (r 9, .inl (cy, N, .inr (.inl (fun _ => 0)))), (r 10, .inl (cy, N, .inr (.inl (fun _ => 0)))), (r 11, .inl (cy, N, .inr (.inl (fun _ => 0)))), (q7, .inl (c7, 2, .inl (fun _ => 0))), (q8, .inl (c8, 2, .inl (fun _ => 0)))] H := hP
  have hD : va_D (AI h0 s.heap.size) [(h0, .inr (0, [.int (nI N), .long aL, .ref q1, .ref q2, .int 0, .ref q3, .ref q4, .ref q5, .ref q6, .int 0, .int 0, .ref q7, .null, .null])), (q1, .inl (c1, N, .inl (fun _ => 0))), (q2, .inl (c2, (N * N), .inl (fun _ => 0))), (q3, .inl (c3, 12, .inl (fun _ => 0))), (q4, .inl (c4, 12, .inl (fun _ => 0))), (q5, .inl (c5, 12, .inl (fun _ => 0))), (q6, .inl (cA, 12, .inr (.inr (.inr (.inr (fun i => if i < 12 then some (r i) else none)))))), (r 0, .inl (cy, N, .inr (.inl (fun _ => 0)))), (r 1, .inl (cy, N, .inr (.inl (fun _ => 0)))), (r 2, .inl (cy, N, .inr (.inl (fun _ => 0)))), (r 3, .inl (cy, N, .inr (.inl (fun _ => 0)))), (r 4, .inl (cy, N, .inr (.inl (fun _ => 0)))), (r 5, .inl (cy, N, .inr (.inl (fun _ => 0)))), (r 6, .inl (cy, N, .inr (.inl (fun _ => 0)))), (r 7, .inl (cy, N, .inr (.inl (fun _ => 0)))), (r 8, .inl (cy, N, .inr (.inl (fun _ => 0)))), (r 9, .inl (cy, N, .inr (.inl (fun _ => 0)))), (r 10, .inl (cy, N, .inr (.inl (fun _ => 0)))), (r 11, .inl (cy, N, .inr (.inl (fun _ => 0)))), (q7, .inl (c7, 2, .inl (fun _ => 0))), (q8, .inl (c8, 2, .inl (fun _ => 0)))] := hD
  have hK : va_K D lwCl [(c1, .int), (c2, .int), (c3, .int), (c4, .int), (c5, .int), (cA, .array .long), (c7, .int), (c8, .int)] s := hK
  refine va_putF (D := D) (ci := 0) (v := .ref q8) (ty := tyX0 12) (C := RX0) (T := TX0) (N := 14) S.1 S.2.1 S.2.2.2.2 inX0 tyX0 tyX0_ok nmX0 S.2.2.2.1 hK hP hD hS 0 rfl rfl 12 (Nat.le_of_ble_eq_true rfl) (S.2.2.2.2 _ w_23) (fun _ h9 => h9) rfl hin rfl (tyX0_ok 12 (by decide)) rfl rfl (Nat.le_of_ble_eq_true rfl) dX0_init_91 (fun H locs hP hD hS => ?_)
  have hP : va_P D lwCl [(h0, .inr (0, [.int (nI N), .long aL, .ref q1, .ref q2, .int 0, .ref q3, .ref q4, .ref q5, .ref q6, .int 0, .int 0, .ref q7, .ref q8, .null])), (q1, .inl (c1, N, .inl (fun _ => 0))), (q2, .inl (c2, (N * N), .inl (fun _ => 0))), (q3, .inl (c3, 12, .inl (fun _ => 0))), (q4, .inl (c4, 12, .inl (fun _ => 0))), (q5, .inl (c5, 12, .inl (fun _ => 0))), (q6, .inl (cA, 12, .inr (.inr (.inr (.inr (fun i => if i < 12 then some (r i) else none)))))), (r 0, .inl (cy, N, .inr (.inl (fun _ => 0)))), (r 1, .inl (cy, N, .inr (.inl (fun _ => 0)))), (r 2, .inl (cy, N, .inr (.inl (fun _ => 0)))), (r 3, .inl (cy, N, .inr (.inl (fun _ => 0)))), (r 4, .inl (cy, N, .inr (.inl (fun _ => 0)))), (r 5, .inl (cy, N, .inr (.inl (fun _ => 0)))), (r 6, .inl (cy, N, .inr (.inl (fun _ => 0)))), (r 7, .inl (cy, N, .inr (.inl (fun _ => 0)))), (r 8, .inl (cy, N, .inr (.inl (fun _ => 0)))), (r 9, .inl (cy, N, .inr (.inl (fun _ => 0)))), (r 10, .inl (cy, N, .inr (.inl (fun _ => 0)))), (r 11, .inl (cy, N, .inr (.inl (fun _ => 0)))), (q7, .inl (c7, 2, .inl (fun _ => 0))), (q8, .inl (c8, 2, .inl (fun _ => 0)))] H := hP
  have hD : va_D (AI h0 s.heap.size) [(h0, .inr (0, [.int (nI N), .long aL, .ref q1, .ref q2, .int 0, .ref q3, .ref q4, .ref q5, .ref q6, .int 0, .int 0, .ref q7, .ref q8, .null])), (q1, .inl (c1, N, .inl (fun _ => 0))), (q2, .inl (c2, (N * N), .inl (fun _ => 0))), (q3, .inl (c3, 12, .inl (fun _ => 0))), (q4, .inl (c4, 12, .inl (fun _ => 0))), (q5, .inl (c5, 12, .inl (fun _ => 0))), (q6, .inl (cA, 12, .inr (.inr (.inr (.inr (fun i => if i < 12 then some (r i) else none)))))), (r 0, .inl (cy, N, .inr (.inl (fun _ => 0)))), (r 1, .inl (cy, N, .inr (.inl (fun _ => 0)))), (r 2, .inl (cy, N, .inr (.inl (fun _ => 0)))), (r 3, .inl (cy, N, .inr (.inl (fun _ => 0)))), (r 4, .inl (cy, N, .inr (.inl (fun _ => 0)))), (r 5, .inl (cy, N, .inr (.inl (fun _ => 0)))), (r 6, .inl (cy, N, .inr (.inl (fun _ => 0)))), (r 7, .inl (cy, N, .inr (.inl (fun _ => 0)))), (r 8, .inl (cy, N, .inr (.inl (fun _ => 0)))), (r 9, .inl (cy, N, .inr (.inl (fun _ => 0)))), (r 10, .inl (cy, N, .inr (.inl (fun _ => 0)))), (r 11, .inl (cy, N, .inr (.inl (fun _ => 0)))), (q7, .inl (c7, 2, .inl (fun _ => 0))), (q8, .inl (c8, 2, .inl (fun _ => 0)))] := hD
  refine lv_aload_n S.1 S.2.1 dX0_init_94 rfl (lv_at hl 1 rfl) ?_
  refine lv_iload_n S.1 S.2.1 dX0_init_95 rfl (lv_at hl 0 rfl) ?_
  refine va_newa (ty := .int) (atype := .int) (a0 := (N, .inl (fun _ => 0))) S.1 S.2.1 (S.2.2.2.2 _ w_13) rfl hK hP hD hS hA (fun _ => rfl) (nI_pos (by omega)) (hcl _ (by omega)) (by show _ * 4 ≤ _; omega) (Nat.le_of_ble_eq_true rfl) (by show _ ≤ (2500 : Nat); omega) dX0_init_96 (fun q9 c9 H hK hP hD hS => ?_)
  have hP : va_P D lwCl [(h0, .inr (0, [.int (nI N), .long aL, .ref q1, .ref q2, .int 0, .ref q3, .ref q4, .ref q5, .ref q6, .int 0, .int 0, .ref q7, .ref q8, .null])), (q1, .inl (c1, N, .inl (fun _ => 0))), (q2, .inl (c2, (N * N), .inl (fun _ => 0))), (q3, .inl (c3, 12, .inl (fun _ => 0))), (q4, .inl (c4, 12, .inl (fun _ => 0))), (q5, .inl (c5, 12, .inl (fun _ => 0))), (q6, .inl (cA, 12, .inr (.inr (.inr (.inr (fun i => if i < 12 then some (r i) else none)))))), (r 0, .inl (cy, N, .inr (.inl (fun _ => 0)))), (r 1, .inl (cy, N, .inr (.inl (fun _ => 0)))), (r 2, .inl (cy, N, .inr (.inl (fun _ => 0)))), (r 3, .inl (cy, N, .inr (.inl (fun _ => 0)))), (r 4, .inl (cy, N, .inr (.inl (fun _ => 0)))), (r 5, .inl (cy, N, .inr (.inl (fun _ => 0)))), (r 6, .inl (cy, N, .inr (.inl (fun _ => 0)))), (r 7, .inl (cy, N, .inr (.inl (fun _ => 0)))), (r 8, .inl (cy, N, .inr (.inl (fun _ => 0)))), (r 9, .inl (cy, N, .inr (.inl (fun _ => 0)))), (r 10, .inl (cy, N, .inr (.inl (fun _ => 0)))), (r 11, .inl (cy, N, .inr (.inl (fun _ => 0)))), (q7, .inl (c7, 2, .inl (fun _ => 0))), (q8, .inl (c8, 2, .inl (fun _ => 0))), (q9, .inl (c9, N, .inl (fun _ => 0)))] H := hP
  have hD : va_D (AI h0 s.heap.size) [(h0, .inr (0, [.int (nI N), .long aL, .ref q1, .ref q2, .int 0, .ref q3, .ref q4, .ref q5, .ref q6, .int 0, .int 0, .ref q7, .ref q8, .null])), (q1, .inl (c1, N, .inl (fun _ => 0))), (q2, .inl (c2, (N * N), .inl (fun _ => 0))), (q3, .inl (c3, 12, .inl (fun _ => 0))), (q4, .inl (c4, 12, .inl (fun _ => 0))), (q5, .inl (c5, 12, .inl (fun _ => 0))), (q6, .inl (cA, 12, .inr (.inr (.inr (.inr (fun i => if i < 12 then some (r i) else none)))))), (r 0, .inl (cy, N, .inr (.inl (fun _ => 0)))), (r 1, .inl (cy, N, .inr (.inl (fun _ => 0)))), (r 2, .inl (cy, N, .inr (.inl (fun _ => 0)))), (r 3, .inl (cy, N, .inr (.inl (fun _ => 0)))), (r 4, .inl (cy, N, .inr (.inl (fun _ => 0)))), (r 5, .inl (cy, N, .inr (.inl (fun _ => 0)))), (r 6, .inl (cy, N, .inr (.inl (fun _ => 0)))), (r 7, .inl (cy, N, .inr (.inl (fun _ => 0)))), (r 8, .inl (cy, N, .inr (.inl (fun _ => 0)))), (r 9, .inl (cy, N, .inr (.inl (fun _ => 0)))), (r 10, .inl (cy, N, .inr (.inl (fun _ => 0)))), (r 11, .inl (cy, N, .inr (.inl (fun _ => 0)))), (q7, .inl (c7, 2, .inl (fun _ => 0))), (q8, .inl (c8, 2, .inl (fun _ => 0))), (q9, .inl (c9, N, .inl (fun _ => 0)))] := hD
  have hK : va_K D lwCl [(c1, .int), (c2, .int), (c3, .int), (c4, .int), (c5, .int), (cA, .array .long), (c7, .int), (c8, .int), (c9, .int)] s := hK
  refine va_putF (D := D) (ci := 0) (v := .ref q9) (ty := tyX0 13) (C := RX0) (T := TX0) (N := 14) S.1 S.2.1 S.2.2.2.2 inX0 tyX0 tyX0_ok nmX0 S.2.2.2.1 hK hP hD hS 0 rfl rfl 13 (Nat.le_of_ble_eq_true rfl) (S.2.2.2.2 _ w_24) (fun _ h9 => h9) rfl hin rfl (tyX0_ok 13 (by decide)) rfl rfl (Nat.le_of_ble_eq_true rfl) dX0_init_98 (fun H locs hP hD hS => ?_)
  have hP : va_P D lwCl [(h0, .inr (0, [.int (nI N), .long aL, .ref q1, .ref q2, .int 0, .ref q3, .ref q4, .ref q5, .ref q6, .int 0, .int 0, .ref q7, .ref q8, .ref q9])), (q1, .inl (c1, N, .inl (fun _ => 0))), (q2, .inl (c2, (N * N), .inl (fun _ => 0))), (q3, .inl (c3, 12, .inl (fun _ => 0))), (q4, .inl (c4, 12, .inl (fun _ => 0))), (q5, .inl (c5, 12, .inl (fun _ => 0))), (q6, .inl (cA, 12, .inr (.inr (.inr (.inr (fun i => if i < 12 then some (r i) else none)))))), (r 0, .inl (cy, N, .inr (.inl (fun _ => 0)))), (r 1, .inl (cy, N, .inr (.inl (fun _ => 0)))), (r 2, .inl (cy, N, .inr (.inl (fun _ => 0)))), (r 3, .inl (cy, N, .inr (.inl (fun _ => 0)))), (r 4, .inl (cy, N, .inr (.inl (fun _ => 0)))), (r 5, .inl (cy, N, .inr (.inl (fun _ => 0)))), (r 6, .inl (cy, N, .inr (.inl (fun _ => 0)))), (r 7, .inl (cy, N, .inr (.inl (fun _ => 0)))), (r 8, .inl (cy, N, .inr (.inl (fun _ => 0)))), (r 9, .inl (cy, N, .inr (.inl (fun _ => 0)))), (r 10, .inl (cy, N, .inr (.inl (fun _ => 0)))), (r 11, .inl (cy, N, .inr (.inl (fun _ => 0)))), (q7, .inl (c7, 2, .inl (fun _ => 0))), (q8, .inl (c8, 2, .inl (fun _ => 0))), (q9, .inl (c9, N, .inl (fun _ => 0)))] H := hP
  have hD : va_D (AI h0 s.heap.size) [(h0, .inr (0, [.int (nI N), .long aL, .ref q1, .ref q2, .int 0, .ref q3, .ref q4, .ref q5, .ref q6, .int 0, .int 0, .ref q7, .ref q8, .ref q9])), (q1, .inl (c1, N, .inl (fun _ => 0))), (q2, .inl (c2, (N * N), .inl (fun _ => 0))), (q3, .inl (c3, 12, .inl (fun _ => 0))), (q4, .inl (c4, 12, .inl (fun _ => 0))), (q5, .inl (c5, 12, .inl (fun _ => 0))), (q6, .inl (cA, 12, .inr (.inr (.inr (.inr (fun i => if i < 12 then some (r i) else none)))))), (r 0, .inl (cy, N, .inr (.inl (fun _ => 0)))), (r 1, .inl (cy, N, .inr (.inl (fun _ => 0)))), (r 2, .inl (cy, N, .inr (.inl (fun _ => 0)))), (r 3, .inl (cy, N, .inr (.inl (fun _ => 0)))), (r 4, .inl (cy, N, .inr (.inl (fun _ => 0)))), (r 5, .inl (cy, N, .inr (.inl (fun _ => 0)))), (r 6, .inl (cy, N, .inr (.inl (fun _ => 0)))), (r 7, .inl (cy, N, .inr (.inl (fun _ => 0)))), (r 8, .inl (cy, N, .inr (.inl (fun _ => 0)))), (r 9, .inl (cy, N, .inr (.inl (fun _ => 0)))), (r 10, .inl (cy, N, .inr (.inl (fun _ => 0)))), (r 11, .inl (cy, N, .inr (.inl (fun _ => 0)))), (q7, .inl (c7, 2, .inl (fun _ => 0))), (q8, .inl (c8, 2, .inl (fun _ => 0))), (q9, .inl (c9, N, .inl (fun _ => 0)))] := hD
  have hKI : ∀ (k : Nat) (q : ClassId × FieldType), ([(c1, .int), (c2, .int), (c3, .int), (c4, .int), (c5, .int), (cA, .array .long), (c7, .int), (c8, .int), (c9, .int)] : List (ClassId × FieldType))[k]? = some q → q.2 = .int → s.vm.findClass "[I" = some q.1 := fun k q hk e => by have := (hK.2 k q hk).2; rw [e] at this; exact this
  have ec2 : c1 = c2 := Option.some.inj ((hKI 0 _ rfl rfl).symm.trans (hKI 1 _ rfl rfl))
  have ec3 : c1 = c3 := Option.some.inj ((hKI 0 _ rfl rfl).symm.trans (hKI 2 _ rfl rfl))
  have ec4 : c1 = c4 := Option.some.inj ((hKI 0 _ rfl rfl).symm.trans (hKI 3 _ rfl rfl))
  have ec5 : c1 = c5 := Option.some.inj ((hKI 0 _ rfl rfl).symm.trans (hKI 4 _ rfl rfl))
  have ec7 : c1 = c7 := Option.some.inj ((hKI 0 _ rfl rfl).symm.trans (hKI 6 _ rfl rfl))
  have ec8 : c1 = c8 := Option.some.inj ((hKI 0 _ rfl rfl).symm.trans (hKI 7 _ rfl rfl))
  have ec9 : c1 = c9 := Option.some.inj ((hKI 0 _ rfl rfl).symm.trans (hKI 8 _ rfl rfl))
  subst ec2 ec3 ec4 ec5 ec7 ec8 ec9
  obtain ⟨loc, hloc⟩ : ∃ z : Nat → Nat, z = (fun i => match i with | 0 => h0 | 1 => q1 | 2 => q2 | 3 => q3 | 4 => q4 | 5 => q5 | 6 => q7 | 7 => q8 | 8 => q9 | 9 => q6 | k + 10 => r k : Nat → Nat) := ⟨_, rfl⟩
  obtain ⟨g, hg⟩ : ∃ z : Gc, z = ((D.2 0, fun k => match k with | 0 => D.1 0 | 1 => c1 | 2 => cA | _ => cy) : Gc) := ⟨_, rfl⟩
  have hpos : ∀ i, i < 22 → ∃ k ent, k < 22 ∧ ([(h0, .inr (0, [.int (nI N), .long aL, .ref q1, .ref q2, .int 0, .ref q3, .ref q4, .ref q5, .ref q6, .int 0, .int 0, .ref q7, .ref q8, .ref q9])), (q1, .inl (c1, N, .inl (fun _ => 0))), (q2, .inl (c1, (N * N), .inl (fun _ => 0))), (q3, .inl (c1, 12, .inl (fun _ => 0))), (q4, .inl (c1, 12, .inl (fun _ => 0))), (q5, .inl (c1, 12, .inl (fun _ => 0))), (q6, .inl (cA, 12, .inr (.inr (.inr (.inr (fun i => if i < 12 then some (r i) else none)))))), (r 0, .inl (cy, N, .inr (.inl (fun _ => 0)))), (r 1, .inl (cy, N, .inr (.inl (fun _ => 0)))), (r 2, .inl (cy, N, .inr (.inl (fun _ => 0)))), (r 3, .inl (cy, N, .inr (.inl (fun _ => 0)))), (r 4, .inl (cy, N, .inr (.inl (fun _ => 0)))), (r 5, .inl (cy, N, .inr (.inl (fun _ => 0)))), (r 6, .inl (cy, N, .inr (.inl (fun _ => 0)))), (r 7, .inl (cy, N, .inr (.inl (fun _ => 0)))), (r 8, .inl (cy, N, .inr (.inl (fun _ => 0)))), (r 9, .inl (cy, N, .inr (.inl (fun _ => 0)))), (r 10, .inl (cy, N, .inr (.inl (fun _ => 0)))), (r 11, .inl (cy, N, .inr (.inl (fun _ => 0)))), (q7, .inl (c1, 2, .inl (fun _ => 0))), (q8, .inl (c1, 2, .inl (fun _ => 0))), (q9, .inl (c1, N, .inl (fun _ => 0)))] : va_W)[k]? = some (loc i, ent) ∧ k = (if i < 6 then i else if i < 9 then i + 13 else i - 3) := by
    intro i hi
    subst hloc
    match i, hi with
    | 0, _ => exact ⟨0, _, by decide, rfl, by decide⟩
    | 1, _ => exact ⟨1, _, by decide, rfl, by decide⟩
    | 2, _ => exact ⟨2, _, by decide, rfl, by decide⟩
    | 3, _ => exact ⟨3, _, by decide, rfl, by decide⟩
    | 4, _ => exact ⟨4, _, by decide, rfl, by decide⟩
    | 5, _ => exact ⟨5, _, by decide, rfl, by decide⟩
    | 6, _ => exact ⟨19, _, by decide, rfl, by decide⟩
    | 7, _ => exact ⟨20, _, by decide, rfl, by decide⟩
    | 8, _ => exact ⟨21, _, by decide, rfl, by decide⟩
    | 9, _ => exact ⟨6, _, by decide, rfl, by decide⟩
    | 10, _ => exact ⟨7, _, by decide, rfl, by decide⟩
    | 11, _ => exact ⟨8, _, by decide, rfl, by decide⟩
    | 12, _ => exact ⟨9, _, by decide, rfl, by decide⟩
    | 13, _ => exact ⟨10, _, by decide, rfl, by decide⟩
    | 14, _ => exact ⟨11, _, by decide, rfl, by decide⟩
    | 15, _ => exact ⟨12, _, by decide, rfl, by decide⟩
    | 16, _ => exact ⟨13, _, by decide, rfl, by decide⟩
    | 17, _ => exact ⟨14, _, by decide, rfl, by decide⟩
    | 18, _ => exact ⟨15, _, by decide, rfl, by decide⟩
    | 19, _ => exact ⟨16, _, by decide, rfl, by decide⟩
    | 20, _ => exact ⟨17, _, by decide, rfl, by decide⟩
    | 21, _ => exact ⟨18, _, by decide, rfl, by decide⟩
    | k + 22, h => omega
  have hZJ : ZJ loc 21 := by
    intro i j hi hj e
    obtain ⟨k1, e1, h1, h2, h3⟩ := hpos i (by omega)
    obtain ⟨k2, e2, h4, h5, h6⟩ := hpos j (by omega)
    have hk := hD.1 k1 k2 _ _ h2 h5 e
    rw [h3, h6] at hk
    split at hk <;> split at hk <;> (try split at hk) <;> (try split at hk) <;> omega
  have hAd : ∀ i, 1 ≤ i → i < 22 → s.heap.size ≤ loc i := by
    intro i h1 h2
    obtain ⟨k1, e1, h3, h4, h5⟩ := hpos i h2
    rcases hD.2 k1 _ h4 with q | q
    · exfalso
      have h00 : loc 0 = h0 := by rw [hloc]
      have := hZJ i 0 (by omega) (by omega) (by rw [h00]; exact q)
      omega
    · exact q
  have hHX : HX loc N g iniX H := by
    refine ⟨?_, ?_⟩
    · obtain ⟨rr, hrr, hob⟩ := hP 0 _ rfl
      cases hrr
      subst hloc
      subst hg
      exact t_OB.to hob (fun k hk => match k, hk with
        | 0, _ => rfl
        | 1, _ => (by show Value.long aL = Value.long (allL N); rw [eaL]; rfl)
        | 2, _ => rfl
        | 3, _ => rfl
        | 4, _ => rfl
        | 5, _ => rfl
        | 6, _ => rfl
        | 7, _ => rfl
        | 8, _ => rfl
        | 9, _ => rfl
        | 10, _ => rfl
        | 11, _ => rfl
        | 12, _ => rfl
        | 13, _ => rfl
        | k + 14, h => absurd h (by omega))
    · intro i hi
      subst hloc
      subst hg
      match i, hi with
      | 0, _ => exact cell_i (hP 1 _ rfl) rfl rfl (fun j hj => rfl)
      | 1, _ => exact cell_i (hP 2 _ rfl) rfl rfl (fun j hj => rfl)
      | 2, _ => exact cell_i (hP 3 _ rfl) rfl rfl (fun j hj => rfl)
      | 3, _ => exact cell_i (hP 4 _ rfl) rfl rfl (fun j hj => rfl)
      | 4, _ => exact cell_i (hP 5 _ rfl) rfl rfl (fun j hj => rfl)
      | 5, _ => exact cell_i (hP 19 _ rfl) rfl rfl (fun j hj => rfl)
      | 6, _ => exact cell_i (hP 20 _ rfl) rfl rfl (fun j hj => rfl)
      | 7, _ => exact cell_i (hP 21 _ rfl) rfl rfl (fun j hj => rfl)
      | 8, _ => exact cell_q (hP 6 _ rfl) rfl rfl (fun j hj => (by show va_rf (if j < 12 then some (r j) else none) = Value.ref ((fun i => match i with | 0 => h0 | 1 => q1 | 2 => q2 | 3 => q3 | 4 => q4 | 5 => q5 | 6 => q7 | 7 => q8 | 8 => q9 | 9 => q6 | k + 10 => r k : Nat → Nat) (10 + j)); rw [if_pos (show j < 12 from hj), Nat.add_comm 10 j]; rfl))
      | 9, _ => exact cell_l (hP 7 _ rfl) rfl rfl (fun j hj => rfl)
      | 10, _ => exact cell_l (hP 8 _ rfl) rfl rfl (fun j hj => rfl)
      | 11, _ => exact cell_l (hP 9 _ rfl) rfl rfl (fun j hj => rfl)
      | 12, _ => exact cell_l (hP 10 _ rfl) rfl rfl (fun j hj => rfl)
      | 13, _ => exact cell_l (hP 11 _ rfl) rfl rfl (fun j hj => rfl)
      | 14, _ => exact cell_l (hP 12 _ rfl) rfl rfl (fun j hj => rfl)
      | 15, _ => exact cell_l (hP 13 _ rfl) rfl rfl (fun j hj => rfl)
      | 16, _ => exact cell_l (hP 14 _ rfl) rfl rfl (fun j hj => rfl)
      | 17, _ => exact cell_l (hP 15 _ rfl) rfl rfl (fun j hj => rfl)
      | 18, _ => exact cell_l (hP 16 _ rfl) rfl rfl (fun j hj => rfl)
      | 19, _ => exact cell_l (hP 17 _ rfl) rfl rfl (fun j hj => rfl)
      | 20, _ => exact cell_l (hP 18 _ rfl) rfl rfl (fun j hj => rfl)
      | k + 21, h => omega
  have hKX : KX g s := by
    subst hg
    exact ⟨hK.1 0 _ rfl, (hK.2 0 _ rfl).1, (hK.2 5 _ rfl).1, hArJ, hcy⟩
  refine W.widen (k := 21) (n := 2500) (Nat.le_of_ble_eq_true rfl) (by omega) ?_
  exact W.vret S.1 S.2.1 hr (fun t ht hW => ⟨⟨(loc, g), rfl, ⟨by rw [hloc], hAd⟩, by rw [ht]; exact hHX, hKX.moved hW.alike, hZJ⟩, hS.F ht⟩) hS.2.2 dX0_init_101 hlocks
