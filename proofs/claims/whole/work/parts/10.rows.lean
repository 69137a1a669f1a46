abbrev Gc : Type := (Nat → Nat) × (Nat → ClassId)
/-- a RelationRows' state: relations, settled, pushedCount; kinds, tallies, forms, firsts, seconds, pushedFirsts, pushedSeconds, steps; rows -/
abbrev RS : Type := (Nat → Int32) × (Nat → Nat → Int32) × (Nat → Nat → Int64)
/-- a RelationRowsModel's state: code, relations, pushes; kinds, form, one, two, pushedFirst, pushedSecond, tallies, steps; pairs, joined -/
abbrev MS : Type := (Nat → Int32) × (Nat → Nat → Int32) × (Nat → Nat → Bool)
def sI {α : Type} (S : (Nat → Int32) × α) (k : Nat) (x : Int32) : (Nat → Int32) × α := (upd S.1 k x, S.2)
def sA {α : Type} (S : (Nat → Int32) × (Nat → Nat → Int32) × α) (k j : Nat) (x : Int32) : (Nat → Int32) × (Nat → Nat → Int32) × α := (S.1, up2 S.2.1 k j x, S.2.2)
def sW {α : Type} (S : (Nat → Int32) × (Nat → Nat → Int32) × (Nat → Nat → α)) (k j : Nat) (x : α) : (Nat → Int32) × (Nat → Nat → Int32) × (Nat → Nat → α) := (S.1, S.2.1, up2 S.2.2 k j x)
def allL (n : Nat) : Int64 := ((1 : Int64) <<< ((nI n).toInt64 &&& 63)) - 1
def fX0 (n : Nat) (loc : Nat → Nat) (iv : Nat → Int32) : Nat → Value := fun k => match k with
  | 0 => .int (nI n) | 1 => .long (allL n) | 2 => .ref (loc 1) | 3 => .ref (loc 2) | 4 => .int (iv 0) | 5 => .ref (loc 3) | 6 => .ref (loc 4) | 7 => .ref (loc 5) | 8 => .ref (loc 9) | 9 => .int (iv 1) | 10 => .int (iv 2) | 11 => .ref (loc 6) | 12 => .ref (loc 7) | _ => .ref (loc 8)
def lnX0 (n : Nat) : Nat → Nat := fun i => match i with
  | 0 => n | 1 => n * n | 2 => 12 | 3 => 12 | 4 => 12 | 5 => 2 | 6 => 2 | 7 => n | 8 => 12 | _ => n
def clX0 (g : Gc) : Nat → ClassId := fun i => if i < 8 then g.2 1 else if i = 8 then g.2 2 else g.2 3
def cX0 (loc : Nat → Nat) (ar : Nat → Nat → Int32) (rw : Nat → Nat → Int64) : Nat → Nat → Value := fun i j => if i < 8 then .int (ar i j) else if i = 8 then .ref (loc (10 + j)) else .long (rw (i - 9) j)
def HX (loc : Nat → Nat) (n : Nat) (g : Gc) (S : RS) (H : Heap) : Prop := ZH loc 21 (g.2 0) 14 g.1 (fX0 n loc S.1) (clX0 g) (lnX0 n) (cX0 loc S.2.1 S.2.2) H
def KX (g : Gc) (s : State) : Prop := u_Kn s RX0 TX0 14 (g.2 0) g.1 ∧ ArrOfT s (g.2 1) .int ∧ ArrOfT s (g.2 2) (.array .long) ∧ ArrOfT s (g.2 3) .long ∧ va_RA s (g.2 3) .long
def strsX : List (Nat × String) := [(104, "no such condition"), (113, "one relation is enough"), (142, "which is 0 or 1"), (146, "no such pair was pushed out"), (164, "the route has no such thing"), (169, "the relation has no classes"), (175, "the thing is of another kind"), (188, "no such thing"), (191, "what is 0, 1 or 2"), (193, "no such relation"), (195, "there are as many relations as can be"), (200, "it is a relation by a condition"), (202, "the pair does not fit"), (204, "no thing is its own twin"), (213, "there are not so many"), (77, "no such kind"), (84, "there are relations already"), (87, "no such form"), (92, "this form has like kinds")]
def sInit (C : String) : MethodName := ⟨C, "<init>", "(Ljava/lang/String;)V"⟩
def xwN : List Cond := [.castable "java/lang/IllegalArgumentException" "java/lang/IllegalArgumentException", .castable "java/lang/IllegalStateException" "java/lang/IllegalStateException", .castable "java/util/NoSuchElementException" "java/util/NoSuchElementException", .castable "java/lang/ArrayIndexOutOfBoundsException" "java/lang/ArrayIndexOutOfBoundsException", .declares (sInit "java/lang/RuntimeException"), .declares (sInit "java/lang/Exception"), .declares (sInit "java/lang/Throwable"), .declares (sInit "java/lang/IndexOutOfBoundsException")]
theorem nw_warmD {x : MethodName} {s U : State} (hW : s.WarmedH U.vm) (hZ : va_Nw (.declares x) s) : va_Nw (.declares x) U := va_tabs rfl (rfl : (s.setVm U.vm).vm = U.vm) (by rw [Cond.declares_setVm hW.alike]; exact hZ)
theorem nw_warm {w : Cond} (hw : w ∈ xwN) {s U : State} (hW : s.WarmedH U.vm) (h : va_Nw w s) : va_Nw w U := by
  simp only [xwN, List.mem_cons, List.not_mem_nil, or_false] at hw
  rcases hw with rfl | rfl | rfl | rfl | rfl | rfl | rfl | rfl
  · exact va_Nw.warmC hW h
  · exact va_Nw.warmC hW h
  · exact va_Nw.warmC hW h
  · exact va_Nw.warmC hW h
  · exact nw_warmD hW h
  · exact nw_warmD hW h
  · exact nw_warmD hW h
  · exact nw_warmD hW h
theorem nw_tab {w : Cond} (hw : w ∈ xwN) : w.onTables = true := List.all_eq_true.mp (show xwN.all (fun w => w.onTables) = true by decide) w hw
def EX (loc : Nat → Nat) (s : State) (H : Heap) : Prop := (∀ w ∈ xwN, va_Nw w s) ∧ vx_Zq Bundle.tN "UNASSIGNED_STACK" Bundle.steD (ZA loc 21) s H ∧ vx_Zq Bundle.tN "SUPPRESSED_SENTINEL" Bundle.listD (ZA loc 21) s H ∧ ∀ q ∈ strsX, ∃ a, vk_R RX0 q.1 q.2 a s
def EvX (loc : Nat → Nat) (g : Gc) (s : State) (H : Heap) : Prop := KX g s ∧ EX loc s H ∧ ZJ loc 21
abbrev CX (loc : Nat → Nat) (n : Nat) (g : Gc) (S : RS) (s : State) (H : Heap) (locs : List Loc) : Prop := Cn (ZA loc 21) (HX loc n g) (EvX loc g) S s H locs
theorem KX.moved {g : Gc} {u U : State} (hvm : u.vm.Alike U.vm) (h : KX g u) : KX g U := ⟨u_Kn_moved hvm h.1, arrOfT_moved hvm h.2.1, arrOfT_moved hvm h.2.2.1, arrOfT_moved hvm h.2.2.2.1, va_RA.moved hvm h.2.2.2.2⟩
theorem oiX {loc : Nat → Nat} {n : Nat} {g : Gc} : OI RX0 (loc 0) (ZA loc 21) (HX loc n g) (EvX loc g) := by
  refine ⟨⟨fun s U H locs hE hU hW hS => ?_, fun U gg mk a hE => ?_⟩, fun s S H hE hH => ?_⟩
  · obtain ⟨hK, ⟨h4, h1, h2, h3⟩, hJ⟩ := hE
    have hk : ∀ a : Nat, a < s.heap.size → ¬ ZA loc 21 a → U.heap[a]? = s.heap[a]? := by rw [hU]; exact hS.2.1
    exact ⟨hK.moved hW.alike, ⟨fun w hw => nw_warm hw hW (h4 w hw), (h1.kept hk).moved hW.alike, (h2.kept hk).moved hW.alike, fun q hq => (h3 q hq).elim fun a ha => ⟨a, ha.warm hW⟩⟩, hJ⟩
  · obtain ⟨hK, ⟨h4, h1, h2, h3⟩, hJ⟩ := hE
    exact ⟨hK.moved (Vm.Alike.refl U.vm), ⟨fun w hw => va_Nw.same (u := U) (U := U.calling gg mk a) (nw_tab hw) rfl (h4 w hw), vx_Zq.moved (U := U.calling gg mk a) (Vm.Alike.refl U.vm) h1, vx_Zq.moved (U := U.calling gg mk a) (Vm.Alike.refl U.vm) h2, fun q hq => (h3 q hq).elim fun a ha => ⟨a, vk_R.same rfl ha⟩⟩, hJ⟩
  · obtain ⟨cell, q1, q2, q3, -⟩ := hH.1
    exact ⟨cell, q1, by rw [q3]; rfl, by rw [q2]; exact hE.1.1.2.1⟩
theorem lnX0_lt {n : Nat} (hn : n ≤ 40) (i : Nat) : lnX0 n i < 2 ^ 31 := by
  have h2 : n * n ≤ 40 * 40 := Nat.mul_le_mul hn hn
  unfold lnX0
  split <;> omega
/-- the model -/
def fX1 (n : Nat) (loc : Nat → Nat) (iv : Nat → Int32) : Nat → Value := fun k => match k with
  | 0 => .int (iv 0) | 1 => .int (nI n) | 2 => .ref (loc 1) | 3 => .int (iv 1) | 4 => .ref (loc 2) | 5 => .ref (loc 3) | 6 => .ref (loc 4) | 7 => .ref (loc 9) | 8 => .int (iv 2) | 9 => .ref (loc 5) | 10 => .ref (loc 6) | 11 => .ref (loc 7) | 12 => .ref (loc 10) | _ => .ref (loc 8)
def lnX1 : Nat → Nat := fun i => match i with
  | 0 => 40 | 1 => 12 | 2 => 12 | 3 => 12 | 4 => 4 | 5 => 4 | 6 => 1600 | 7 => 40 | 8 => 19200 | _ => 1600
def clX1 (g : Gc) : Nat → ClassId := fun i => if i < 8 then g.2 1 else g.2 2
def cX1 (ar : Nat → Nat → Int32) (bl : Nat → Nat → Bool) : Nat → Nat → Value := fun i j => if i < 8 then .int (ar i j) else .int (bI (bl (i - 8) j))
def HM (loc : Nat → Nat) (n : Nat) (g : Gc) (S : MS) (H : Heap) : Prop := ZH loc 10 (g.2 0) 14 g.1 (fX1 n loc S.1) (clX1 g) lnX1 (cX1 S.2.1 S.2.2) H
def KM (g : Gc) (s : State) : Prop := u_Kn s RX1 TX1 14 (g.2 0) g.1 ∧ ArrOfT s (g.2 1) .int ∧ ArrOfT s (g.2 2) .boolean
def EvM (loc : Nat → Nat) (g : Gc) (s : State) (_ : Heap) : Prop := KM g s ∧ ZJ loc 10
abbrev CM (loc : Nat → Nat) (n : Nat) (g : Gc) (S : MS) (s : State) (H : Heap) (locs : List Loc) : Prop := Cn (ZA loc 10) (HM loc n g) (EvM loc g) S s H locs
theorem KM.moved {g : Gc} {u U : State} (hvm : u.vm.Alike U.vm) (h : KM g u) : KM g U := ⟨u_Kn_moved hvm h.1, arrOfT_moved hvm h.2.1, arrOfT_moved hvm h.2.2⟩
theorem oiM {loc : Nat → Nat} {n : Nat} {g : Gc} : OI RX1 (loc 0) (ZA loc 10) (HM loc n g) (EvM loc g) := by
  refine ⟨⟨fun s U H locs hE hU hW hS => ⟨hE.1.moved hW.alike, hE.2⟩, fun U gg mk a hE => ⟨hE.1.moved (Vm.Alike.refl U.vm), hE.2⟩⟩, fun s S H hE hH => ?_⟩
  obtain ⟨cell, q1, q2, q3, -⟩ := hH.1
  exact ⟨cell, q1, by rw [q3]; rfl, by rw [q2]; exact hE.1.1.2.1⟩
theorem lnX1_lt (i : Nat) : lnX1 i < 2 ^ 31 := by
  unfold lnX1
  split <;> omega
section XR
variable {p : Program} {l : Launch} {e : Env} {R : Room} {s : State} {m : MethodId} {args : Array Value} {below : List Frame} {meth : Method} {c : Code} {H : Heap} {locs : List Loc} {cells slots : Nat} {Q : State → Prop}
variable {cc : ByteArray} {pc nL : Nat} {ls : Array Slot} {rest : List Value} {loc : Nat → Nat} {n : Nat} {g : Gc}
variable {S0 : RS}
theorem x_get_things (S : CallFix p m c cc nL s args WA RX0) (hC : CX loc n g S0 s H locs) (hdg : decode cc pc = .ok (.getfield 18, 3)) (kk : W p l e R s m args below meth c H locs cells slots Q (F0 m (pc + 3) ls (.int (nI n) :: rest))) : W p l e R s m args below meth c H locs cells slots Q (F0 m pc ls (.ref (loc 0) :: rest)) :=
  z_get S inX0 hC.1.1.1 hC.2.1 0 (by decide) w_11 rfl hdg kk
theorem x_get_allThings (S : CallFix p m c cc nL s args WA RX0) (hC : CX loc n g S0 s H locs) (hdg : decode cc pc = .ok (.getfield 22, 3)) (kk : W p l e R s m args below meth c H locs cells slots Q (F0 m (pc + 3) ls (.long (allL n) :: rest))) : W p l e R s m args below meth c H locs cells slots Q (F0 m pc ls (.ref (loc 0) :: rest)) :=
  z_get S inX0 hC.1.1.1 hC.2.1 1 (by decide) w_12 rfl hdg kk
theorem x_get_kinds (S : CallFix p m c cc nL s args WA RX0) (hC : CX loc n g S0 s H locs) (hdg : decode cc pc = .ok (.getfield 26, 3)) (kk : W p l e R s m args below meth c H locs cells slots Q (F0 m (pc + 3) ls (.ref (loc 1) :: rest))) : W p l e R s m args below meth c H locs cells slots Q (F0 m pc ls (.ref (loc 0) :: rest)) :=
  z_get S inX0 hC.1.1.1 hC.2.1 2 (by decide) w_14 rfl hdg kk
theorem x_get_tallies (S : CallFix p m c cc nL s args WA RX0) (hC : CX loc n g S0 s H locs) (hdg : decode cc pc = .ok (.getfield 30, 3)) (kk : W p l e R s m args below meth c H locs cells slots Q (F0 m (pc + 3) ls (.ref (loc 2) :: rest))) : W p l e R s m args below meth c H locs cells slots Q (F0 m pc ls (.ref (loc 0) :: rest)) :=
  z_get S inX0 hC.1.1.1 hC.2.1 3 (by decide) w_15 rfl hdg kk
theorem x_get_relations (S : CallFix p m c cc nL s args WA RX0) (hC : CX loc n g S0 s H locs) (hdg : decode cc pc = .ok (.getfield 56, 3)) (kk : W p l e R s m args below meth c H locs cells slots Q (F0 m (pc + 3) ls (.int (S0.1 0) :: rest))) : W p l e R s m args below meth c H locs cells slots Q (F0 m pc ls (.ref (loc 0) :: rest)) :=
  z_get S inX0 hC.1.1.1 hC.2.1 4 (by decide) w_27 rfl hdg kk
theorem x_get_forms (S : CallFix p m c cc nL s args WA RX0) (hC : CX loc n g S0 s H locs) (hdg : decode cc pc = .ok (.getfield 33, 3)) (kk : W p l e R s m args below meth c H locs cells slots Q (F0 m (pc + 3) ls (.ref (loc 3) :: rest))) : W p l e R s m args below meth c H locs cells slots Q (F0 m pc ls (.ref (loc 0) :: rest)) :=
  z_get S inX0 hC.1.1.1 hC.2.1 5 (by decide) w_16 rfl hdg kk
theorem x_get_firsts (S : CallFix p m c cc nL s args WA RX0) (hC : CX loc n g S0 s H locs) (hdg : decode cc pc = .ok (.getfield 36, 3)) (kk : W p l e R s m args below meth c H locs cells slots Q (F0 m (pc + 3) ls (.ref (loc 4) :: rest))) : W p l e R s m args below meth c H locs cells slots Q (F0 m pc ls (.ref (loc 0) :: rest)) :=
  z_get S inX0 hC.1.1.1 hC.2.1 6 (by decide) w_17 rfl hdg kk
theorem x_get_seconds (S : CallFix p m c cc nL s args WA RX0) (hC : CX loc n g S0 s H locs) (hdg : decode cc pc = .ok (.getfield 39, 3)) (kk : W p l e R s m args below meth c H locs cells slots Q (F0 m (pc + 3) ls (.ref (loc 5) :: rest))) : W p l e R s m args below meth c H locs cells slots Q (F0 m pc ls (.ref (loc 0) :: rest)) :=
  z_get S inX0 hC.1.1.1 hC.2.1 7 (by decide) w_18 rfl hdg kk
theorem x_get_rows (S : CallFix p m c cc nL s args WA RX0) (hC : CX loc n g S0 s H locs) (hdg : decode cc pc = .ok (.getfield 44, 3)) (kk : W p l e R s m args below meth c H locs cells slots Q (F0 m (pc + 3) ls (.ref (loc 9) :: rest))) : W p l e R s m args below meth c H locs cells slots Q (F0 m pc ls (.ref (loc 0) :: rest)) :=
  z_get S inX0 hC.1.1.1 hC.2.1 8 (by decide) w_21 rfl hdg kk
theorem x_get_settled (S : CallFix p m c cc nL s args WA RX0) (hC : CX loc n g S0 s H locs) (hdg : decode cc pc = .ok (.getfield 59, 3)) (kk : W p l e R s m args below meth c H locs cells slots Q (F0 m (pc + 3) ls (.int (S0.1 1) :: rest))) : W p l e R s m args below meth c H locs cells slots Q (F0 m pc ls (.ref (loc 0) :: rest)) :=
  z_get S inX0 hC.1.1.1 hC.2.1 9 (by decide) w_28 rfl hdg kk
theorem x_get_pushedCount (S : CallFix p m c cc nL s args WA RX0) (hC : CX loc n g S0 s H locs) (hdg : decode cc pc = .ok (.getfield 62, 3)) (kk : W p l e R s m args below meth c H locs cells slots Q (F0 m (pc + 3) ls (.int (S0.1 2) :: rest))) : W p l e R s m args below meth c H locs cells slots Q (F0 m pc ls (.ref (loc 0) :: rest)) :=
  z_get S inX0 hC.1.1.1 hC.2.1 10 (by decide) w_29 rfl hdg kk
theorem x_get_pushedFirsts (S : CallFix p m c cc nL s args WA RX0) (hC : CX loc n g S0 s H locs) (hdg : decode cc pc = .ok (.getfield 47, 3)) (kk : W p l e R s m args below meth c H locs cells slots Q (F0 m (pc + 3) ls (.ref (loc 6) :: rest))) : W p l e R s m args below meth c H locs cells slots Q (F0 m pc ls (.ref (loc 0) :: rest)) :=
  z_get S inX0 hC.1.1.1 hC.2.1 11 (by decide) w_22 rfl hdg kk
theorem x_get_pushedSeconds (S : CallFix p m c cc nL s args WA RX0) (hC : CX loc n g S0 s H locs) (hdg : decode cc pc = .ok (.getfield 50, 3)) (kk : W p l e R s m args below meth c H locs cells slots Q (F0 m (pc + 3) ls (.ref (loc 7) :: rest))) : W p l e R s m args below meth c H locs cells slots Q (F0 m pc ls (.ref (loc 0) :: rest)) :=
  z_get S inX0 hC.1.1.1 hC.2.1 12 (by decide) w_23 rfl hdg kk
theorem x_get_steps (S : CallFix p m c cc nL s args WA RX0) (hC : CX loc n g S0 s H locs) (hdg : decode cc pc = .ok (.getfield 53, 3)) (kk : W p l e R s m args below meth c H locs cells slots Q (F0 m (pc + 3) ls (.ref (loc 8) :: rest))) : W p l e R s m args below meth c H locs cells slots Q (F0 m pc ls (.ref (loc 0) :: rest)) :=
  z_get S inX0 hC.1.1.1 hC.2.1 13 (by decide) w_24 rfl hdg kk
theorem x_put_relations (S : CallFix p m c cc nL s args WA RX0) (hC : CX loc n g S0 s H locs) {x : Int32} (hdg : decode cc pc = .ok (.putfield 56, 3)) (kk : ∀ (H1 : Heap) (locs1 : List Loc), CX loc n g (sI S0 0 x) s H1 locs1 → W p l e R s m args below meth c H1 locs1 cells slots Q (F0 m (pc + 3) ls rest)) : W p l e R s m args below meth c H locs cells slots Q (F0 m pc ls (.int x :: .ref (loc 0) :: rest)) :=
  z_put S inX0 tyX0 tyX0_ok nmX0 hC.1.1.1 hC.1.2.2 hC.2.1 hC.2.2 4 (by decide) w_27 rfl rfl rfl hdg (fun H1 locs1 hH hS => kk H1 locs1 ⟨hC.1, hH.to (fun k hk => match k, hk with
    | 0, _ => rfl
    | 1, _ => rfl
    | 2, _ => rfl
    | 3, _ => rfl
    | 4, _ => rfl
    | 5, _ => rfl
    | 6, _ => rfl
    | 7, _ => rfl
    | 8, _ => rfl
    | 9, _ => rfl
    | 10, _ => rfl
    | 11, _ => rfl
    | 12, _ => rfl
    | 13, _ => rfl
    | k + 14, h => absurd h (by omega)) (fun _ _ _ _ => rfl), hS⟩)
theorem x_put_settled (S : CallFix p m c cc nL s args WA RX0) (hC : CX loc n g S0 s H locs) {x : Int32} (hdg : decode cc pc = .ok (.putfield 59, 3)) (kk : ∀ (H1 : Heap) (locs1 : List Loc), CX loc n g (sI S0 1 x) s H1 locs1 → W p l e R s m args below meth c H1 locs1 cells slots Q (F0 m (pc + 3) ls rest)) : W p l e R s m args below meth c H locs cells slots Q (F0 m pc ls (.int x :: .ref (loc 0) :: rest)) :=
  z_put S inX0 tyX0 tyX0_ok nmX0 hC.1.1.1 hC.1.2.2 hC.2.1 hC.2.2 9 (by decide) w_28 rfl rfl rfl hdg (fun H1 locs1 hH hS => kk H1 locs1 ⟨hC.1, hH.to (fun k hk => match k, hk with
    | 0, _ => rfl
    | 1, _ => rfl
    | 2, _ => rfl
    | 3, _ => rfl
    | 4, _ => rfl
    | 5, _ => rfl
    | 6, _ => rfl
    | 7, _ => rfl
    | 8, _ => rfl
    | 9, _ => rfl
    | 10, _ => rfl
    | 11, _ => rfl
    | 12, _ => rfl
    | 13, _ => rfl
    | k + 14, h => absurd h (by omega)) (fun _ _ _ _ => rfl), hS⟩)
theorem x_put_pushedCount (S : CallFix p m c cc nL s args WA RX0) (hC : CX loc n g S0 s H locs) {x : Int32} (hdg : decode cc pc = .ok (.putfield 62, 3)) (kk : ∀ (H1 : Heap) (locs1 : List Loc), CX loc n g (sI S0 2 x) s H1 locs1 → W p l e R s m args below meth c H1 locs1 cells slots Q (F0 m (pc + 3) ls rest)) : W p l e R s m args below meth c H locs cells slots Q (F0 m pc ls (.int x :: .ref (loc 0) :: rest)) :=
  z_put S inX0 tyX0 tyX0_ok nmX0 hC.1.1.1 hC.1.2.2 hC.2.1 hC.2.2 10 (by decide) w_29 rfl rfl rfl hdg (fun H1 locs1 hH hS => kk H1 locs1 ⟨hC.1, hH.to (fun k hk => match k, hk with
    | 0, _ => rfl
    | 1, _ => rfl
    | 2, _ => rfl
    | 3, _ => rfl
    | 4, _ => rfl
    | 5, _ => rfl
    | 6, _ => rfl
    | 7, _ => rfl
    | 8, _ => rfl
    | 9, _ => rfl
    | 10, _ => rfl
    | 11, _ => rfl
    | 12, _ => rfl
    | 13, _ => rfl
    | k + 14, h => absurd h (by omega)) (fun _ _ _ _ => rfl), hS⟩)
theorem x_clI {g : Gc} {k : Nat} (hk : k < 8) : clX0 g k = g.2 1 := if_pos hk
theorem x_ild (S : CallFix p m c cc nL s args WA RX0) (hC : CX loc n g S0 s H locs) (hn : n ≤ 40) (k : Nat) (hk : k < 8) {j : Nat} (hj : j < lnX0 n k) (hdg : decode cc pc = .ok (.iaload, 1)) (kk : W p l e R s m args below meth c H locs cells slots Q (F0 m (pc + 1) ls (.int (S0.2.1 k j) :: rest))) : W p l e R s m args below meth c H locs cells slots Q (F0 m pc ls (.int (nI j) :: .ref (loc (k + 1)) :: rest)) :=
  z_ild S hC.2.1 k (by omega) (by rw [x_clI hk]; exact hC.1.1.2.1) hj (lnX0_lt hn k) (if_pos hk) hdg kk
theorem x_ist (S : CallFix p m c cc nL s args WA RX0) (hC : CX loc n g S0 s H locs) (hn : n ≤ 40) (k : Nat) (hk : k < 8) {j : Nat} (hj : j < lnX0 n k) {x : Int32} (hdg : decode cc pc = .ok (.iastore, 1)) (kk : ∀ (H1 : Heap) (locs1 : List Loc), CX loc n g (sA S0 k j x) s H1 locs1 → W p l e R s m args below meth c H1 locs1 cells slots Q (F0 m (pc + 1) ls rest)) : W p l e R s m args below meth c H locs cells slots Q (F0 m pc ls (.int x :: .int (nI j) :: .ref (loc (k + 1)) :: rest)) :=
  z_ist S hC.1.2.2 hC.2.1 hC.2.2 k (by omega) (by rw [x_clI hk]; exact hC.1.1.2.1) hj (lnX0_lt hn k) hdg (fun H1 locs1 hH hS => kk H1 locs1 ⟨hC.1, hH.to (fun _ _ => rfl) (fun a b ha hb => by
    simp only [up2, cX0, sA]
    by_cases h1 : a = k ∧ b = j
    · rw [if_pos h1, if_pos (by omega), if_pos h1]
    · simp only [if_neg h1]), hS⟩)
theorem x_aald (S : CallFix p m c cc nL s args WA RX0) (hC : CX loc n g S0 s H locs) {r : Nat} (hr : r < 12) (hdg : decode cc pc = .ok (.aaload, 1)) (kk : W p l e R s m args below meth c H locs cells slots Q (F0 m (pc + 1) ls (.ref (loc (10 + r)) :: rest))) : W p l e R s m args below meth c H locs cells slots Q (F0 m pc ls (.int (nI r) :: .ref (loc 9) :: rest)) :=
  z_ald S hC.2.1 8 (by decide) (ty := .array .long) rfl hC.1.1.2.2.1 (j := r) hr (by show 12 < 2 ^ 31; decide) rfl hdg kk
theorem x_lld (S : CallFix p m c cc nL s args WA RX0) (hC : CX loc n g S0 s H locs) (hn : n ≤ 40) {r a : Nat} (hr : r < 12) (ha : a < n) (hdg : decode cc pc = .ok (.laload, 1)) (kk : W p l e R s m args below meth c H locs cells slots Q (F0 m (pc + 1) ls (.long (S0.2.2 r a) :: rest))) : W p l e R s m args below meth c H locs cells slots Q (F0 m pc ls (.int (nI a) :: .ref (loc (10 + r)) :: rest)) := by
  rw [show 10 + r = (9 + r) + 1 by omega]
  have hl : lnX0 n (9 + r) = n := by rw [Nat.add_comm]; rfl
  refine z_lld S hC.2.1 (9 + r) (by omega) (by rw [show clX0 g (9 + r) = g.2 3 by unfold clX0; rw [if_neg (by omega), if_neg (by omega)]]; exact hC.1.1.2.2.2.1) (by rw [hl]; exact ha) (lnX0_lt hn _) (v := .long (S0.2.2 r a)) ?_ hdg kk
  unfold cX0
  rw [if_neg (by omega), if_neg (by omega), show 9 + r - 9 = r by omega]
theorem x_lst (S : CallFix p m c cc nL s args WA RX0) (hC : CX loc n g S0 s H locs) (hn : n ≤ 40) {r a : Nat} (hr : r < 12) (ha : a < n) {x : Int64} (hdg : decode cc pc = .ok (.lastore, 1)) (kk : ∀ (H1 : Heap) (locs1 : List Loc), CX loc n g (sW S0 r a x) s H1 locs1 → W p l e R s m args below meth c H1 locs1 cells slots Q (F0 m (pc + 1) ls rest)) : W p l e R s m args below meth c H locs cells slots Q (F0 m pc ls (.long x :: .int (nI a) :: .ref (loc (10 + r)) :: rest)) := by
  rw [show 10 + r = (9 + r) + 1 by omega]
  have hl : lnX0 n (9 + r) = n := by rw [Nat.add_comm]; rfl
  refine z_lst S hC.1.2.2 hC.2.1 hC.2.2 (9 + r) (by omega) (by rw [show clX0 g (9 + r) = g.2 3 by unfold clX0; rw [if_neg (by omega), if_neg (by omega)]]; exact hC.1.1.2.2.2.1) (by rw [hl]; exact ha) (lnX0_lt hn _) hdg (fun H1 locs1 hH hS => kk H1 locs1 ⟨hC.1, hH.to (fun _ _ => rfl) (fun i j hi hj => ?_), hS⟩)
  simp only [up2, cX0, sW]
  by_cases h1 : i = 9 + r ∧ j = a
  · rw [if_pos h1, if_neg (by omega), if_neg (by omega), if_pos (by omega)]
  · rw [if_neg h1]
    by_cases h2 : i < 8
    · rw [if_pos h2, if_pos h2]
    · rw [if_neg h2, if_neg h2]
      by_cases h3 : i = 8
      · rw [if_pos h3, if_pos h3]
      · rw [if_neg h3, if_neg h3, if_neg (by omega)]
end XR
section MR
variable {p : Program} {l : Launch} {e : Env} {R : Room} {s : State} {m : MethodId} {args : Array Value} {below : List Frame} {meth : Method} {c : Code} {H : Heap} {locs : List Loc} {cells slots : Nat} {Q : State → Prop}
variable {cc : ByteArray} {pc nL : Nat} {ls : Array Slot} {rest : List Value} {loc : Nat → Nat} {n : Nat} {g : Gc}
variable {S0 : MS}
theorem m_get_code (S : CallFix p m c cc nL s args WA RX1) (hC : CM loc n g S0 s H locs) (hdg : decode cc pc = .ok (.getfield 48, 3)) (kk : W p l e R s m args below meth c H locs cells slots Q (F0 m (pc + 3) ls (.int (S0.1 0) :: rest))) : W p l e R s m args below meth c H locs cells slots Q (F0 m pc ls (.ref (loc 0) :: rest)) :=
  z_get S inX1 hC.1.1.1 hC.2.1 0 (by decide) w_233 rfl hdg kk
theorem m_get_things (S : CallFix p m c cc nL s args WA RX1) (hC : CM loc n g S0 s H locs) (hdg : decode cc pc = .ok (.getfield 41, 3)) (kk : W p l e R s m args below meth c H locs cells slots Q (F0 m (pc + 3) ls (.int (nI n) :: rest))) : W p l e R s m args below meth c H locs cells slots Q (F0 m pc ls (.ref (loc 0) :: rest)) :=
  z_get S inX1 hC.1.1.1 hC.2.1 1 (by decide) w_227 rfl hdg kk
theorem m_get_kinds (S : CallFix p m c cc nL s args WA RX1) (hC : CM loc n g S0 s H locs) (hdg : decode cc pc = .ok (.getfield 7, 3)) (kk : W p l e R s m args below meth c H locs cells slots Q (F0 m (pc + 3) ls (.ref (loc 1) :: rest))) : W p l e R s m args below meth c H locs cells slots Q (F0 m pc ls (.ref (loc 0) :: rest)) :=
  z_get S inX1 hC.1.1.1 hC.2.1 2 (by decide) w_214 rfl hdg kk
theorem m_get_relations (S : CallFix p m c cc nL s args WA RX1) (hC : CM loc n g S0 s H locs) (hdg : decode cc pc = .ok (.getfield 51, 3)) (kk : W p l e R s m args below meth c H locs cells slots Q (F0 m (pc + 3) ls (.int (S0.1 1) :: rest))) : W p l e R s m args below meth c H locs cells slots Q (F0 m pc ls (.ref (loc 0) :: rest)) :=
  z_get S inX1 hC.1.1.1 hC.2.1 3 (by decide) w_212 rfl hdg kk
theorem m_get_form (S : CallFix p m c cc nL s args WA RX1) (hC : CM loc n g S0 s H locs) (hdg : decode cc pc = .ok (.getfield 13, 3)) (kk : W p l e R s m args below meth c H locs cells slots Q (F0 m (pc + 3) ls (.ref (loc 2) :: rest))) : W p l e R s m args below meth c H locs cells slots Q (F0 m pc ls (.ref (loc 0) :: rest)) :=
  z_get S inX1 hC.1.1.1 hC.2.1 4 (by decide) w_218 rfl hdg kk
theorem m_get_one (S : CallFix p m c cc nL s args WA RX1) (hC : CM loc n g S0 s H locs) (hdg : decode cc pc = .ok (.getfield 16, 3)) (kk : W p l e R s m args below meth c H locs cells slots Q (F0 m (pc + 3) ls (.ref (loc 3) :: rest))) : W p l e R s m args below meth c H locs cells slots Q (F0 m pc ls (.ref (loc 0) :: rest)) :=
  z_get S inX1 hC.1.1.1 hC.2.1 5 (by decide) w_219 rfl hdg kk
theorem m_get_two (S : CallFix p m c cc nL s args WA RX1) (hC : CM loc n g S0 s H locs) (hdg : decode cc pc = .ok (.getfield 19, 3)) (kk : W p l e R s m args below meth c H locs cells slots Q (F0 m (pc + 3) ls (.ref (loc 4) :: rest))) : W p l e R s m args below meth c H locs cells slots Q (F0 m pc ls (.ref (loc 0) :: rest)) :=
  z_get S inX1 hC.1.1.1 hC.2.1 6 (by decide) w_220 rfl hdg kk
theorem m_get_pairs (S : CallFix p m c cc nL s args WA RX1) (hC : CM loc n g S0 s H locs) (hdg : decode cc pc = .ok (.getfield 22, 3)) (kk : W p l e R s m args below meth c H locs cells slots Q (F0 m (pc + 3) ls (.ref (loc 9) :: rest))) : W p l e R s m args below meth c H locs cells slots Q (F0 m pc ls (.ref (loc 0) :: rest)) :=
  z_get S inX1 hC.1.1.1 hC.2.1 7 (by decide) w_222 rfl hdg kk
theorem m_get_pushes (S : CallFix p m c cc nL s args WA RX1) (hC : CM loc n g S0 s H locs) (hdg : decode cc pc = .ok (.getfield 54, 3)) (kk : W p l e R s m args below meth c H locs cells slots Q (F0 m (pc + 3) ls (.int (S0.1 2) :: rest))) : W p l e R s m args below meth c H locs cells slots Q (F0 m pc ls (.ref (loc 0) :: rest)) :=
  z_get S inX1 hC.1.1.1 hC.2.1 8 (by decide) w_213 rfl hdg kk
theorem m_get_pushedFirst (S : CallFix p m c cc nL s args WA RX1) (hC : CM loc n g S0 s H locs) (hdg : decode cc pc = .ok (.getfield 26, 3)) (kk : W p l e R s m args below meth c H locs cells slots Q (F0 m (pc + 3) ls (.ref (loc 5) :: rest))) : W p l e R s m args below meth c H locs cells slots Q (F0 m pc ls (.ref (loc 0) :: rest)) :=
  z_get S inX1 hC.1.1.1 hC.2.1 9 (by decide) w_223 rfl hdg kk
theorem m_get_pushedSecond (S : CallFix p m c cc nL s args WA RX1) (hC : CM loc n g S0 s H locs) (hdg : decode cc pc = .ok (.getfield 29, 3)) (kk : W p l e R s m args below meth c H locs cells slots Q (F0 m (pc + 3) ls (.ref (loc 6) :: rest))) : W p l e R s m args below meth c H locs cells slots Q (F0 m pc ls (.ref (loc 0) :: rest)) :=
  z_get S inX1 hC.1.1.1 hC.2.1 10 (by decide) w_224 rfl hdg kk
theorem m_get_tallies (S : CallFix p m c cc nL s args WA RX1) (hC : CM loc n g S0 s H locs) (hdg : decode cc pc = .ok (.getfield 32, 3)) (kk : W p l e R s m args below meth c H locs cells slots Q (F0 m (pc + 3) ls (.ref (loc 7) :: rest))) : W p l e R s m args below meth c H locs cells slots Q (F0 m pc ls (.ref (loc 0) :: rest)) :=
  z_get S inX1 hC.1.1.1 hC.2.1 11 (by decide) w_215 rfl hdg kk
theorem m_get_joined (S : CallFix p m c cc nL s args WA RX1) (hC : CM loc n g S0 s H locs) (hdg : decode cc pc = .ok (.getfield 35, 3)) (kk : W p l e R s m args below meth c H locs cells slots Q (F0 m (pc + 3) ls (.ref (loc 10) :: rest))) : W p l e R s m args below meth c H locs cells slots Q (F0 m pc ls (.ref (loc 0) :: rest)) :=
  z_get S inX1 hC.1.1.1 hC.2.1 12 (by decide) w_225 rfl hdg kk
theorem m_get_steps (S : CallFix p m c cc nL s args WA RX1) (hC : CM loc n g S0 s H locs) (hdg : decode cc pc = .ok (.getfield 38, 3)) (kk : W p l e R s m args below meth c H locs cells slots Q (F0 m (pc + 3) ls (.ref (loc 8) :: rest))) : W p l e R s m args below meth c H locs cells slots Q (F0 m pc ls (.ref (loc 0) :: rest)) :=
  z_get S inX1 hC.1.1.1 hC.2.1 13 (by decide) w_226 rfl hdg kk
theorem m_put_code (S : CallFix p m c cc nL s args WA RX1) (hC : CM loc n g S0 s H locs) {x : Int32} (hdg : decode cc pc = .ok (.putfield 48, 3)) (kk : ∀ (H1 : Heap) (locs1 : List Loc), CM loc n g (sI S0 0 x) s H1 locs1 → W p l e R s m args below meth c H1 locs1 cells slots Q (F0 m (pc + 3) ls rest)) : W p l e R s m args below meth c H locs cells slots Q (F0 m pc ls (.int x :: .ref (loc 0) :: rest)) :=
  z_put S inX1 tyX1 tyX1_ok nmX1 hC.1.1.1 hC.1.2 hC.2.1 hC.2.2 0 (by decide) w_233 rfl rfl rfl hdg (fun H1 locs1 hH hS => kk H1 locs1 ⟨hC.1, hH.to (fun k hk => match k, hk with
    | 0, _ => rfl
    | 1, _ => rfl
    | 2, _ => rfl
    | 3, _ => rfl
    | 4, _ => rfl
    | 5, _ => rfl
    | 6, _ => rfl
    | 7, _ => rfl
    | 8, _ => rfl
    | 9, _ => rfl
    | 10, _ => rfl
    | 11, _ => rfl
    | 12, _ => rfl
    | 13, _ => rfl
    | k + 14, h => absurd h (by omega)) (fun _ _ _ _ => rfl), hS⟩)
theorem m_put_relations (S : CallFix p m c cc nL s args WA RX1) (hC : CM loc n g S0 s H locs) {x : Int32} (hdg : decode cc pc = .ok (.putfield 51, 3)) (kk : ∀ (H1 : Heap) (locs1 : List Loc), CM loc n g (sI S0 1 x) s H1 locs1 → W p l e R s m args below meth c H1 locs1 cells slots Q (F0 m (pc + 3) ls rest)) : W p l e R s m args below meth c H locs cells slots Q (F0 m pc ls (.int x :: .ref (loc 0) :: rest)) :=
  z_put S inX1 tyX1 tyX1_ok nmX1 hC.1.1.1 hC.1.2 hC.2.1 hC.2.2 3 (by decide) w_212 rfl rfl rfl hdg (fun H1 locs1 hH hS => kk H1 locs1 ⟨hC.1, hH.to (fun k hk => match k, hk with
    | 0, _ => rfl
    | 1, _ => rfl
    | 2, _ => rfl
    | 3, _ => rfl
    | 4, _ => rfl
    | 5, _ => rfl
    | 6, _ => rfl
    | 7, _ => rfl
    | 8, _ => rfl
    | 9, _ => rfl
    | 10, _ => rfl
    | 11, _ => rfl
    | 12, _ => rfl
    | 13, _ => rfl
    | k + 14, h => absurd h (by omega)) (fun _ _ _ _ => rfl), hS⟩)
theorem m_put_pushes (S : CallFix p m c cc nL s args WA RX1) (hC : CM loc n g S0 s H locs) {x : Int32} (hdg : decode cc pc = .ok (.putfield 54, 3)) (kk : ∀ (H1 : Heap) (locs1 : List Loc), CM loc n g (sI S0 2 x) s H1 locs1 → W p l e R s m args below meth c H1 locs1 cells slots Q (F0 m (pc + 3) ls rest)) : W p l e R s m args below meth c H locs cells slots Q (F0 m pc ls (.int x :: .ref (loc 0) :: rest)) :=
  z_put S inX1 tyX1 tyX1_ok nmX1 hC.1.1.1 hC.1.2 hC.2.1 hC.2.2 8 (by decide) w_213 rfl rfl rfl hdg (fun H1 locs1 hH hS => kk H1 locs1 ⟨hC.1, hH.to (fun k hk => match k, hk with
    | 0, _ => rfl
    | 1, _ => rfl
    | 2, _ => rfl
    | 3, _ => rfl
    | 4, _ => rfl
    | 5, _ => rfl
    | 6, _ => rfl
    | 7, _ => rfl
    | 8, _ => rfl
    | 9, _ => rfl
    | 10, _ => rfl
    | 11, _ => rfl
    | 12, _ => rfl
    | 13, _ => rfl
    | k + 14, h => absurd h (by omega)) (fun _ _ _ _ => rfl), hS⟩)
theorem m_ild (S : CallFix p m c cc nL s args WA RX1) (hC : CM loc n g S0 s H locs) (k : Nat) (hk : k < 8) {j : Nat} (hj : j < lnX1 k) (hdg : decode cc pc = .ok (.iaload, 1)) (kk : W p l e R s m args below meth c H locs cells slots Q (F0 m (pc + 1) ls (.int (S0.2.1 k j) :: rest))) : W p l e R s m args below meth c H locs cells slots Q (F0 m pc ls (.int (nI j) :: .ref (loc (k + 1)) :: rest)) :=
  z_ild S hC.2.1 k (by omega) (by rw [show clX1 g k = g.2 1 from if_pos hk]; exact hC.1.1.2.1) hj (lnX1_lt k) (if_pos hk) hdg kk
theorem m_ist (S : CallFix p m c cc nL s args WA RX1) (hC : CM loc n g S0 s H locs) (k : Nat) (hk : k < 8) {j : Nat} (hj : j < lnX1 k) {x : Int32} (hdg : decode cc pc = .ok (.iastore, 1)) (kk : ∀ (H1 : Heap) (locs1 : List Loc), CM loc n g (sA S0 k j x) s H1 locs1 → W p l e R s m args below meth c H1 locs1 cells slots Q (F0 m (pc + 1) ls rest)) : W p l e R s m args below meth c H locs cells slots Q (F0 m pc ls (.int x :: .int (nI j) :: .ref (loc (k + 1)) :: rest)) :=
  z_ist S hC.1.2 hC.2.1 hC.2.2 k (by omega) (by rw [show clX1 g k = g.2 1 from if_pos hk]; exact hC.1.1.2.1) hj (lnX1_lt k) hdg (fun H1 locs1 hH hS => kk H1 locs1 ⟨hC.1, hH.to (fun _ _ => rfl) (fun a b ha hb => by
    simp only [up2, cX1, sA]
    by_cases h1 : a = k ∧ b = j
    · rw [if_pos h1, if_pos (by omega), if_pos h1]
    · simp only [if_neg h1]), hS⟩)
theorem m_zld (S : CallFix p m c cc nL s args WA RX1) (hC : CM loc n g S0 s H locs) (k : Nat) (hk : k < 2) {j : Nat} (hj : j < lnX1 (8 + k)) (hdg : decode cc pc = .ok (.baload, 1)) (kk : W p l e R s m args below meth c H locs cells slots Q (F0 m (pc + 1) ls (.int (bI (S0.2.2 k j)) :: rest))) : W p l e R s m args below meth c H locs cells slots Q (F0 m pc ls (.int (nI j) :: .ref (loc (9 + k)) :: rest)) := by
  rw [show 9 + k = (8 + k) + 1 by omega]
  refine z_zld S hC.2.1 (8 + k) (by omega) (by rw [show clX1 g (8 + k) = g.2 2 from if_neg (by omega)]; exact hC.1.1.2.2) hj (lnX1_lt _) (v := .int (bI (S0.2.2 k j))) ?_ hdg kk
  unfold cX1
  rw [if_neg (by omega), show 8 + k - 8 = k by omega]
theorem m_zst (S : CallFix p m c cc nL s args WA RX1) (hC : CM loc n g S0 s H locs) (k : Nat) (hk : k < 2) {j : Nat} (hj : j < lnX1 (8 + k)) {b : Bool} {x : Int32} (hxb : x = bI b) (hdg : decode cc pc = .ok (.bastore, 1)) (kk : ∀ (H1 : Heap) (locs1 : List Loc), CM loc n g (sW S0 k j b) s H1 locs1 → W p l e R s m args below meth c H1 locs1 cells slots Q (F0 m (pc + 1) ls rest)) : W p l e R s m args below meth c H locs cells slots Q (F0 m pc ls (.int x :: .int (nI j) :: .ref (loc (9 + k)) :: rest)) := by
  rw [show 9 + k = (8 + k) + 1 by omega]
  refine z_zst S hC.1.2 hC.2.1 hC.2.2 (8 + k) (by omega) (by rw [show clX1 g (8 + k) = g.2 2 from if_neg (by omega)]; exact hC.1.1.2.2) hj (lnX1_lt _) hxb hdg (fun H1 locs1 hH hS => kk H1 locs1 ⟨hC.1, hH.to (fun _ _ => rfl) (fun a b' ha hb => ?_), hS⟩)
  simp only [up2, cX1, sW]
  by_cases h1 : a = 8 + k ∧ b' = j
  · rw [if_pos h1, if_neg (by omega), if_pos (by omega)]
  · rw [if_neg h1]
    by_cases h2 : a < 8
    · rw [if_pos h2, if_pos h2]
    · rw [if_neg h2, if_neg h2, if_neg (by omega)]
end MR
