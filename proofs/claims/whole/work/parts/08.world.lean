/-! A world of one object at loc 0 and N arrays at loc 1 .. loc N -/
def ZH (loc : Nat → Nat) (N : Nat) (cC : ClassId) (nf : Nat) (iS : Nat → Nat) (fv : Nat → Value) (cA : Nat → ClassId) (ln : Nat → Nat) (cv : Nat → Nat → Value) (H : Heap) : Prop :=
  t_OB (loc 0) cC nf iS H fv ∧ ∀ i, i < N → H[loc (i + 1)]? = some (arrV (cA i) (ln i) (cv i))
def ZJ (loc : Nat → Nat) (N : Nat) : Prop := ∀ i j, i < N + 1 → j < N + 1 → loc i = loc j → i = j
def ZA (loc : Nat → Nat) (N : Nat) : Nat → Prop := fun q => ∃ i, i < N + 1 ∧ q = loc i
def up2 {α : Type} (f : Nat → Nat → α) (i j : Nat) (v : α) : Nat → Nat → α := fun a b => if a = i ∧ b = j then v else f a b
theorem arrV_congr (cA : ClassId) {n : Nat} {f g : Nat → Value} (h : ∀ j, j < n → f j = g j) : arrV cA n f = arrV cA n g := by
  unfold arrV
  congr 1
  exact congrArg Array.ofFn (funext fun j => h j.val j.isLt)
theorem ZH.to {loc : Nat → Nat} {N nf : Nat} {cC : ClassId} {iS : Nat → Nat} {fv fv' : Nat → Value} {cA : Nat → ClassId} {ln : Nat → Nat} {cv cv' : Nat → Nat → Value} {H : Heap} (h : ZH loc N cC nf iS fv cA ln cv H) (hf : ∀ k, k < nf → fv k = fv' k) (hc : ∀ i j, i < N → j < ln i → cv i j = cv' i j) : ZH loc N cC nf iS fv' cA ln cv' H :=
  ⟨t_OB.to h.1 hf, fun i hi => (h.2 i hi).trans (congrArg some (arrV_congr _ (fun j hj => hc i j hi hj)))⟩
theorem ZH.kept {loc : Nat → Nat} {N nf : Nat} {cC : ClassId} {iS : Nat → Nat} {fv : Nat → Value} {cA : Nat → ClassId} {ln : Nat → Nat} {cv : Nat → Nat → Value} {H H1 : Heap} (h : ZH loc N cC nf iS fv cA ln cv H) (hk : ∀ i, i < N + 1 → H1[loc i]? = H[loc i]?) : ZH loc N cC nf iS fv cA ln cv H1 :=
  ⟨h.1.kept (hk 0 (by omega)), fun i hi => (hk (i + 1) (by omega)).trans (h.2 i hi)⟩
theorem ZH.st {loc : Nat → Nat} {N nf : Nat} {cC : ClassId} {iS : Nat → Nat} {fv : Nat → Value} {cA : Nat → ClassId} {ln : Nat → Nat} {cv : Nat → Nat → Value} {H H1 : Heap} (h : ZH loc N cC nf iS fv cA ln cv H) (hJ : ZJ loc N) {i j : Nat} (hi : i < N) {v : Value}
    (e1 : H1[loc (i + 1)]? = some ((arrV (cA i) (ln i) (cv i)).setSlot j v)) (oq : ∀ q : Nat, q ≠ loc (i + 1) → H1[q]? = H[q]?) : ZH loc N cC nf iS fv cA ln (up2 cv i j v) H1 := by
  refine ⟨h.1.kept (oq _ fun e => absurd (hJ 0 (i + 1) (by omega) (by omega) e) (by omega)), fun k hk => ?_⟩
  by_cases hki : k = i
  · subst hki
    rw [e1, arrV_store]
    refine congrArg some (congrArg (arrV _ _) (funext fun b => ?_))
    by_cases hb : b = j
    · simp [updV, up2, hb]
    · simp [updV, up2, hb]
  · rw [oq _ (fun e => hki (by have := hJ (k + 1) (i + 1) (by omega) (by omega) e; omega)), h.2 k hk]
    refine congrArg some (congrArg (arrV _ _) (funext fun b => ?_))
    simp [up2, hki]
theorem z_apart {s : State} {args : Array Value} {own : String} {T : u_T} {nf : Nat} {cC : ClassId} {iS : Nat → Nat} (hts : ∀ w ∈ WA, w.before args s = true) (hin : ∀ w ∈ u_ws own T nf, w ∈ WA) (ty : Nat → FieldType) (hty : ∀ k, k < nf → parseFieldDescriptor (T k).2.2.1 = some (ty k)) (hnm : ∀ a, a < nf → ∀ b, b < nf → a ≠ b → (T a).2.1 ≠ (T b).2.1) (hK : u_Kn s own T nf cC iS) : ∀ x y, x < nf → y < nf → x ≠ y → iS x ≠ iS y := by
  intro x y hx hy hne
  obtain ⟨hS, -⟩ := hK
  obtain ⟨_, _, _, fa, hia, ea⟩ := hS x hx
  obtain ⟨_, _, _, fb, hib, eb⟩ := hS y hy
  rw [← ea, ← eb]
  refine u_apart (u_lays hts hin hx) (u_lays hts hin hy) hia hib ?_
  rw [(State.fieldFound?_type hia (hty x hx)).1, (State.fieldFound?_type hib (hty y hy)).1]
  exact hnm x hx y hy hne
section ZW
variable {p : Program} {l : Launch} {e : Env} {R : Room} {s : State} {m : MethodId} {args : Array Value} {below : List Frame} {meth : Method} {c : Code} {H : Heap} {locs : List Loc} {cells slots : Nat} {Q : State → Prop}
variable {cc : ByteArray} {pc nL : Nat} {ls : Array Slot} {rest : List Value} {loc : Nat → Nat} {N nf : Nat} {cC : ClassId} {iS : Nat → Nat} {fv : Nat → Value} {cA : Nat → ClassId} {ln : Nat → Nat} {cv : Nat → Nat → Value} {own : String} {T : u_T}
theorem z_get (S : CallFix p m c cc nL s args WA own) (hin : ∀ w ∈ u_ws own T nf, w ∈ WA) (hKn : u_Kn s own T nf cC iS) (hH : ZH loc N cC nf iS fv cA ln cv H) (k : Nat) (hk : k < nf) {index : Nat} (hlink : Cond.fieldLink own index (T k).1 (T k).2.1 (T k).2.2.1 ∈ WA) {v : Value} (hv : fv k = v) (hdg : decode cc pc = .ok (.getfield index, 3))
    (kk : W p l e R s m args below meth c H locs cells slots Q (F0 m (pc + 3) ls (v :: rest))) : W p l e R s m args below meth c H locs cells slots Q (F0 m pc ls (.ref (loc 0) :: rest)) := by
  obtain ⟨hx, hb, -, hown, hts⟩ := S
  obtain ⟨cell, q1, q2, q3, q4⟩ := hH.1
  obtain ⟨hS, hfc, kC, hkC, hkind⟩ := hKn
  obtain ⟨cf, kf, fi, f, hi, hsl⟩ := hS k hk
  refine W.getf hx hb hown (hts _ hlink) hi (u_facts hfc hkC (u_lays hts hin hk) hi).1 q1 (by rw [q3]; exact fun h => by cases h) (v := v) ?_ rfl rfl hdg kk
  rw [hsl, q4 k hk, hv]
theorem z_put (S : CallFix p m c cc nL s args WA own) (hin : ∀ w ∈ u_ws own T nf, w ∈ WA) (ty0 : Nat → FieldType) (hty : ∀ k, k < nf → parseFieldDescriptor (T k).2.2.1 = some (ty0 k)) (hnm : ∀ a, a < nf → ∀ b, b < nf → a ≠ b → (T a).2.1 ≠ (T b).2.1) (hKn : u_Kn s own T nf cC iS) (hJ : ZJ loc N) (hH : ZH loc N cC nf iS fv cA ln cv H) (hS0 : va_S (ZA loc N) s.heap H locs) (k : Nat) (hk : k < nf) {index : Nat} (hlink : Cond.fieldLink own index (T k).1 (T k).2.1 (T k).2.2.1 ∈ WA) (hfin : (T k).2.2.2 = false) {v : Value} (hn : narrow (ty0 k) v = v) (hfit : fits (ty0 k) v = true) (hdg : decode cc pc = .ok (.putfield index, 3))
    (kk : ∀ (H1 : Heap) (locs1 : List Loc), ZH loc N cC nf iS (updV fv k v) cA ln cv H1 → va_S (ZA loc N) s.heap H1 locs1 → W p l e R s m args below meth c H1 locs1 cells slots Q (F0 m (pc + 3) ls rest)) : W p l e R s m args below meth c H locs cells slots Q (F0 m pc ls (v :: .ref (loc 0) :: rest)) := by
  obtain ⟨hx, hb, -, hown, hts⟩ := S
  have hap := z_apart hts hin ty0 hty hnm hKn
  obtain ⟨cell, q1, q2, q3, q4⟩ := hH.1
  obtain ⟨hS, hfc, kC, hkC, hkind⟩ := hKn
  obtain ⟨cf, kf, fi, f, hi, hsl⟩ := hS k hk
  have hlay := hts _ (hin _ (u_in_lay hk))
  unfold u_lay at hlay
  rw [if_neg (by rw [hfin]; decide)] at hlay
  have hst := (u_facts hfc hkC (u_lays hts hin hk) hi).1
  have h6 := u_store hfc hkC hkind hlay hi (hty k hk) hn hfit
  refine W.putK hx hb (f := f) ⟨hown, hts _ hlink, ⟨_, _, _, hi⟩, hst⟩ (by rw [q2]; exact h6) q1 q3 (by rw [hsl]; exact k2_hasslot (q4 k hk)) rfl rfl hdg fun H' e1 e2 e3 => ?_
  rw [hsl] at e1 ⊢
  refine kk H' _ ⟨⟨_, e1, q2, q3, t_set q4 hap hk v⟩, fun i hi => ?_⟩ (hS0.put e2 e3 ⟨0, by omega, rfl⟩)
  rw [e3 _ (fun e => absurd (hJ (i + 1) 0 (by omega) (by omega) e) (by omega))]
  exact hH.2 i hi
theorem z_in {i : Nat} {f : Nat → Value} {c0 : ClassId} {n : Nat} {j : Nat} (hj : j < n) (hn : n < 2 ^ 31) : ¬ (nI j < 0 ∨ (arrV c0 n f).slots.size ≤ (nI j).toNatClampNeg) := by
  rw [arrV_size]
  exact nI_in hj hn
theorem z_rd {f : Nat → Value} {c0 : ClassId} {n : Nat} {j : Nat} (hj : j < n) (hn : n < 2 ^ 31) : (arrV c0 n f).slots[(nI j).toNatClampNeg]? = some (f j) := by
  rw [nI_clamp (by omega), arrV_read _ _ hj]
theorem z_ild (S : CallFix p m c cc nL s args WA own) (hH : ZH loc N cC nf iS fv cA ln cv H) (i : Nat) (hi : i < N) (hA : ArrOfT s (cA i) .int) {j : Nat} (hj : j < ln i) (hn : ln i < 2 ^ 31) {v : Value} (hv : cv i j = v) (hdg : decode cc pc = .ok (.iaload, 1))
    (kk : W p l e R s m args below meth c H locs cells slots Q (F0 m (pc + 1) ls (v :: rest))) : W p l e R s m args below meth c H locs cells slots Q (F0 m pc ls (.int (nI j) :: .ref (loc (i + 1)) :: rest)) :=
  W.iald (v := v) S.1 S.2.1 (hH.2 i hi) (hA _ _) (fun q => by cases q) (z_in (i := i) hj hn) (by rw [z_rd hj hn, hv]) rfl rfl hdg kk
theorem z_lld (S : CallFix p m c cc nL s args WA own) (hH : ZH loc N cC nf iS fv cA ln cv H) (i : Nat) (hi : i < N) (hA : ArrOfT s (cA i) .long) {j : Nat} (hj : j < ln i) (hn : ln i < 2 ^ 31) {v : Value} (hv : cv i j = v) (hdg : decode cc pc = .ok (.laload, 1))
    (kk : W p l e R s m args below meth c H locs cells slots Q (F0 m (pc + 1) ls (v :: rest))) : W p l e R s m args below meth c H locs cells slots Q (F0 m pc ls (.int (nI j) :: .ref (loc (i + 1)) :: rest)) :=
  W.lald (v := v) S.1 S.2.1 (hH.2 i hi) (hA _ _) (fun q => by cases q) (z_in (i := i) hj hn) (by rw [z_rd hj hn, hv]) rfl rfl hdg kk
theorem z_zld (S : CallFix p m c cc nL s args WA own) (hH : ZH loc N cC nf iS fv cA ln cv H) (i : Nat) (hi : i < N) (hA : ArrOfT s (cA i) .boolean) {j : Nat} (hj : j < ln i) (hn : ln i < 2 ^ 31) {v : Value} (hv : cv i j = v) (hdg : decode cc pc = .ok (.baload, 1))
    (kk : W p l e R s m args below meth c H locs cells slots Q (F0 m (pc + 1) ls (v :: rest))) : W p l e R s m args below meth c H locs cells slots Q (F0 m pc ls (.int (nI j) :: .ref (loc (i + 1)) :: rest)) :=
  W.zald (v := v) S.1 S.2.1 (hH.2 i hi) (hA _ _) (fun q => by cases q) (z_in (i := i) hj hn) (by rw [z_rd hj hn, hv]) rfl rfl hdg kk
theorem z_ald (S : CallFix p m c cc nL s args WA own) (hH : ZH loc N cC nf iS fv cA ln cv H) (i : Nat) (hi : i < N) {ty : FieldType} (hty : ty.isReference = true) (hA : ArrOfT s (cA i) ty) {j : Nat} (hj : j < ln i) (hn : ln i < 2 ^ 31) {v : Value} (hv : cv i j = v) (hdg : decode cc pc = .ok (.aaload, 1))
    (kk : W p l e R s m args below meth c H locs cells slots Q (F0 m (pc + 1) ls (v :: rest))) : W p l e R s m args below meth c H locs cells slots Q (F0 m pc ls (.int (nI j) :: .ref (loc (i + 1)) :: rest)) :=
  W.aald (v := v) S.1 S.2.1 (hH.2 i hi) (hA _ _) hty (fun q => by cases q) (z_in (i := i) hj hn) (by rw [z_rd hj hn, hv]) rfl rfl hdg kk
theorem z_ist (S : CallFix p m c cc nL s args WA own) (hJ : ZJ loc N) (hH : ZH loc N cC nf iS fv cA ln cv H) (hS0 : va_S (ZA loc N) s.heap H locs) (i : Nat) (hi : i < N) (hA : ArrOfT s (cA i) .int) {j : Nat} (hj : j < ln i) (hn : ln i < 2 ^ 31) {x : Int32} (hdg : decode cc pc = .ok (.iastore, 1))
    (kk : ∀ (H1 : Heap) (locs1 : List Loc), ZH loc N cC nf iS fv cA ln (up2 cv i j (.int x)) H1 → va_S (ZA loc N) s.heap H1 locs1 → W p l e R s m args below meth c H1 locs1 cells slots Q (F0 m (pc + 1) ls rest)) : W p l e R s m args below meth c H locs cells slots Q (F0 m pc ls (.int x :: .int (nI j) :: .ref (loc (i + 1)) :: rest)) := by
  refine W.iast S.1 S.2.1 (hH.2 i hi) (hA _ _) (fun q => by cases q) (z_in (i := i) hj hn) rfl rfl hdg fun H1 e1 z oq => ?_
  rw [nI_clamp (by omega)] at e1
  exact kk H1 _ (hH.st hJ hi e1 oq) (hS0.put z oq ⟨i + 1, by omega, rfl⟩)
theorem z_lst (S : CallFix p m c cc nL s args WA own) (hJ : ZJ loc N) (hH : ZH loc N cC nf iS fv cA ln cv H) (hS0 : va_S (ZA loc N) s.heap H locs) (i : Nat) (hi : i < N) (hA : ArrOfT s (cA i) .long) {j : Nat} (hj : j < ln i) (hn : ln i < 2 ^ 31) {x : Int64} (hdg : decode cc pc = .ok (.lastore, 1))
    (kk : ∀ (H1 : Heap) (locs1 : List Loc), ZH loc N cC nf iS fv cA ln (up2 cv i j (.long x)) H1 → va_S (ZA loc N) s.heap H1 locs1 → W p l e R s m args below meth c H1 locs1 cells slots Q (F0 m (pc + 1) ls rest)) : W p l e R s m args below meth c H locs cells slots Q (F0 m pc ls (.long x :: .int (nI j) :: .ref (loc (i + 1)) :: rest)) := by
  refine W.last S.1 S.2.1 (hH.2 i hi) (hA _ _) (fun q => by cases q) (z_in (i := i) hj hn) rfl rfl hdg fun H1 e1 z oq => ?_
  rw [nI_clamp (by omega)] at e1
  exact kk H1 _ (hH.st hJ hi e1 oq) (hS0.put z oq ⟨i + 1, by omega, rfl⟩)
def bI (b : Bool) : Int32 := if b then 1 else 0
theorem bI_nar (b : Bool) : narrow .boolean (.int (bI b)) = .int (bI b) := by cases b <;> rfl
theorem bI_0 {b : Bool} : bI b = 0 ↔ b = false := by cases b <;> simp [bI]
theorem bI_n0 {b : Bool} : ¬ bI b = 0 ↔ b = true := by cases b <;> simp [bI]
theorem z_zst (S : CallFix p m c cc nL s args WA own) (hJ : ZJ loc N) (hH : ZH loc N cC nf iS fv cA ln cv H) (hS0 : va_S (ZA loc N) s.heap H locs) (i : Nat) (hi : i < N) (hA : ArrOfT s (cA i) .boolean) {j : Nat} (hj : j < ln i) (hn : ln i < 2 ^ 31) {b : Bool} {x : Int32} (hxb : x = bI b) (hdg : decode cc pc = .ok (.bastore, 1))
    (kk : ∀ (H1 : Heap) (locs1 : List Loc), ZH loc N cC nf iS fv cA ln (up2 cv i j (.int (bI b))) H1 → va_S (ZA loc N) s.heap H1 locs1 → W p l e R s m args below meth c H1 locs1 cells slots Q (F0 m (pc + 1) ls rest)) : W p l e R s m args below meth c H locs cells slots Q (F0 m pc ls (.int x :: .int (nI j) :: .ref (loc (i + 1)) :: rest)) := by
  subst hxb
  refine W.zast S.1 S.2.1 (hH.2 i hi) (hA _ _) (fun q => by cases q) (z_in (i := i) hj hn) rfl rfl hdg fun H1 e1 z oq => ?_
  rw [nI_clamp (by omega), bI_nar] at e1
  exact kk H1 _ (hH.st hJ hi e1 oq) (hS0.put z oq ⟨i + 1, by omega, rfl⟩)
end ZW
