section LL
variable {p : Program} {l : Launch} {e : Env} {R : Room} {s : State} {m : MethodId} {below : List Frame} {meth : Method} {c : Code} {H : Heap} {locs : List Loc} {cells slots : Nat} {Q : State → Prop} {args : Array Value} {cc : ByteArray} {nL : Nat}
variable {pc : Nat} {ls : Array Slot} {rest : List Value} {loc locm : Nat → Nat} {n : Nat} {g gm : Gc} {ao : Nat} {S0 : RS} {o : Int64} {M0 : MS} {b L : Nat} {xs : Nat → Int32}
theorem lx_ld (S : CallFix p m c cc nL s args WA RL) (hX : va_X b L xs s s.heap) (hbl : b < s.heap.size) (hL : LH loc n g ao locm gm S0 o M0 s H locs) {j : Nat} (hj : j < L) (hL31 : L ≤ 2561) (hdg : decode cc pc = .ok (.iaload, 1)) (kk : W p l e R s m args below meth c H locs cells slots Q (F0 m (pc + 1) ls (.int (xs j) :: rest))) : W p l e R s m args below meth c H locs cells slots Q (F0 m pc ls (.int (nI j) :: .ref b :: rest)) :=
  va_sld S.1 S.2.1 hX hbl (fun q => absurd hbl (Nat.not_lt.mpr q)) hL.2.2 (nI_in hj (by omega)) hdg (by rw [nI_clamp (by omega)]; exact kk)
theorem lo_ld (S : CallFix p m c cc nL s args WA RL) (hE : LC loc g ao locm gm s) (hL : LH loc n g ao locm gm S0 o M0 s H locs) (hdg : decode cc pc = .ok (.laload, 1)) (kk : W p l e R s m args below meth c H locs cells slots Q (F0 m (pc + 1) ls (.long o :: rest))) : W p l e R s m args below meth c H locs cells slots Q (F0 m pc ls (.int (nI 0) :: .ref ao :: rest)) :=
  W.lald (v := .long o) S.1 S.2.1 hL.1.2 (hE.1.1.2.2.2.1 _ _) (fun q => by cases q) (z_in (i := 0) (show 0 < 1 by decide) (show 1 < 2 ^ 31 by decide)) (by rw [z_rd (show 0 < 1 by decide) (show 1 < 2 ^ 31 by decide)]) rfl rfl hdg kk
end LL
theorem hpu_set {n : Nat} {S : RS} {M : MS} {R t q : Nat} {x a b : Int32} (hn : n ≤ 40) (hs : SmR n S M R t q) : wC M n R x a b = 0 → pM (sT (sI M 0 (wC M n R x a b)) (ixN a) (ixN b)) (ixN x) (ixN a) (ixN b) = false → puOk (sI M 0 (wC M n R x a b)) n (ixN x) (ixN a) (ixN b) := fun h0 hp => by
  have a1 := hs.1.1
  obtain ⟨h1, h2, h3⟩ := wC_0 h0
  obtain ⟨r, hr, rfl⟩ := inI_t (by omega) h1
  obtain ⟨a', ha, rfl⟩ := inI_t (by omega) h2
  obtain ⟨b', hb, rfl⟩ := inI_t (by omega) h3
  have hf : M.2.1 1 r < nI 10 := by
    refine Classical.byContradiction fun hf => ?_
    unfold wC at h0
    rw [if_neg (by rw [h1, h2, h3]; decide), ixN_nI (by omega), if_pos hf] at h0
    exact n2 h0
  rw [ixN_nI (by omega), ixN_nI (by omega), ixN_nI (by omega)] at *
  exact (SmR_set hn (SmR_code (wC M n R (nI r) (nI a') (nI b')) hs) hr ha hb hf).1 hp
theorem lg_same (x : Int64) : lg_cmp x x = 0 := by unfold lg_cmp; simp
