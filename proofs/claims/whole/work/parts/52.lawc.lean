section LS
variable {p : Program} {l : Launch} {e : Env} {R : Room} {s : State} {m : MethodId} {below : List Frame} {meth : Method} {c : Code} {H : Heap} {locs : List Loc} {cells slots : Nat} {Q : State → Prop}
variable {ls : Array Slot} {loc locm : Nat → Nat} {n : Nat} {g gm : Gc} {ao : Nat} {S0 : RS} {o : Int64} {M0 : MS} {b L i : Nat} {xs : Nat → Int32}
theorem hw_kind : HW 93 yL_kind cL_kind 5 (some .int) [(0, 10, 13, 13), (0, 10, 17, 15)] 4 := ⟨⟨w_431, w_432, w_420, w_338⟩, by decide +kernel⟩
set_option maxHeartbeats 4000000 in
theorem lw_kind (S : CallFix p m c cL_law 7 s #[.ref b] WA RL) (hs0 : l.stackTraces = false) (hn : n ≤ 40) (hX : va_X b L xs s s.heap) (hbl : b < s.heap.size) (hE : LC loc g ao locm gm s) (hRm : 20 ≤ R.frames ∧ 5000 ≤ R.locals) (hf0 : cells + 8 ≤ R.cells ∧ slots + 48 ≤ R.slots) (hi : i + 5 ≤ L) (hL31 : L ≤ 2561) (hSim : Sim n S0 M0) (hL : LH loc n g ao locm gm S0 o M0 s H locs) (hl : lv_has ls 7 [(4, .int (nI i)), (0, .ref b), (1, .ref (loc 0)), (2, .ref (locm 0)), (3, .ref ao)]) (kk : ∀ (S1 : RS) (o1 : Int64) (M1 : MS) (H1 : Heap) (locs1 : List Loc) (ls1 : Array Slot), Sim n S1 M1 → LH loc n g ao locm gm S1 o1 M1 s H1 locs1 → lv_has ls1 7 [(4, .int (nI i)), (0, .ref b), (1, .ref (loc 0)), (2, .ref (locm 0)), (3, .ref ao)] → W p l e R s m #[.ref b] below meth c H1 locs1 (cells + 8) (slots + 48) Q (F0 m 1475 ls1 [])) : W p l e R s m #[.ref b] below meth c H locs cells slots Q (F0 m 153 ls []) := by
  have hf := hf0
  obtain ⟨R0, t, q, hs⟩ := hSim
  have hR12 := hs.1.1
  have htR := hs.1.2.1
  have hq2 := hs.1.2.2.1
  have hrel := hs.1.2.2.2.1
  have hrm := hs.1.2.2.2.2.1
  have ht := hs.1.2.2.2.2.2.1
  have hpc := hs.1.2.2.2.2.2.2.1
  have hpm := hs.1.2.2.2.2.2.2.2
  have ht12 : t ≤ 12 := by omega
  have hw := wfR_of hR12 hs.2.2.2.1 hs.2.2.1
  have hwm := wfM_of hR12 hs.2.2.2.1
  refine lv_aload_n S.1 S.2.1 dL_law_153 rfl (lv_at hl 2 rfl) ?_
  refine lv_aload_n S.1 S.2.1 dL_law_154 rfl (lv_at hl 1 rfl) ?_
  refine lv_iload S.1 S.2.1 dL_law_155 (lv_at hl 0 rfl) ?_
  refine lv_iconst (v := nI 1) S.1 S.2.1 dL_law_157 rfl ?_
  refine t_iadd S.1 S.2.1 dL_law_158 (nI_add _ _) ?_
  refine lx_ld S hX hbl hL (show i + 1 < L by omega) hL31 dL_law_159 ?_
  refine lv_aload_n S.1 S.2.1 dL_law_160 rfl (lv_at hl 1 rfl) ?_
  refine lv_iload S.1 S.2.1 dL_law_161 (lv_at hl 0 rfl) ?_
  refine lv_iconst (v := nI 2) S.1 S.2.1 dL_law_163 rfl ?_
  refine t_iadd S.1 S.2.1 dL_law_164 (nI_add _ _) ?_
  refine lx_ld S hX hbl hL (show i + 2 < L by omega) hL31 dL_law_165 ?_
  refine lv_aload_n S.1 S.2.1 dL_law_166 rfl (lv_at hl 4 rfl) ?_
  refine lh_call (As := [.ref (loc 0), .int (xs (i + 1)), .int (xs (i + 2)), .ref ao]) S hE hL (c_L_kind l hs0 hn _ _) hw_kind ⟨by omega, by omega⟩ rfl hl.1 rfl (Nat.le_of_ble_eq_true rfl) dL_law_167 hf (fun kq u H locs hp hL => ?_)
  refine lv_istore S.1 S.2.1 dL_law_170 hl (by decide) rfl (fun ls hl => ?_)
  refine lv_aload_n S.1 S.2.1 dL_law_172 rfl (lv_at hl 4 rfl) ?_
  refine lv_aload_n S.1 S.2.1 dL_law_173 rfl (lv_at hl 2 rfl) ?_
  refine lv_iload S.1 S.2.1 dL_law_174 (lv_at hl 1 rfl) ?_
  refine lv_iconst (v := nI 1) S.1 S.2.1 dL_law_176 rfl ?_
  refine t_iadd S.1 S.2.1 dL_law_177 (nI_add _ _) ?_
  refine lx_ld S hX hbl hL (show i + 1 < L by omega) hL31 dL_law_178 ?_
  refine lv_aload_n S.1 S.2.1 dL_law_179 rfl (lv_at hl 2 rfl) ?_
  refine lv_iload S.1 S.2.1 dL_law_180 (lv_at hl 1 rfl) ?_
  refine lv_iconst (v := nI 2) S.1 S.2.1 dL_law_182 rfl ?_
  refine t_iadd S.1 S.2.1 dL_law_183 (nI_add _ _) ?_
  refine lx_ld S hX hbl hL (show i + 2 < L by omega) hL31 dL_law_184 ?_
  refine lm_call (As := [.int (xs (i + 1)), .int (xs (i + 2))]) S hE hL (c_X1_kind l hn _ _) ⟨rfl, rfl⟩ rfl cw_RL_X1_kind ⟨by show 3 + 1 ≤ _; omega, by show _ + 40 * 3 ≤ _; omega⟩ rfl hl.1 rfl (Nat.le_of_ble_eq_true rfl) dL_law_185 hf (fun v M1 H locs hq hL => ?_)
  obtain ⟨o1, o2, o3⟩ := op_kind hn ⟨_, _, _, hs⟩ hp hq
  refine lv_istore S.1 S.2.1 dL_law_188 hl (by decide) rfl (fun ls hl => ?_)
  refine lv_aload_n S.1 S.2.1 dL_law_190 rfl (lv_at hl 5 rfl) ?_
  refine lm_call (As := []) S hE hL (c_X1_thrown l hn) ⟨rfl, rfl⟩ rfl cw_RL_X1_thrown ⟨by show 1 + 1 ≤ _; omega, by show _ + 40 * 1 ≤ _; omega⟩ rfl hl.1 rfl (Nat.le_of_ble_eq_true rfl) dL_law_191 hf (fun w M2 H locs hz hL2 => ?_)
  obtain ⟨hz1, rfl⟩ := hz
  rw [hz1] at hL2
  have hl : lv_has ls 7 [(6, .int v), (5, .int kq), (4, .int (nI i)), (0, .ref b), (1, .ref (loc 0)), (2, .ref (locm 0)), (3, .ref ao)] := hl
  refine lv_iload S.1 S.2.1 dL_law_194 (lv_at hl 1 rfl) ?_
  refine lv_icmp_eq (tgt := 201) S.1 S.2.1 dL_law_196 (by decide) (fun _ => ?_) (fun hne => absurd o1 hne)
  refine lv_iload S.1 S.2.1 dL_law_201 (lv_at hl 1 rfl) ?_
  refine lv_if_ne (tgt := 218) S.1 S.2.1 dL_law_203 (by decide) (fun _ => ?_) (fun h0 => ?_)
  · skip
    refine lv_goto (tgt := 1475) S.1 S.2.1 dL_law_218 (by decide) ?_
    exact kk u.1 u.2 _ H locs ls o3 hL2 (lv_sub hl [2, 3, 4, 5, 6] rfl)
  · skip
    have ho := o2 (h0.trans nI_0.symm)
    refine lv_aload_n S.1 S.2.1 dL_law_206 rfl (lv_at hl 6 rfl) ?_
    refine lv_iconst (v := nI 0) S.1 S.2.1 dL_law_207 rfl ?_
    refine lo_ld S hE hL2 dL_law_208 ?_
    refine lv_iload S.1 S.2.1 dL_law_209 (lv_at hl 0 rfl) ?_
    refine lv_i2l S.1 S.2.1 dL_law_211 rfl ?_
    rw [ho]
    refine W.lcmp S.1 S.2.1 dL_law_212 ?_
    rw [lg_same]
    refine lv_if_eq (tgt := 218) S.1 S.2.1 dL_law_213 (by decide) (fun _ => ?_) (fun hne => absurd rfl hne)
    refine lv_goto (tgt := 1475) S.1 S.2.1 dL_law_218 (by decide) ?_
    exact kk u.1 u.2 _ H locs ls o3 hL2 (lv_sub hl [2, 3, 4, 5, 6] rfl)
theorem hw_relation : HW 100 yL_relation cL_relation 6 (some .int) [(0, 12, 15, 13), (0, 12, 19, 15)] 5 := ⟨⟨w_439, w_440, w_420, w_347⟩, by decide +kernel⟩
set_option maxHeartbeats 4000000 in
theorem lw_relation (S : CallFix p m c cL_law 7 s #[.ref b] WA RL) (hs0 : l.stackTraces = false) (hn : n ≤ 40) (hX : va_X b L xs s s.heap) (hbl : b < s.heap.size) (hE : LC loc g ao locm gm s) (hRm : 20 ≤ R.frames ∧ 5000 ≤ R.locals) (hf0 : cells + 8 ≤ R.cells ∧ slots + 48 ≤ R.slots) (hi : i + 5 ≤ L) (hL31 : L ≤ 2561) (hSim : Sim n S0 M0) (hL : LH loc n g ao locm gm S0 o M0 s H locs) (hl : lv_has ls 7 [(4, .int (nI i)), (0, .ref b), (1, .ref (loc 0)), (2, .ref (locm 0)), (3, .ref ao)]) (kk : ∀ (S1 : RS) (o1 : Int64) (M1 : MS) (H1 : Heap) (locs1 : List Loc) (ls1 : Array Slot), Sim n S1 M1 → LH loc n g ao locm gm S1 o1 M1 s H1 locs1 → lv_has ls1 7 [(4, .int (nI i)), (0, .ref b), (1, .ref (loc 0)), (2, .ref (locm 0)), (3, .ref ao)] → W p l e R s m #[.ref b] below meth c H1 locs1 (cells + 8) (slots + 48) Q (F0 m 1475 ls1 [])) : W p l e R s m #[.ref b] below meth c H locs cells slots Q (F0 m 221 ls []) := by
  have hf := hf0
  obtain ⟨R0, t, q, hs⟩ := hSim
  have hR12 := hs.1.1
  have htR := hs.1.2.1
  have hq2 := hs.1.2.2.1
  have hrel := hs.1.2.2.2.1
  have hrm := hs.1.2.2.2.2.1
  have ht := hs.1.2.2.2.2.2.1
  have hpc := hs.1.2.2.2.2.2.2.1
  have hpm := hs.1.2.2.2.2.2.2.2
  have ht12 : t ≤ 12 := by omega
  have hw := wfR_of hR12 hs.2.2.2.1 hs.2.2.1
  have hwm := wfM_of hR12 hs.2.2.2.1
  refine lv_aload_n S.1 S.2.1 dL_law_221 rfl (lv_at hl 2 rfl) ?_
  refine lv_aload_n S.1 S.2.1 dL_law_222 rfl (lv_at hl 1 rfl) ?_
  refine lv_iload S.1 S.2.1 dL_law_223 (lv_at hl 0 rfl) ?_
  refine lv_iconst (v := nI 1) S.1 S.2.1 dL_law_225 rfl ?_
  refine t_iadd S.1 S.2.1 dL_law_226 (nI_add _ _) ?_
  refine lx_ld S hX hbl hL (show i + 1 < L by omega) hL31 dL_law_227 ?_
  refine lv_aload_n S.1 S.2.1 dL_law_228 rfl (lv_at hl 1 rfl) ?_
  refine lv_iload S.1 S.2.1 dL_law_229 (lv_at hl 0 rfl) ?_
  refine lv_iconst (v := nI 2) S.1 S.2.1 dL_law_231 rfl ?_
  refine t_iadd S.1 S.2.1 dL_law_232 (nI_add _ _) ?_
  refine lx_ld S hX hbl hL (show i + 2 < L by omega) hL31 dL_law_233 ?_
  refine lv_aload_n S.1 S.2.1 dL_law_234 rfl (lv_at hl 1 rfl) ?_
  refine lv_iload S.1 S.2.1 dL_law_235 (lv_at hl 0 rfl) ?_
  refine lv_iconst (v := nI 3) S.1 S.2.1 dL_law_237 rfl ?_
  refine t_iadd S.1 S.2.1 dL_law_238 (nI_add _ _) ?_
  refine lx_ld S hX hbl hL (show i + 3 < L by omega) hL31 dL_law_239 ?_
  refine lv_aload_n S.1 S.2.1 dL_law_240 rfl (lv_at hl 4 rfl) ?_
  refine lh_call (As := [.ref (loc 0), .int (xs (i + 1)), .int (xs (i + 2)), .int (xs (i + 3)), .ref ao]) S hE hL (c_L_relation l hs0 hn hR12 hrel _ _ _) hw_relation ⟨by omega, by omega⟩ rfl hl.1 rfl (Nat.le_of_ble_eq_true rfl) dL_law_241 hf (fun kq u H locs hp hL => ?_)
  refine lv_istore S.1 S.2.1 dL_law_244 hl (by decide) rfl (fun ls hl => ?_)
  refine lv_aload_n S.1 S.2.1 dL_law_246 rfl (lv_at hl 4 rfl) ?_
  refine lv_aload_n S.1 S.2.1 dL_law_247 rfl (lv_at hl 2 rfl) ?_
  refine lv_iload S.1 S.2.1 dL_law_248 (lv_at hl 1 rfl) ?_
  refine lv_iconst (v := nI 1) S.1 S.2.1 dL_law_250 rfl ?_
  refine t_iadd S.1 S.2.1 dL_law_251 (nI_add _ _) ?_
  refine lx_ld S hX hbl hL (show i + 1 < L by omega) hL31 dL_law_252 ?_
  refine lv_aload_n S.1 S.2.1 dL_law_253 rfl (lv_at hl 2 rfl) ?_
  refine lv_iload S.1 S.2.1 dL_law_254 (lv_at hl 1 rfl) ?_
  refine lv_iconst (v := nI 2) S.1 S.2.1 dL_law_256 rfl ?_
  refine t_iadd S.1 S.2.1 dL_law_257 (nI_add _ _) ?_
  refine lx_ld S hX hbl hL (show i + 2 < L by omega) hL31 dL_law_258 ?_
  refine lv_aload_n S.1 S.2.1 dL_law_259 rfl (lv_at hl 2 rfl) ?_
  refine lv_iload S.1 S.2.1 dL_law_260 (lv_at hl 1 rfl) ?_
  refine lv_iconst (v := nI 3) S.1 S.2.1 dL_law_262 rfl ?_
  refine t_iadd S.1 S.2.1 dL_law_263 (nI_add _ _) ?_
  refine lx_ld S hX hbl hL (show i + 3 < L by omega) hL31 dL_law_264 ?_
  refine lm_call (As := [.int (xs (i + 1)), .int (xs (i + 2)), .int (xs (i + 3))]) S hE hL (c_X1_relation l hn hR12 hrm _ _ _) ⟨rfl, rfl⟩ rfl cw_RL_X1_relation ⟨by show 3 + 1 ≤ _; omega, by show _ + 40 * 3 ≤ _; omega⟩ rfl hl.1 rfl (Nat.le_of_ble_eq_true rfl) dL_law_265 hf (fun v M1 H locs hq hL => ?_)
  obtain ⟨o1, o2, o3⟩ := op_relation hn ⟨_, _, _, hs⟩ hrel hR12 hp hq
  refine lv_istore S.1 S.2.1 dL_law_268 hl (by decide) rfl (fun ls hl => ?_)
  refine lv_aload_n S.1 S.2.1 dL_law_270 rfl (lv_at hl 5 rfl) ?_
  refine lm_call (As := []) S hE hL (c_X1_thrown l hn) ⟨rfl, rfl⟩ rfl cw_RL_X1_thrown ⟨by show 1 + 1 ≤ _; omega, by show _ + 40 * 1 ≤ _; omega⟩ rfl hl.1 rfl (Nat.le_of_ble_eq_true rfl) dL_law_271 hf (fun w M2 H locs hz hL2 => ?_)
  obtain ⟨hz1, rfl⟩ := hz
  rw [hz1] at hL2
  have hl : lv_has ls 7 [(6, .int v), (5, .int kq), (4, .int (nI i)), (0, .ref b), (1, .ref (loc 0)), (2, .ref (locm 0)), (3, .ref ao)] := hl
  refine lv_iload S.1 S.2.1 dL_law_274 (lv_at hl 1 rfl) ?_
  refine lv_icmp_eq (tgt := 281) S.1 S.2.1 dL_law_276 (by decide) (fun _ => ?_) (fun hne => absurd o1 hne)
  refine lv_iload S.1 S.2.1 dL_law_281 (lv_at hl 1 rfl) ?_
  refine lv_if_ne (tgt := 298) S.1 S.2.1 dL_law_283 (by decide) (fun _ => ?_) (fun h0 => ?_)
  · skip
    refine lv_goto (tgt := 1475) S.1 S.2.1 dL_law_298 (by decide) ?_
    exact kk u.1 u.2 _ H locs ls o3 hL2 (lv_sub hl [2, 3, 4, 5, 6] rfl)
  · skip
    have ho := o2 (h0.trans nI_0.symm)
    refine lv_aload_n S.1 S.2.1 dL_law_286 rfl (lv_at hl 6 rfl) ?_
    refine lv_iconst (v := nI 0) S.1 S.2.1 dL_law_287 rfl ?_
    refine lo_ld S hE hL2 dL_law_288 ?_
    refine lv_iload S.1 S.2.1 dL_law_289 (lv_at hl 0 rfl) ?_
    refine lv_i2l S.1 S.2.1 dL_law_291 rfl ?_
    rw [ho]
    refine W.lcmp S.1 S.2.1 dL_law_292 ?_
    rw [lg_same]
    refine lv_if_eq (tgt := 298) S.1 S.2.1 dL_law_293 (by decide) (fun _ => ?_) (fun hne => absurd rfl hne)
    refine lv_goto (tgt := 1475) S.1 S.2.1 dL_law_298 (by decide) ?_
    exact kk u.1 u.2 _ H locs ls o3 hL2 (lv_sub hl [2, 3, 4, 5, 6] rfl)
theorem hw_condition : HW 104 yL_condition cL_condition 6 (some .int) [(0, 12, 15, 13), (0, 12, 19, 15)] 5 := ⟨⟨w_444, w_445, w_420, w_351⟩, by decide +kernel⟩
set_option maxHeartbeats 4000000 in
theorem lw_condition (S : CallFix p m c cL_law 7 s #[.ref b] WA RL) (hs0 : l.stackTraces = false) (hn : n ≤ 40) (hX : va_X b L xs s s.heap) (hbl : b < s.heap.size) (hE : LC loc g ao locm gm s) (hRm : 20 ≤ R.frames ∧ 5000 ≤ R.locals) (hf0 : cells + 8 ≤ R.cells ∧ slots + 48 ≤ R.slots) (hi : i + 5 ≤ L) (hL31 : L ≤ 2561) (hSim : Sim n S0 M0) (hL : LH loc n g ao locm gm S0 o M0 s H locs) (hl : lv_has ls 7 [(4, .int (nI i)), (0, .ref b), (1, .ref (loc 0)), (2, .ref (locm 0)), (3, .ref ao)]) (kk : ∀ (S1 : RS) (o1 : Int64) (M1 : MS) (H1 : Heap) (locs1 : List Loc) (ls1 : Array Slot), Sim n S1 M1 → LH loc n g ao locm gm S1 o1 M1 s H1 locs1 → lv_has ls1 7 [(4, .int (nI i)), (0, .ref b), (1, .ref (loc 0)), (2, .ref (locm 0)), (3, .ref ao)] → W p l e R s m #[.ref b] below meth c H1 locs1 (cells + 8) (slots + 48) Q (F0 m 1475 ls1 [])) : W p l e R s m #[.ref b] below meth c H locs cells slots Q (F0 m 301 ls []) := by
  have hf := hf0
  obtain ⟨R0, t, q, hs⟩ := hSim
  have hR12 := hs.1.1
  have htR := hs.1.2.1
  have hq2 := hs.1.2.2.1
  have hrel := hs.1.2.2.2.1
  have hrm := hs.1.2.2.2.2.1
  have ht := hs.1.2.2.2.2.2.1
  have hpc := hs.1.2.2.2.2.2.2.1
  have hpm := hs.1.2.2.2.2.2.2.2
  have ht12 : t ≤ 12 := by omega
  have hw := wfR_of hR12 hs.2.2.2.1 hs.2.2.1
  have hwm := wfM_of hR12 hs.2.2.2.1
  refine lv_aload_n S.1 S.2.1 dL_law_301 rfl (lv_at hl 2 rfl) ?_
  refine lv_aload_n S.1 S.2.1 dL_law_302 rfl (lv_at hl 1 rfl) ?_
  refine lv_iload S.1 S.2.1 dL_law_303 (lv_at hl 0 rfl) ?_
  refine lv_iconst (v := nI 1) S.1 S.2.1 dL_law_305 rfl ?_
  refine t_iadd S.1 S.2.1 dL_law_306 (nI_add _ _) ?_
  refine lx_ld S hX hbl hL (show i + 1 < L by omega) hL31 dL_law_307 ?_
  refine lv_aload_n S.1 S.2.1 dL_law_308 rfl (lv_at hl 1 rfl) ?_
  refine lv_iload S.1 S.2.1 dL_law_309 (lv_at hl 0 rfl) ?_
  refine lv_iconst (v := nI 2) S.1 S.2.1 dL_law_311 rfl ?_
  refine t_iadd S.1 S.2.1 dL_law_312 (nI_add _ _) ?_
  refine lx_ld S hX hbl hL (show i + 2 < L by omega) hL31 dL_law_313 ?_
  refine lv_aload_n S.1 S.2.1 dL_law_314 rfl (lv_at hl 1 rfl) ?_
  refine lv_iload S.1 S.2.1 dL_law_315 (lv_at hl 0 rfl) ?_
  refine lv_iconst (v := nI 3) S.1 S.2.1 dL_law_317 rfl ?_
  refine t_iadd S.1 S.2.1 dL_law_318 (nI_add _ _) ?_
  refine lx_ld S hX hbl hL (show i + 3 < L by omega) hL31 dL_law_319 ?_
  refine lv_aload_n S.1 S.2.1 dL_law_320 rfl (lv_at hl 4 rfl) ?_
  refine lh_call (As := [.ref (loc 0), .int (xs (i + 1)), .int (xs (i + 2)), .int (xs (i + 3)), .ref ao]) S hE hL (c_L_condition l hs0 hn hR12 hrel _ _ _) hw_condition ⟨by omega, by omega⟩ rfl hl.1 rfl (Nat.le_of_ble_eq_true rfl) dL_law_321 hf (fun kq u H locs hp hL => ?_)
  refine lv_istore S.1 S.2.1 dL_law_324 hl (by decide) rfl (fun ls hl => ?_)
  refine lv_aload_n S.1 S.2.1 dL_law_326 rfl (lv_at hl 4 rfl) ?_
  refine lv_aload_n S.1 S.2.1 dL_law_327 rfl (lv_at hl 2 rfl) ?_
  refine lv_iload S.1 S.2.1 dL_law_328 (lv_at hl 1 rfl) ?_
  refine lv_iconst (v := nI 1) S.1 S.2.1 dL_law_330 rfl ?_
  refine t_iadd S.1 S.2.1 dL_law_331 (nI_add _ _) ?_
  refine lx_ld S hX hbl hL (show i + 1 < L by omega) hL31 dL_law_332 ?_
  refine lv_aload_n S.1 S.2.1 dL_law_333 rfl (lv_at hl 2 rfl) ?_
  refine lv_iload S.1 S.2.1 dL_law_334 (lv_at hl 1 rfl) ?_
  refine lv_iconst (v := nI 2) S.1 S.2.1 dL_law_336 rfl ?_
  refine t_iadd S.1 S.2.1 dL_law_337 (nI_add _ _) ?_
  refine lx_ld S hX hbl hL (show i + 2 < L by omega) hL31 dL_law_338 ?_
  refine lv_aload_n S.1 S.2.1 dL_law_339 rfl (lv_at hl 2 rfl) ?_
  refine lv_iload S.1 S.2.1 dL_law_340 (lv_at hl 1 rfl) ?_
  refine lv_iconst (v := nI 3) S.1 S.2.1 dL_law_342 rfl ?_
  refine t_iadd S.1 S.2.1 dL_law_343 (nI_add _ _) ?_
  refine lx_ld S hX hbl hL (show i + 3 < L by omega) hL31 dL_law_344 ?_
  refine lm_call (As := [.int (xs (i + 1)), .int (xs (i + 2)), .int (xs (i + 3))]) S hE hL (c_X1_condition l hn hR12 hrm _ _ _) ⟨rfl, rfl⟩ rfl cw_RL_X1_condition ⟨by show 3 + 1 ≤ _; omega, by show _ + 40 * 3 ≤ _; omega⟩ rfl hl.1 rfl (Nat.le_of_ble_eq_true rfl) dL_law_345 hf (fun v M1 H locs hq hL => ?_)
  obtain ⟨o1, o2, o3⟩ := op_condition hn ⟨_, _, _, hs⟩ hrel hR12 hp hq
  refine lv_istore S.1 S.2.1 dL_law_348 hl (by decide) rfl (fun ls hl => ?_)
  refine lv_aload_n S.1 S.2.1 dL_law_350 rfl (lv_at hl 5 rfl) ?_
  refine lm_call (As := []) S hE hL (c_X1_thrown l hn) ⟨rfl, rfl⟩ rfl cw_RL_X1_thrown ⟨by show 1 + 1 ≤ _; omega, by show _ + 40 * 1 ≤ _; omega⟩ rfl hl.1 rfl (Nat.le_of_ble_eq_true rfl) dL_law_351 hf (fun w M2 H locs hz hL2 => ?_)
  obtain ⟨hz1, rfl⟩ := hz
  rw [hz1] at hL2
  have hl : lv_has ls 7 [(6, .int v), (5, .int kq), (4, .int (nI i)), (0, .ref b), (1, .ref (loc 0)), (2, .ref (locm 0)), (3, .ref ao)] := hl
  refine lv_iload S.1 S.2.1 dL_law_354 (lv_at hl 1 rfl) ?_
  refine lv_icmp_eq (tgt := 361) S.1 S.2.1 dL_law_356 (by decide) (fun _ => ?_) (fun hne => absurd o1 hne)
  refine lv_iload S.1 S.2.1 dL_law_361 (lv_at hl 1 rfl) ?_
  refine lv_if_ne (tgt := 378) S.1 S.2.1 dL_law_363 (by decide) (fun _ => ?_) (fun h0 => ?_)
  · skip
    refine lv_goto (tgt := 1475) S.1 S.2.1 dL_law_378 (by decide) ?_
    exact kk u.1 u.2 _ H locs ls o3 hL2 (lv_sub hl [2, 3, 4, 5, 6] rfl)
  · skip
    have ho := o2 (h0.trans nI_0.symm)
    refine lv_aload_n S.1 S.2.1 dL_law_366 rfl (lv_at hl 6 rfl) ?_
    refine lv_iconst (v := nI 0) S.1 S.2.1 dL_law_367 rfl ?_
    refine lo_ld S hE hL2 dL_law_368 ?_
    refine lv_iload S.1 S.2.1 dL_law_369 (lv_at hl 0 rfl) ?_
    refine lv_i2l S.1 S.2.1 dL_law_371 rfl ?_
    rw [ho]
    refine W.lcmp S.1 S.2.1 dL_law_372 ?_
    rw [lg_same]
    refine lv_if_eq (tgt := 378) S.1 S.2.1 dL_law_373 (by decide) (fun _ => ?_) (fun hne => absurd rfl hne)
    refine lv_goto (tgt := 1475) S.1 S.2.1 dL_law_378 (by decide) ?_
    exact kk u.1 u.2 _ H locs ls o3 hL2 (lv_sub hl [2, 3, 4, 5, 6] rfl)
theorem hw_set : HW 107 yL_set cL_set 6 (some .int) [(0, 12, 15, 13), (0, 12, 19, 15)] 5 := ⟨⟨w_449, w_450, w_420, w_355⟩, by decide +kernel⟩
set_option maxHeartbeats 4000000 in
theorem lw_set (S : CallFix p m c cL_law 7 s #[.ref b] WA RL) (hs0 : l.stackTraces = false) (hn : n ≤ 40) (hX : va_X b L xs s s.heap) (hbl : b < s.heap.size) (hE : LC loc g ao locm gm s) (hRm : 20 ≤ R.frames ∧ 5000 ≤ R.locals) (hf0 : cells + 8 ≤ R.cells ∧ slots + 48 ≤ R.slots) (hi : i + 5 ≤ L) (hL31 : L ≤ 2561) (hSim : Sim n S0 M0) (hL : LH loc n g ao locm gm S0 o M0 s H locs) (hl : lv_has ls 7 [(4, .int (nI i)), (0, .ref b), (1, .ref (loc 0)), (2, .ref (locm 0)), (3, .ref ao)]) (kk : ∀ (S1 : RS) (o1 : Int64) (M1 : MS) (H1 : Heap) (locs1 : List Loc) (ls1 : Array Slot), Sim n S1 M1 → LH loc n g ao locm gm S1 o1 M1 s H1 locs1 → lv_has ls1 7 [(4, .int (nI i)), (0, .ref b), (1, .ref (loc 0)), (2, .ref (locm 0)), (3, .ref ao)] → W p l e R s m #[.ref b] below meth c H1 locs1 (cells + 8) (slots + 48) Q (F0 m 1475 ls1 [])) : W p l e R s m #[.ref b] below meth c H locs cells slots Q (F0 m 381 ls []) := by
  have hf := hf0
  obtain ⟨R0, t, q, hs⟩ := hSim
  have hR12 := hs.1.1
  have htR := hs.1.2.1
  have hq2 := hs.1.2.2.1
  have hrel := hs.1.2.2.2.1
  have hrm := hs.1.2.2.2.2.1
  have ht := hs.1.2.2.2.2.2.1
  have hpc := hs.1.2.2.2.2.2.2.1
  have hpm := hs.1.2.2.2.2.2.2.2
  have ht12 : t ≤ 12 := by omega
  have hw := wfR_of hR12 hs.2.2.2.1 hs.2.2.1
  have hwm := wfM_of hR12 hs.2.2.2.1
  refine lv_aload_n S.1 S.2.1 dL_law_381 rfl (lv_at hl 2 rfl) ?_
  refine lv_aload_n S.1 S.2.1 dL_law_382 rfl (lv_at hl 1 rfl) ?_
  refine lv_iload S.1 S.2.1 dL_law_383 (lv_at hl 0 rfl) ?_
  refine lv_iconst (v := nI 1) S.1 S.2.1 dL_law_385 rfl ?_
  refine t_iadd S.1 S.2.1 dL_law_386 (nI_add _ _) ?_
  refine lx_ld S hX hbl hL (show i + 1 < L by omega) hL31 dL_law_387 ?_
  refine lv_aload_n S.1 S.2.1 dL_law_388 rfl (lv_at hl 1 rfl) ?_
  refine lv_iload S.1 S.2.1 dL_law_389 (lv_at hl 0 rfl) ?_
  refine lv_iconst (v := nI 2) S.1 S.2.1 dL_law_391 rfl ?_
  refine t_iadd S.1 S.2.1 dL_law_392 (nI_add _ _) ?_
  refine lx_ld S hX hbl hL (show i + 2 < L by omega) hL31 dL_law_393 ?_
  refine lv_aload_n S.1 S.2.1 dL_law_394 rfl (lv_at hl 1 rfl) ?_
  refine lv_iload S.1 S.2.1 dL_law_395 (lv_at hl 0 rfl) ?_
  refine lv_iconst (v := nI 3) S.1 S.2.1 dL_law_397 rfl ?_
  refine t_iadd S.1 S.2.1 dL_law_398 (nI_add _ _) ?_
  refine lx_ld S hX hbl hL (show i + 3 < L by omega) hL31 dL_law_399 ?_
  refine lv_aload_n S.1 S.2.1 dL_law_400 rfl (lv_at hl 4 rfl) ?_
  refine lh_call (As := [.ref (loc 0), .int (xs (i + 1)), .int (xs (i + 2)), .int (xs (i + 3)), .ref ao]) S hE hL (c_L_set l hs0 hn hR12 hrel ht12 ht _ _ _) hw_set ⟨by omega, by omega⟩ rfl hl.1 rfl (Nat.le_of_ble_eq_true rfl) dL_law_401 hf (fun kq u H locs hp hL => ?_)
  refine lv_istore S.1 S.2.1 dL_law_404 hl (by decide) rfl (fun ls hl => ?_)
  refine lv_aload_n S.1 S.2.1 dL_law_406 rfl (lv_at hl 4 rfl) ?_
  refine lv_aload_n S.1 S.2.1 dL_law_407 rfl (lv_at hl 2 rfl) ?_
  refine lv_iload S.1 S.2.1 dL_law_408 (lv_at hl 1 rfl) ?_
  refine lv_iconst (v := nI 1) S.1 S.2.1 dL_law_410 rfl ?_
  refine t_iadd S.1 S.2.1 dL_law_411 (nI_add _ _) ?_
  refine lx_ld S hX hbl hL (show i + 1 < L by omega) hL31 dL_law_412 ?_
  refine lv_aload_n S.1 S.2.1 dL_law_413 rfl (lv_at hl 2 rfl) ?_
  refine lv_iload S.1 S.2.1 dL_law_414 (lv_at hl 1 rfl) ?_
  refine lv_iconst (v := nI 2) S.1 S.2.1 dL_law_416 rfl ?_
  refine t_iadd S.1 S.2.1 dL_law_417 (nI_add _ _) ?_
  refine lx_ld S hX hbl hL (show i + 2 < L by omega) hL31 dL_law_418 ?_
  refine lv_aload_n S.1 S.2.1 dL_law_419 rfl (lv_at hl 2 rfl) ?_
  refine lv_iload S.1 S.2.1 dL_law_420 (lv_at hl 1 rfl) ?_
  refine lv_iconst (v := nI 3) S.1 S.2.1 dL_law_422 rfl ?_
  refine t_iadd S.1 S.2.1 dL_law_423 (nI_add _ _) ?_
  refine lx_ld S hX hbl hL (show i + 3 < L by omega) hL31 dL_law_424 ?_
  refine lm_call (As := [.int (xs (i + 1)), .int (xs (i + 2)), .int (xs (i + 3))]) S hE hL (c_X1_set l hn hR12 hrm _ _ _ (hpu_set hn hs)) ⟨rfl, rfl⟩ rfl cw_RL_X1_set ⟨by show 6 + 1 ≤ _; omega, by show _ + 40 * 6 ≤ _; omega⟩ rfl hl.1 rfl (Nat.le_of_ble_eq_true rfl) dL_law_425 hf (fun v M1 H locs hq hL => ?_)
  obtain ⟨o1, o2, o3⟩ := op_set hn hs hp hq (fun c r a b _ _ _ => (setM_0 _ _ _ _ _).trans sI_at)
  refine lv_istore S.1 S.2.1 dL_law_428 hl (by decide) rfl (fun ls hl => ?_)
  refine lv_aload_n S.1 S.2.1 dL_law_430 rfl (lv_at hl 5 rfl) ?_
  refine lm_call (As := []) S hE hL (c_X1_thrown l hn) ⟨rfl, rfl⟩ rfl cw_RL_X1_thrown ⟨by show 1 + 1 ≤ _; omega, by show _ + 40 * 1 ≤ _; omega⟩ rfl hl.1 rfl (Nat.le_of_ble_eq_true rfl) dL_law_431 hf (fun w M2 H locs hz hL2 => ?_)
  obtain ⟨hz1, rfl⟩ := hz
  rw [hz1] at hL2
  have hl : lv_has ls 7 [(6, .int v), (5, .int kq), (4, .int (nI i)), (0, .ref b), (1, .ref (loc 0)), (2, .ref (locm 0)), (3, .ref ao)] := hl
  refine lv_iload S.1 S.2.1 dL_law_434 (lv_at hl 1 rfl) ?_
  refine lv_icmp_eq (tgt := 441) S.1 S.2.1 dL_law_436 (by decide) (fun _ => ?_) (fun hne => absurd o1 hne)
  refine lv_iload S.1 S.2.1 dL_law_441 (lv_at hl 1 rfl) ?_
  refine lv_if_ne (tgt := 458) S.1 S.2.1 dL_law_443 (by decide) (fun _ => ?_) (fun h0 => ?_)
  · skip
    refine lv_goto (tgt := 1475) S.1 S.2.1 dL_law_458 (by decide) ?_
    exact kk u.1 u.2 _ H locs ls o3 hL2 (lv_sub hl [2, 3, 4, 5, 6] rfl)
  · skip
    have ho := o2 (h0.trans nI_0.symm)
    refine lv_aload_n S.1 S.2.1 dL_law_446 rfl (lv_at hl 6 rfl) ?_
    refine lv_iconst (v := nI 0) S.1 S.2.1 dL_law_447 rfl ?_
    refine lo_ld S hE hL2 dL_law_448 ?_
    refine lv_iload S.1 S.2.1 dL_law_449 (lv_at hl 0 rfl) ?_
    refine lv_i2l S.1 S.2.1 dL_law_451 rfl ?_
    rw [ho]
    refine W.lcmp S.1 S.2.1 dL_law_452 ?_
    rw [lg_same]
    refine lv_if_eq (tgt := 458) S.1 S.2.1 dL_law_453 (by decide) (fun _ => ?_) (fun hne => absurd rfl hne)
    refine lv_goto (tgt := 1475) S.1 S.2.1 dL_law_458 (by decide) ?_
    exact kk u.1 u.2 _ H locs ls o3 hL2 (lv_sub hl [2, 3, 4, 5, 6] rfl)
theorem hw_drop : HW 110 yL_drop cL_drop 6 (some .int) [(0, 19, 22, 13), (0, 19, 26, 15)] 5 := ⟨⟨w_454, w_455, w_420, w_359⟩, by decide +kernel⟩
set_option maxHeartbeats 4000000 in
theorem lw_drop (S : CallFix p m c cL_law 7 s #[.ref b] WA RL) (hs0 : l.stackTraces = false) (hn : n ≤ 40) (hX : va_X b L xs s s.heap) (hbl : b < s.heap.size) (hE : LC loc g ao locm gm s) (hRm : 20 ≤ R.frames ∧ 5000 ≤ R.locals) (hf0 : cells + 8 ≤ R.cells ∧ slots + 48 ≤ R.slots) (hi : i + 5 ≤ L) (hL31 : L ≤ 2561) (hSim : Sim n S0 M0) (hL : LH loc n g ao locm gm S0 o M0 s H locs) (hl : lv_has ls 7 [(4, .int (nI i)), (0, .ref b), (1, .ref (loc 0)), (2, .ref (locm 0)), (3, .ref ao)]) (kk : ∀ (S1 : RS) (o1 : Int64) (M1 : MS) (H1 : Heap) (locs1 : List Loc) (ls1 : Array Slot), Sim n S1 M1 → LH loc n g ao locm gm S1 o1 M1 s H1 locs1 → lv_has ls1 7 [(4, .int (nI i)), (0, .ref b), (1, .ref (loc 0)), (2, .ref (locm 0)), (3, .ref ao)] → W p l e R s m #[.ref b] below meth c H1 locs1 (cells + 8) (slots + 48) Q (F0 m 1475 ls1 [])) : W p l e R s m #[.ref b] below meth c H locs cells slots Q (F0 m 461 ls []) := by
  have hf := hf0
  obtain ⟨R0, t, q, hs⟩ := hSim
  have hR12 := hs.1.1
  have htR := hs.1.2.1
  have hq2 := hs.1.2.2.1
  have hrel := hs.1.2.2.2.1
  have hrm := hs.1.2.2.2.2.1
  have ht := hs.1.2.2.2.2.2.1
  have hpc := hs.1.2.2.2.2.2.2.1
  have hpm := hs.1.2.2.2.2.2.2.2
  have ht12 : t ≤ 12 := by omega
  have hw := wfR_of hR12 hs.2.2.2.1 hs.2.2.1
  have hwm := wfM_of hR12 hs.2.2.2.1
  refine lv_aload_n S.1 S.2.1 dL_law_461 rfl (lv_at hl 2 rfl) ?_
  refine lv_aload_n S.1 S.2.1 dL_law_462 rfl (lv_at hl 1 rfl) ?_
  refine lv_iload S.1 S.2.1 dL_law_463 (lv_at hl 0 rfl) ?_
  refine lv_iconst (v := nI 1) S.1 S.2.1 dL_law_465 rfl ?_
  refine t_iadd S.1 S.2.1 dL_law_466 (nI_add _ _) ?_
  refine lx_ld S hX hbl hL (show i + 1 < L by omega) hL31 dL_law_467 ?_
  refine lv_aload_n S.1 S.2.1 dL_law_468 rfl (lv_at hl 1 rfl) ?_
  refine lv_iload S.1 S.2.1 dL_law_469 (lv_at hl 0 rfl) ?_
  refine lv_iconst (v := nI 2) S.1 S.2.1 dL_law_471 rfl ?_
  refine t_iadd S.1 S.2.1 dL_law_472 (nI_add _ _) ?_
  refine lx_ld S hX hbl hL (show i + 2 < L by omega) hL31 dL_law_473 ?_
  refine lv_aload_n S.1 S.2.1 dL_law_474 rfl (lv_at hl 1 rfl) ?_
  refine lv_iload S.1 S.2.1 dL_law_475 (lv_at hl 0 rfl) ?_
  refine lv_iconst (v := nI 3) S.1 S.2.1 dL_law_477 rfl ?_
  refine t_iadd S.1 S.2.1 dL_law_478 (nI_add _ _) ?_
  refine lx_ld S hX hbl hL (show i + 3 < L by omega) hL31 dL_law_479 ?_
  refine lv_aload_n S.1 S.2.1 dL_law_480 rfl (lv_at hl 4 rfl) ?_
  refine lh_call (As := [.ref (loc 0), .int (xs (i + 1)), .int (xs (i + 2)), .int (xs (i + 3)), .ref ao]) S hE hL (c_L_drop l hs0 hn hR12 hrel ht12 ht _ _ _) hw_drop ⟨by omega, by omega⟩ rfl hl.1 rfl (Nat.le_of_ble_eq_true rfl) dL_law_481 hf (fun kq u H locs hp hL => ?_)
  refine lv_istore S.1 S.2.1 dL_law_484 hl (by decide) rfl (fun ls hl => ?_)
  refine lv_aload_n S.1 S.2.1 dL_law_486 rfl (lv_at hl 4 rfl) ?_
  refine lv_aload_n S.1 S.2.1 dL_law_487 rfl (lv_at hl 2 rfl) ?_
  refine lv_iload S.1 S.2.1 dL_law_488 (lv_at hl 1 rfl) ?_
  refine lv_iconst (v := nI 1) S.1 S.2.1 dL_law_490 rfl ?_
  refine t_iadd S.1 S.2.1 dL_law_491 (nI_add _ _) ?_
  refine lx_ld S hX hbl hL (show i + 1 < L by omega) hL31 dL_law_492 ?_
  refine lv_aload_n S.1 S.2.1 dL_law_493 rfl (lv_at hl 2 rfl) ?_
  refine lv_iload S.1 S.2.1 dL_law_494 (lv_at hl 1 rfl) ?_
  refine lv_iconst (v := nI 2) S.1 S.2.1 dL_law_496 rfl ?_
  refine t_iadd S.1 S.2.1 dL_law_497 (nI_add _ _) ?_
  refine lx_ld S hX hbl hL (show i + 2 < L by omega) hL31 dL_law_498 ?_
  refine lv_aload_n S.1 S.2.1 dL_law_499 rfl (lv_at hl 2 rfl) ?_
  refine lv_iload S.1 S.2.1 dL_law_500 (lv_at hl 1 rfl) ?_
  refine lv_iconst (v := nI 3) S.1 S.2.1 dL_law_502 rfl ?_
  refine t_iadd S.1 S.2.1 dL_law_503 (nI_add _ _) ?_
  refine lx_ld S hX hbl hL (show i + 3 < L by omega) hL31 dL_law_504 ?_
  refine lm_call (As := [.int (xs (i + 1)), .int (xs (i + 2)), .int (xs (i + 3))]) S hE hL (c_X1_drop l hn hR12 hrm _ _ _) ⟨rfl, rfl⟩ rfl cw_RL_X1_drop ⟨by show 6 + 1 ≤ _; omega, by show _ + 40 * 6 ≤ _; omega⟩ rfl hl.1 rfl (Nat.le_of_ble_eq_true rfl) dL_law_505 hf (fun v M1 H locs hq hL => ?_)
  obtain ⟨o1, o2, o3⟩ := op_drop hn hs hp hq (fun c r a b _ _ _ => (dropM_0 _ _ _ _ _).trans sI_at)
  refine lv_istore S.1 S.2.1 dL_law_508 hl (by decide) rfl (fun ls hl => ?_)
  refine lv_aload_n S.1 S.2.1 dL_law_510 rfl (lv_at hl 5 rfl) ?_
  refine lm_call (As := []) S hE hL (c_X1_thrown l hn) ⟨rfl, rfl⟩ rfl cw_RL_X1_thrown ⟨by show 1 + 1 ≤ _; omega, by show _ + 40 * 1 ≤ _; omega⟩ rfl hl.1 rfl (Nat.le_of_ble_eq_true rfl) dL_law_511 hf (fun w M2 H locs hz hL2 => ?_)
  obtain ⟨hz1, rfl⟩ := hz
  rw [hz1] at hL2
  have hl : lv_has ls 7 [(6, .int v), (5, .int kq), (4, .int (nI i)), (0, .ref b), (1, .ref (loc 0)), (2, .ref (locm 0)), (3, .ref ao)] := hl
  refine lv_iload S.1 S.2.1 dL_law_514 (lv_at hl 1 rfl) ?_
  refine lv_icmp_eq (tgt := 521) S.1 S.2.1 dL_law_516 (by decide) (fun _ => ?_) (fun hne => absurd o1 hne)
  refine lv_iload S.1 S.2.1 dL_law_521 (lv_at hl 1 rfl) ?_
  refine lv_if_ne (tgt := 545) S.1 S.2.1 dL_law_523 (by decide) (fun _ => ?_) (fun h0 => ?_)
  · skip
    refine lv_goto (tgt := 1475) S.1 S.2.1 dL_law_545 (by decide) ?_
    exact kk u.1 u.2 _ H locs ls o3 hL2 (lv_sub hl [2, 3, 4, 5, 6] rfl)
  · skip
    have ho := o2 (h0.trans nI_0.symm)
    refine lv_aload_n S.1 S.2.1 dL_law_526 rfl (lv_at hl 6 rfl) ?_
    refine lv_iconst (v := nI 0) S.1 S.2.1 dL_law_527 rfl ?_
    refine lo_ld S hE hL2 dL_law_528 ?_
    refine lv_iload S.1 S.2.1 dL_law_529 (lv_at hl 0 rfl) ?_
    refine lv_if_eq (tgt := 538) S.1 S.2.1 dL_law_531 (by decide) (fun hv => ?_) (fun hv => ?_)
    · skip
      rw [if_pos hv] at ho
      refine lv_lconst (v := 0) S.1 S.2.1 dL_law_538 rfl ?_
      rw [ho]
      refine W.lcmp S.1 S.2.1 dL_law_539 ?_
      rw [lg_same]
      refine lv_if_eq (tgt := 545) S.1 S.2.1 dL_law_540 (by decide) (fun _ => ?_) (fun hne => absurd rfl hne)
      refine lv_goto (tgt := 1475) S.1 S.2.1 dL_law_545 (by decide) ?_
      exact kk u.1 u.2 _ H locs ls o3 hL2 (lv_sub hl [2, 3, 4, 5, 6] rfl)
    · skip
      rw [if_neg hv] at ho
      refine lv_lconst (v := 1) S.1 S.2.1 dL_law_534 rfl ?_
      refine lv_goto (tgt := 539) S.1 S.2.1 dL_law_535 (by decide) ?_
      rw [ho]
      refine W.lcmp S.1 S.2.1 dL_law_539 ?_
      rw [lg_same]
      refine lv_if_eq (tgt := 545) S.1 S.2.1 dL_law_540 (by decide) (fun _ => ?_) (fun hne => absurd rfl hne)
      refine lv_goto (tgt := 1475) S.1 S.2.1 dL_law_545 (by decide) ?_
      exact kk u.1 u.2 _ H locs ls o3 hL2 (lv_sub hl [2, 3, 4, 5, 6] rfl)
theorem hw_empty : HW 113 yL_empty cL_empty 4 (some .int) [(0, 9, 12, 13), (0, 9, 15, 15)] 3 := ⟨⟨w_459, w_460, w_420, w_363⟩, by decide +kernel⟩
set_option maxHeartbeats 4000000 in
theorem lw_empty (S : CallFix p m c cL_law 7 s #[.ref b] WA RL) (hs0 : l.stackTraces = false) (hn : n ≤ 40) (hX : va_X b L xs s s.heap) (hbl : b < s.heap.size) (hE : LC loc g ao locm gm s) (hRm : 20 ≤ R.frames ∧ 5000 ≤ R.locals) (hf0 : cells + 8 ≤ R.cells ∧ slots + 48 ≤ R.slots) (hi : i + 5 ≤ L) (hL31 : L ≤ 2561) (hSim : Sim n S0 M0) (hL : LH loc n g ao locm gm S0 o M0 s H locs) (hl : lv_has ls 7 [(4, .int (nI i)), (0, .ref b), (1, .ref (loc 0)), (2, .ref (locm 0)), (3, .ref ao)]) (kk : ∀ (S1 : RS) (o1 : Int64) (M1 : MS) (H1 : Heap) (locs1 : List Loc) (ls1 : Array Slot), Sim n S1 M1 → LH loc n g ao locm gm S1 o1 M1 s H1 locs1 → lv_has ls1 7 [(4, .int (nI i)), (0, .ref b), (1, .ref (loc 0)), (2, .ref (locm 0)), (3, .ref ao)] → W p l e R s m #[.ref b] below meth c H1 locs1 (cells + 8) (slots + 48) Q (F0 m 1475 ls1 [])) : W p l e R s m #[.ref b] below meth c H locs cells slots Q (F0 m 548 ls []) := by
  have hf := hf0
  obtain ⟨R0, t, q, hs⟩ := hSim
  have hR12 := hs.1.1
  have htR := hs.1.2.1
  have hq2 := hs.1.2.2.1
  have hrel := hs.1.2.2.2.1
  have hrm := hs.1.2.2.2.2.1
  have ht := hs.1.2.2.2.2.2.1
  have hpc := hs.1.2.2.2.2.2.2.1
  have hpm := hs.1.2.2.2.2.2.2.2
  have ht12 : t ≤ 12 := by omega
  have hw := wfR_of hR12 hs.2.2.2.1 hs.2.2.1
  have hwm := wfM_of hR12 hs.2.2.2.1
  refine lv_aload_n S.1 S.2.1 dL_law_548 rfl (lv_at hl 2 rfl) ?_
  refine lv_aload_n S.1 S.2.1 dL_law_549 rfl (lv_at hl 1 rfl) ?_
  refine lv_iload S.1 S.2.1 dL_law_550 (lv_at hl 0 rfl) ?_
  refine lv_iconst (v := nI 1) S.1 S.2.1 dL_law_552 rfl ?_
  refine t_iadd S.1 S.2.1 dL_law_553 (nI_add _ _) ?_
  refine lx_ld S hX hbl hL (show i + 1 < L by omega) hL31 dL_law_554 ?_
  refine lv_aload_n S.1 S.2.1 dL_law_555 rfl (lv_at hl 4 rfl) ?_
  refine lh_call (As := [.ref (loc 0), .int (xs (i + 1)), .ref ao]) S hE hL (c_L_empty l hs0 hn hR12 hrel ht12 ht _) hw_empty ⟨by omega, by omega⟩ rfl hl.1 rfl (Nat.le_of_ble_eq_true rfl) dL_law_556 hf (fun kq u H locs hp hL => ?_)
  refine lv_istore S.1 S.2.1 dL_law_559 hl (by decide) rfl (fun ls hl => ?_)
  refine lv_aload_n S.1 S.2.1 dL_law_561 rfl (lv_at hl 4 rfl) ?_
  refine lv_aload_n S.1 S.2.1 dL_law_562 rfl (lv_at hl 2 rfl) ?_
  refine lv_iload S.1 S.2.1 dL_law_563 (lv_at hl 1 rfl) ?_
  refine lv_iconst (v := nI 1) S.1 S.2.1 dL_law_565 rfl ?_
  refine t_iadd S.1 S.2.1 dL_law_566 (nI_add _ _) ?_
  refine lx_ld S hX hbl hL (show i + 1 < L by omega) hL31 dL_law_567 ?_
  refine lm_call (As := [.int (xs (i + 1))]) S hE hL (c_X1_empty l hn hR12 hrm _) ⟨rfl, rfl⟩ rfl cw_RL_X1_empty ⟨by show 6 + 1 ≤ _; omega, by show _ + 40 * 6 ≤ _; omega⟩ rfl hl.1 rfl (Nat.le_of_ble_eq_true rfl) dL_law_568 hf (fun v M1 H locs hq hL => ?_)
  obtain ⟨o1, o2, o3⟩ := op_empty hn hs hp hq
  refine lv_istore S.1 S.2.1 dL_law_571 hl (by decide) rfl (fun ls hl => ?_)
  refine lv_aload_n S.1 S.2.1 dL_law_573 rfl (lv_at hl 5 rfl) ?_
  refine lm_call (As := []) S hE hL (c_X1_thrown l hn) ⟨rfl, rfl⟩ rfl cw_RL_X1_thrown ⟨by show 1 + 1 ≤ _; omega, by show _ + 40 * 1 ≤ _; omega⟩ rfl hl.1 rfl (Nat.le_of_ble_eq_true rfl) dL_law_574 hf (fun w M2 H locs hz hL2 => ?_)
  obtain ⟨hz1, rfl⟩ := hz
  rw [hz1] at hL2
  have hl : lv_has ls 7 [(6, .int v), (5, .int kq), (4, .int (nI i)), (0, .ref b), (1, .ref (loc 0)), (2, .ref (locm 0)), (3, .ref ao)] := hl
  refine lv_iload S.1 S.2.1 dL_law_577 (lv_at hl 1 rfl) ?_
  refine lv_icmp_eq (tgt := 584) S.1 S.2.1 dL_law_579 (by decide) (fun _ => ?_) (fun hne => absurd o1 hne)
  refine lv_iload S.1 S.2.1 dL_law_584 (lv_at hl 1 rfl) ?_
  refine lv_if_ne (tgt := 601) S.1 S.2.1 dL_law_586 (by decide) (fun _ => ?_) (fun h0 => ?_)
  · skip
    refine lv_goto (tgt := 1475) S.1 S.2.1 dL_law_601 (by decide) ?_
    exact kk u.1 u.2 _ H locs ls o3 hL2 (lv_sub hl [2, 3, 4, 5, 6] rfl)
  · skip
    have ho := o2 (h0.trans nI_0.symm)
    refine lv_aload_n S.1 S.2.1 dL_law_589 rfl (lv_at hl 6 rfl) ?_
    refine lv_iconst (v := nI 0) S.1 S.2.1 dL_law_590 rfl ?_
    refine lo_ld S hE hL2 dL_law_591 ?_
    refine lv_iload S.1 S.2.1 dL_law_592 (lv_at hl 0 rfl) ?_
    refine lv_i2l S.1 S.2.1 dL_law_594 rfl ?_
    rw [ho]
    refine W.lcmp S.1 S.2.1 dL_law_595 ?_
    rw [lg_same]
    refine lv_if_eq (tgt := 601) S.1 S.2.1 dL_law_596 (by decide) (fun _ => ?_) (fun hne => absurd rfl hne)
    refine lv_goto (tgt := 1475) S.1 S.2.1 dL_law_601 (by decide) ?_
    exact kk u.1 u.2 _ H locs ls o3 hL2 (lv_sub hl [2, 3, 4, 5, 6] rfl)
theorem hw_pushed : HW 117 yL_pushed cL_pushed 5 (some .int) [(0, 10, 13, 13), (0, 10, 17, 38)] 4 := ⟨⟨w_464, w_465, w_420, w_364⟩, by decide +kernel⟩
set_option maxHeartbeats 4000000 in
theorem lw_pushed (S : CallFix p m c cL_law 7 s #[.ref b] WA RL) (hs0 : l.stackTraces = false) (hn : n ≤ 40) (hX : va_X b L xs s s.heap) (hbl : b < s.heap.size) (hE : LC loc g ao locm gm s) (hRm : 20 ≤ R.frames ∧ 5000 ≤ R.locals) (hf0 : cells + 8 ≤ R.cells ∧ slots + 48 ≤ R.slots) (hi : i + 5 ≤ L) (hL31 : L ≤ 2561) (hSim : Sim n S0 M0) (hL : LH loc n g ao locm gm S0 o M0 s H locs) (hl : lv_has ls 7 [(4, .int (nI i)), (0, .ref b), (1, .ref (loc 0)), (2, .ref (locm 0)), (3, .ref ao)]) (kk : ∀ (S1 : RS) (o1 : Int64) (M1 : MS) (H1 : Heap) (locs1 : List Loc) (ls1 : Array Slot), Sim n S1 M1 → LH loc n g ao locm gm S1 o1 M1 s H1 locs1 → lv_has ls1 7 [(4, .int (nI i)), (0, .ref b), (1, .ref (loc 0)), (2, .ref (locm 0)), (3, .ref ao)] → W p l e R s m #[.ref b] below meth c H1 locs1 (cells + 8) (slots + 48) Q (F0 m 1475 ls1 [])) : W p l e R s m #[.ref b] below meth c H locs cells slots Q (F0 m 604 ls []) := by
  have hf := hf0
  obtain ⟨R0, t, q, hs⟩ := hSim
  have hR12 := hs.1.1
  have htR := hs.1.2.1
  have hq2 := hs.1.2.2.1
  have hrel := hs.1.2.2.2.1
  have hrm := hs.1.2.2.2.2.1
  have ht := hs.1.2.2.2.2.2.1
  have hpc := hs.1.2.2.2.2.2.2.1
  have hpm := hs.1.2.2.2.2.2.2.2
  have ht12 : t ≤ 12 := by omega
  have hw := wfR_of hR12 hs.2.2.2.1 hs.2.2.1
  have hwm := wfM_of hR12 hs.2.2.2.1
  refine lv_aload_n S.1 S.2.1 dL_law_604 rfl (lv_at hl 2 rfl) ?_
  refine lv_aload_n S.1 S.2.1 dL_law_605 rfl (lv_at hl 1 rfl) ?_
  refine lv_iload S.1 S.2.1 dL_law_606 (lv_at hl 0 rfl) ?_
  refine lv_iconst (v := nI 1) S.1 S.2.1 dL_law_608 rfl ?_
  refine t_iadd S.1 S.2.1 dL_law_609 (nI_add _ _) ?_
  refine lx_ld S hX hbl hL (show i + 1 < L by omega) hL31 dL_law_610 ?_
  refine lv_aload_n S.1 S.2.1 dL_law_611 rfl (lv_at hl 1 rfl) ?_
  refine lv_iload S.1 S.2.1 dL_law_612 (lv_at hl 0 rfl) ?_
  refine lv_iconst (v := nI 2) S.1 S.2.1 dL_law_614 rfl ?_
  refine t_iadd S.1 S.2.1 dL_law_615 (nI_add _ _) ?_
  refine lx_ld S hX hbl hL (show i + 2 < L by omega) hL31 dL_law_616 ?_
  refine lv_aload_n S.1 S.2.1 dL_law_617 rfl (lv_at hl 4 rfl) ?_
  refine lh_call (As := [.ref (loc 0), .int (xs (i + 1)), .int (xs (i + 2)), .ref ao]) S hE hL (c_L_pushed l hs0 hn hq2 hpc _ _) hw_pushed ⟨by omega, by omega⟩ rfl hl.1 rfl (Nat.le_of_ble_eq_true rfl) dL_law_618 hf (fun kq u H locs hp hL => ?_)
  refine lv_istore S.1 S.2.1 dL_law_621 hl (by decide) rfl (fun ls hl => ?_)
  refine lv_aload_n S.1 S.2.1 dL_law_623 rfl (lv_at hl 4 rfl) ?_
  refine lv_aload_n S.1 S.2.1 dL_law_624 rfl (lv_at hl 2 rfl) ?_
  refine lv_iload S.1 S.2.1 dL_law_625 (lv_at hl 1 rfl) ?_
  refine lv_iconst (v := nI 1) S.1 S.2.1 dL_law_627 rfl ?_
  refine t_iadd S.1 S.2.1 dL_law_628 (nI_add _ _) ?_
  refine lx_ld S hX hbl hL (show i + 1 < L by omega) hL31 dL_law_629 ?_
  refine lv_aload_n S.1 S.2.1 dL_law_630 rfl (lv_at hl 2 rfl) ?_
  refine lv_iload S.1 S.2.1 dL_law_631 (lv_at hl 1 rfl) ?_
  refine lv_iconst (v := nI 2) S.1 S.2.1 dL_law_633 rfl ?_
  refine t_iadd S.1 S.2.1 dL_law_634 (nI_add _ _) ?_
  refine lx_ld S hX hbl hL (show i + 2 < L by omega) hL31 dL_law_635 ?_
  refine lm_call (As := [.int (xs (i + 1)), .int (xs (i + 2))]) S hE hL (c_X1_pushed l hn (show q ≤ 4 by omega) hpm _ _) ⟨rfl, rfl⟩ rfl cw_RL_X1_pushed ⟨by show 6 + 1 ≤ _; omega, by show _ + 40 * 6 ≤ _; omega⟩ rfl hl.1 rfl (Nat.le_of_ble_eq_true rfl) dL_law_636 hf (fun v M1 H locs hq hL => ?_)
  obtain ⟨o1, o2, o3⟩ := op_pushed hs hp hq
  refine lv_istore S.1 S.2.1 dL_law_639 hl (by decide) rfl (fun ls hl => ?_)
  refine lv_aload_n S.1 S.2.1 dL_law_641 rfl (lv_at hl 5 rfl) ?_
  refine lm_call (As := []) S hE hL (c_X1_thrown l hn) ⟨rfl, rfl⟩ rfl cw_RL_X1_thrown ⟨by show 1 + 1 ≤ _; omega, by show _ + 40 * 1 ≤ _; omega⟩ rfl hl.1 rfl (Nat.le_of_ble_eq_true rfl) dL_law_642 hf (fun w M2 H locs hz hL2 => ?_)
  obtain ⟨hz1, rfl⟩ := hz
  rw [hz1] at hL2
  have hl : lv_has ls 7 [(6, .int v), (5, .int kq), (4, .int (nI i)), (0, .ref b), (1, .ref (loc 0)), (2, .ref (locm 0)), (3, .ref ao)] := hl
  refine lv_iload S.1 S.2.1 dL_law_645 (lv_at hl 1 rfl) ?_
  refine lv_icmp_eq (tgt := 652) S.1 S.2.1 dL_law_647 (by decide) (fun _ => ?_) (fun hne => absurd o1 hne)
  refine lv_iload S.1 S.2.1 dL_law_652 (lv_at hl 1 rfl) ?_
  refine lv_if_ne (tgt := 669) S.1 S.2.1 dL_law_654 (by decide) (fun _ => ?_) (fun h0 => ?_)
  · skip
    refine lv_goto (tgt := 1475) S.1 S.2.1 dL_law_669 (by decide) ?_
    exact kk u.1 u.2 _ H locs ls o3 hL2 (lv_sub hl [2, 3, 4, 5, 6] rfl)
  · skip
    have ho := o2 (h0.trans nI_0.symm)
    refine lv_aload_n S.1 S.2.1 dL_law_657 rfl (lv_at hl 6 rfl) ?_
    refine lv_iconst (v := nI 0) S.1 S.2.1 dL_law_658 rfl ?_
    refine lo_ld S hE hL2 dL_law_659 ?_
    refine lv_iload S.1 S.2.1 dL_law_660 (lv_at hl 0 rfl) ?_
    refine lv_i2l S.1 S.2.1 dL_law_662 rfl ?_
    rw [ho]
    refine W.lcmp S.1 S.2.1 dL_law_663 ?_
    rw [lg_same]
    refine lv_if_eq (tgt := 669) S.1 S.2.1 dL_law_664 (by decide) (fun _ => ?_) (fun hne => absurd rfl hne)
    refine lv_goto (tgt := 1475) S.1 S.2.1 dL_law_669 (by decide) ?_
    exact kk u.1 u.2 _ H locs ls o3 hL2 (lv_sub hl [2, 3, 4, 5, 6] rfl)
theorem hw_has : HW 120 yL_has cL_has 6 (some .int) [(0, 19, 22, 13)] 5 := ⟨⟨w_469, w_470, w_420, w_372⟩, by decide +kernel⟩
set_option maxHeartbeats 4000000 in
theorem lw_has (S : CallFix p m c cL_law 7 s #[.ref b] WA RL) (hs0 : l.stackTraces = false) (hn : n ≤ 40) (hX : va_X b L xs s s.heap) (hbl : b < s.heap.size) (hE : LC loc g ao locm gm s) (hRm : 20 ≤ R.frames ∧ 5000 ≤ R.locals) (hf0 : cells + 8 ≤ R.cells ∧ slots + 48 ≤ R.slots) (hi : i + 5 ≤ L) (hL31 : L ≤ 2561) (hSim : Sim n S0 M0) (hL : LH loc n g ao locm gm S0 o M0 s H locs) (hl : lv_has ls 7 [(4, .int (nI i)), (0, .ref b), (1, .ref (loc 0)), (2, .ref (locm 0)), (3, .ref ao)]) (kk : ∀ (S1 : RS) (o1 : Int64) (M1 : MS) (H1 : Heap) (locs1 : List Loc) (ls1 : Array Slot), Sim n S1 M1 → LH loc n g ao locm gm S1 o1 M1 s H1 locs1 → lv_has ls1 7 [(4, .int (nI i)), (0, .ref b), (1, .ref (loc 0)), (2, .ref (locm 0)), (3, .ref ao)] → W p l e R s m #[.ref b] below meth c H1 locs1 (cells + 8) (slots + 48) Q (F0 m 1475 ls1 [])) : W p l e R s m #[.ref b] below meth c H locs cells slots Q (F0 m 672 ls []) := by
  have hf := hf0
  obtain ⟨R0, t, q, hs⟩ := hSim
  have hR12 := hs.1.1
  have htR := hs.1.2.1
  have hq2 := hs.1.2.2.1
  have hrel := hs.1.2.2.2.1
  have hrm := hs.1.2.2.2.2.1
  have ht := hs.1.2.2.2.2.2.1
  have hpc := hs.1.2.2.2.2.2.2.1
  have hpm := hs.1.2.2.2.2.2.2.2
  have ht12 : t ≤ 12 := by omega
  have hw := wfR_of hR12 hs.2.2.2.1 hs.2.2.1
  have hwm := wfM_of hR12 hs.2.2.2.1
  refine lv_aload_n S.1 S.2.1 dL_law_672 rfl (lv_at hl 2 rfl) ?_
  refine lv_aload_n S.1 S.2.1 dL_law_673 rfl (lv_at hl 1 rfl) ?_
  refine lv_iload S.1 S.2.1 dL_law_674 (lv_at hl 0 rfl) ?_
  refine lv_iconst (v := nI 1) S.1 S.2.1 dL_law_676 rfl ?_
  refine t_iadd S.1 S.2.1 dL_law_677 (nI_add _ _) ?_
  refine lx_ld S hX hbl hL (show i + 1 < L by omega) hL31 dL_law_678 ?_
  refine lv_aload_n S.1 S.2.1 dL_law_679 rfl (lv_at hl 1 rfl) ?_
  refine lv_iload S.1 S.2.1 dL_law_680 (lv_at hl 0 rfl) ?_
  refine lv_iconst (v := nI 2) S.1 S.2.1 dL_law_682 rfl ?_
  refine t_iadd S.1 S.2.1 dL_law_683 (nI_add _ _) ?_
  refine lx_ld S hX hbl hL (show i + 2 < L by omega) hL31 dL_law_684 ?_
  refine lv_aload_n S.1 S.2.1 dL_law_685 rfl (lv_at hl 1 rfl) ?_
  refine lv_iload S.1 S.2.1 dL_law_686 (lv_at hl 0 rfl) ?_
  refine lv_iconst (v := nI 3) S.1 S.2.1 dL_law_688 rfl ?_
  refine t_iadd S.1 S.2.1 dL_law_689 (nI_add _ _) ?_
  refine lx_ld S hX hbl hL (show i + 3 < L by omega) hL31 dL_law_690 ?_
  refine lv_aload_n S.1 S.2.1 dL_law_691 rfl (lv_at hl 4 rfl) ?_
  refine lh_call (As := [.ref (loc 0), .int (xs (i + 1)), .int (xs (i + 2)), .int (xs (i + 3)), .ref ao]) S hE hL (c_L_has l hs0 hn hR12 hrel ht12 ht hw _ _ _) hw_has ⟨by omega, by omega⟩ rfl hl.1 rfl (Nat.le_of_ble_eq_true rfl) dL_law_692 hf (fun kq u H locs hp hL => ?_)
  refine lv_istore S.1 S.2.1 dL_law_695 hl (by decide) rfl (fun ls hl => ?_)
  refine lv_aload_n S.1 S.2.1 dL_law_697 rfl (lv_at hl 4 rfl) ?_
  refine lv_aload_n S.1 S.2.1 dL_law_698 rfl (lv_at hl 2 rfl) ?_
  refine lv_iload S.1 S.2.1 dL_law_699 (lv_at hl 1 rfl) ?_
  refine lv_iconst (v := nI 1) S.1 S.2.1 dL_law_701 rfl ?_
  refine t_iadd S.1 S.2.1 dL_law_702 (nI_add _ _) ?_
  refine lx_ld S hX hbl hL (show i + 1 < L by omega) hL31 dL_law_703 ?_
  refine lv_aload_n S.1 S.2.1 dL_law_704 rfl (lv_at hl 2 rfl) ?_
  refine lv_iload S.1 S.2.1 dL_law_705 (lv_at hl 1 rfl) ?_
  refine lv_iconst (v := nI 2) S.1 S.2.1 dL_law_707 rfl ?_
  refine t_iadd S.1 S.2.1 dL_law_708 (nI_add _ _) ?_
  refine lx_ld S hX hbl hL (show i + 2 < L by omega) hL31 dL_law_709 ?_
  refine lv_aload_n S.1 S.2.1 dL_law_710 rfl (lv_at hl 2 rfl) ?_
  refine lv_iload S.1 S.2.1 dL_law_711 (lv_at hl 1 rfl) ?_
  refine lv_iconst (v := nI 3) S.1 S.2.1 dL_law_713 rfl ?_
  refine t_iadd S.1 S.2.1 dL_law_714 (nI_add _ _) ?_
  refine lx_ld S hX hbl hL (show i + 3 < L by omega) hL31 dL_law_715 ?_
  refine lm_call (As := [.int (xs (i + 1)), .int (xs (i + 2)), .int (xs (i + 3))]) S hE hL (c_X1_has l hn hR12 hrm hwm _ _ _) ⟨rfl, rfl⟩ rfl cw_RL_X1_has ⟨by show 6 + 1 ≤ _; omega, by show _ + 40 * 6 ≤ _; omega⟩ rfl hl.1 rfl (Nat.le_of_ble_eq_true rfl) dL_law_716 hf (fun v M1 H locs hq hL => ?_)
  obtain ⟨o1, o2, o3⟩ := op_has hn hs hp hq
  refine lv_istore S.1 S.2.1 dL_law_719 hl (by decide) rfl (fun ls hl => ?_)
  refine lv_aload_n S.1 S.2.1 dL_law_721 rfl (lv_at hl 5 rfl) ?_
  refine lm_call (As := []) S hE hL (c_X1_thrown l hn) ⟨rfl, rfl⟩ rfl cw_RL_X1_thrown ⟨by show 1 + 1 ≤ _; omega, by show _ + 40 * 1 ≤ _; omega⟩ rfl hl.1 rfl (Nat.le_of_ble_eq_true rfl) dL_law_722 hf (fun w M2 H locs hz hL2 => ?_)
  obtain ⟨hz1, rfl⟩ := hz
  rw [hz1] at hL2
  have hl : lv_has ls 7 [(6, .int v), (5, .int kq), (4, .int (nI i)), (0, .ref b), (1, .ref (loc 0)), (2, .ref (locm 0)), (3, .ref ao)] := hl
  refine lv_iload S.1 S.2.1 dL_law_725 (lv_at hl 1 rfl) ?_
  refine lv_icmp_eq (tgt := 732) S.1 S.2.1 dL_law_727 (by decide) (fun _ => ?_) (fun hne => absurd o1 hne)
  refine lv_iload S.1 S.2.1 dL_law_732 (lv_at hl 1 rfl) ?_
  refine lv_if_ne (tgt := 756) S.1 S.2.1 dL_law_734 (by decide) (fun _ => ?_) (fun h0 => ?_)
  · skip
    refine lv_goto (tgt := 1475) S.1 S.2.1 dL_law_756 (by decide) ?_
    exact kk u.1 u.2 _ H locs ls o3 hL2 (lv_sub hl [2, 3, 4, 5, 6] rfl)
  · skip
    have ho := o2 (h0.trans nI_0.symm)
    refine lv_aload_n S.1 S.2.1 dL_law_737 rfl (lv_at hl 6 rfl) ?_
    refine lv_iconst (v := nI 0) S.1 S.2.1 dL_law_738 rfl ?_
    refine lo_ld S hE hL2 dL_law_739 ?_
    refine lv_iload S.1 S.2.1 dL_law_740 (lv_at hl 0 rfl) ?_
    refine lv_if_eq (tgt := 749) S.1 S.2.1 dL_law_742 (by decide) (fun hv => ?_) (fun hv => ?_)
    · skip
      rw [if_pos hv] at ho
      refine lv_lconst (v := 0) S.1 S.2.1 dL_law_749 rfl ?_
      rw [ho]
      refine W.lcmp S.1 S.2.1 dL_law_750 ?_
      rw [lg_same]
      refine lv_if_eq (tgt := 756) S.1 S.2.1 dL_law_751 (by decide) (fun _ => ?_) (fun hne => absurd rfl hne)
      refine lv_goto (tgt := 1475) S.1 S.2.1 dL_law_756 (by decide) ?_
      exact kk u.1 u.2 _ H locs ls o3 hL2 (lv_sub hl [2, 3, 4, 5, 6] rfl)
    · skip
      rw [if_neg hv] at ho
      refine lv_lconst (v := 1) S.1 S.2.1 dL_law_745 rfl ?_
      refine lv_goto (tgt := 750) S.1 S.2.1 dL_law_746 (by decide) ?_
      rw [ho]
      refine W.lcmp S.1 S.2.1 dL_law_750 ?_
      rw [lg_same]
      refine lv_if_eq (tgt := 756) S.1 S.2.1 dL_law_751 (by decide) (fun _ => ?_) (fun hne => absurd rfl hne)
      refine lv_goto (tgt := 1475) S.1 S.2.1 dL_law_756 (by decide) ?_
      exact kk u.1 u.2 _ H locs ls o3 hL2 (lv_sub hl [2, 3, 4, 5, 6] rfl)
theorem hw_next : HW 123 yL_next cL_next 6 (some .int) [(0, 12, 15, 13), (0, 12, 19, 38)] 5 := ⟨⟨w_474, w_475, w_420, w_376⟩, by decide +kernel⟩
set_option maxHeartbeats 4000000 in
theorem lw_next (S : CallFix p m c cL_law 7 s #[.ref b] WA RL) (hs0 : l.stackTraces = false) (hn : n ≤ 40) (hX : va_X b L xs s s.heap) (hbl : b < s.heap.size) (hE : LC loc g ao locm gm s) (hRm : 20 ≤ R.frames ∧ 5000 ≤ R.locals) (hf0 : cells + 8 ≤ R.cells ∧ slots + 48 ≤ R.slots) (hi : i + 5 ≤ L) (hL31 : L ≤ 2561) (hSim : Sim n S0 M0) (hL : LH loc n g ao locm gm S0 o M0 s H locs) (hl : lv_has ls 7 [(4, .int (nI i)), (0, .ref b), (1, .ref (loc 0)), (2, .ref (locm 0)), (3, .ref ao)]) (kk : ∀ (S1 : RS) (o1 : Int64) (M1 : MS) (H1 : Heap) (locs1 : List Loc) (ls1 : Array Slot), Sim n S1 M1 → LH loc n g ao locm gm S1 o1 M1 s H1 locs1 → lv_has ls1 7 [(4, .int (nI i)), (0, .ref b), (1, .ref (loc 0)), (2, .ref (locm 0)), (3, .ref ao)] → W p l e R s m #[.ref b] below meth c H1 locs1 (cells + 8) (slots + 48) Q (F0 m 1475 ls1 [])) : W p l e R s m #[.ref b] below meth c H locs cells slots Q (F0 m 759 ls []) := by
  have hf := hf0
  obtain ⟨R0, t, q, hs⟩ := hSim
  have hR12 := hs.1.1
  have htR := hs.1.2.1
  have hq2 := hs.1.2.2.1
  have hrel := hs.1.2.2.2.1
  have hrm := hs.1.2.2.2.2.1
  have ht := hs.1.2.2.2.2.2.1
  have hpc := hs.1.2.2.2.2.2.2.1
  have hpm := hs.1.2.2.2.2.2.2.2
  have ht12 : t ≤ 12 := by omega
  have hw := wfR_of hR12 hs.2.2.2.1 hs.2.2.1
  have hwm := wfM_of hR12 hs.2.2.2.1
  refine lv_aload_n S.1 S.2.1 dL_law_759 rfl (lv_at hl 2 rfl) ?_
  refine lv_aload_n S.1 S.2.1 dL_law_760 rfl (lv_at hl 1 rfl) ?_
  refine lv_iload S.1 S.2.1 dL_law_761 (lv_at hl 0 rfl) ?_
  refine lv_iconst (v := nI 1) S.1 S.2.1 dL_law_763 rfl ?_
  refine t_iadd S.1 S.2.1 dL_law_764 (nI_add _ _) ?_
  refine lx_ld S hX hbl hL (show i + 1 < L by omega) hL31 dL_law_765 ?_
  refine lv_aload_n S.1 S.2.1 dL_law_766 rfl (lv_at hl 1 rfl) ?_
  refine lv_iload S.1 S.2.1 dL_law_767 (lv_at hl 0 rfl) ?_
  refine lv_iconst (v := nI 2) S.1 S.2.1 dL_law_769 rfl ?_
  refine t_iadd S.1 S.2.1 dL_law_770 (nI_add _ _) ?_
  refine lx_ld S hX hbl hL (show i + 2 < L by omega) hL31 dL_law_771 ?_
  refine lv_aload_n S.1 S.2.1 dL_law_772 rfl (lv_at hl 1 rfl) ?_
  refine lv_iload S.1 S.2.1 dL_law_773 (lv_at hl 0 rfl) ?_
  refine lv_iconst (v := nI 3) S.1 S.2.1 dL_law_775 rfl ?_
  refine t_iadd S.1 S.2.1 dL_law_776 (nI_add _ _) ?_
  refine lx_ld S hX hbl hL (show i + 3 < L by omega) hL31 dL_law_777 ?_
  refine lv_aload_n S.1 S.2.1 dL_law_778 rfl (lv_at hl 4 rfl) ?_
  refine lh_call (As := [.ref (loc 0), .int (xs (i + 1)), .int (xs (i + 2)), .int (xs (i + 3)), .ref ao]) S hE hL (c_L_next l hs0 hn hR12 hrel ht12 ht hw _ _ _) hw_next ⟨by omega, by omega⟩ rfl hl.1 rfl (Nat.le_of_ble_eq_true rfl) dL_law_779 hf (fun kq u H locs hp hL => ?_)
  refine lv_istore S.1 S.2.1 dL_law_782 hl (by decide) rfl (fun ls hl => ?_)
  refine lv_aload_n S.1 S.2.1 dL_law_784 rfl (lv_at hl 4 rfl) ?_
  refine lv_aload_n S.1 S.2.1 dL_law_785 rfl (lv_at hl 2 rfl) ?_
  refine lv_iload S.1 S.2.1 dL_law_786 (lv_at hl 1 rfl) ?_
  refine lv_iconst (v := nI 1) S.1 S.2.1 dL_law_788 rfl ?_
  refine t_iadd S.1 S.2.1 dL_law_789 (nI_add _ _) ?_
  refine lx_ld S hX hbl hL (show i + 1 < L by omega) hL31 dL_law_790 ?_
  refine lv_aload_n S.1 S.2.1 dL_law_791 rfl (lv_at hl 2 rfl) ?_
  refine lv_iload S.1 S.2.1 dL_law_792 (lv_at hl 1 rfl) ?_
  refine lv_iconst (v := nI 2) S.1 S.2.1 dL_law_794 rfl ?_
  refine t_iadd S.1 S.2.1 dL_law_795 (nI_add _ _) ?_
  refine lx_ld S hX hbl hL (show i + 2 < L by omega) hL31 dL_law_796 ?_
  refine lv_aload_n S.1 S.2.1 dL_law_797 rfl (lv_at hl 2 rfl) ?_
  refine lv_iload S.1 S.2.1 dL_law_798 (lv_at hl 1 rfl) ?_
  refine lv_iconst (v := nI 3) S.1 S.2.1 dL_law_800 rfl ?_
  refine t_iadd S.1 S.2.1 dL_law_801 (nI_add _ _) ?_
  refine lx_ld S hX hbl hL (show i + 3 < L by omega) hL31 dL_law_802 ?_
  refine lm_call (As := [.int (xs (i + 1)), .int (xs (i + 2)), .int (xs (i + 3))]) S hE hL (c_X1_next l hn hR12 hrm hwm _ _ _) ⟨rfl, rfl⟩ rfl cw_RL_X1_next ⟨by show 8 + 1 ≤ _; omega, by show _ + 40 * 8 ≤ _; omega⟩ rfl hl.1 rfl (Nat.le_of_ble_eq_true rfl) dL_law_803 hf (fun v M1 H locs hq hL => ?_)
  obtain ⟨o1, o2, o3⟩ := op_beside hn hs (fun (P : RS) r a => P.2.2 r a) (row_next hn hs) hp hq
  refine lv_istore S.1 S.2.1 dL_law_806 hl (by decide) rfl (fun ls hl => ?_)
  refine lv_aload_n S.1 S.2.1 dL_law_808 rfl (lv_at hl 5 rfl) ?_
  refine lm_call (As := []) S hE hL (c_X1_thrown l hn) ⟨rfl, rfl⟩ rfl cw_RL_X1_thrown ⟨by show 1 + 1 ≤ _; omega, by show _ + 40 * 1 ≤ _; omega⟩ rfl hl.1 rfl (Nat.le_of_ble_eq_true rfl) dL_law_809 hf (fun w M2 H locs hz hL2 => ?_)
  obtain ⟨hz1, rfl⟩ := hz
  rw [hz1] at hL2
  have hl : lv_has ls 7 [(6, .int v), (5, .int kq), (4, .int (nI i)), (0, .ref b), (1, .ref (loc 0)), (2, .ref (locm 0)), (3, .ref ao)] := hl
  refine lv_iload S.1 S.2.1 dL_law_812 (lv_at hl 1 rfl) ?_
  refine lv_icmp_eq (tgt := 819) S.1 S.2.1 dL_law_814 (by decide) (fun _ => ?_) (fun hne => absurd o1 hne)
  refine lv_iload S.1 S.2.1 dL_law_819 (lv_at hl 1 rfl) ?_
  refine lv_if_ne (tgt := 836) S.1 S.2.1 dL_law_821 (by decide) (fun _ => ?_) (fun h0 => ?_)
  · skip
    refine lv_goto (tgt := 1475) S.1 S.2.1 dL_law_836 (by decide) ?_
    exact kk u.1 u.2 _ H locs ls o3 hL2 (lv_sub hl [2, 3, 4, 5, 6] rfl)
  · skip
    have ho := o2 (h0.trans nI_0.symm)
    refine lv_aload_n S.1 S.2.1 dL_law_824 rfl (lv_at hl 6 rfl) ?_
    refine lv_iconst (v := nI 0) S.1 S.2.1 dL_law_825 rfl ?_
    refine lo_ld S hE hL2 dL_law_826 ?_
    refine lv_iload S.1 S.2.1 dL_law_827 (lv_at hl 0 rfl) ?_
    refine lv_i2l S.1 S.2.1 dL_law_829 rfl ?_
    rw [ho]
    refine W.lcmp S.1 S.2.1 dL_law_830 ?_
    rw [lg_same]
    refine lv_if_eq (tgt := 836) S.1 S.2.1 dL_law_831 (by decide) (fun _ => ?_) (fun hne => absurd rfl hne)
    refine lv_goto (tgt := 1475) S.1 S.2.1 dL_law_836 (by decide) ?_
    exact kk u.1 u.2 _ H locs ls o3 hL2 (lv_sub hl [2, 3, 4, 5, 6] rfl)
theorem hw_back : HW 126 yL_back cL_back 6 (some .int) [(0, 12, 15, 13), (0, 12, 19, 38)] 5 := ⟨⟨w_479, w_480, w_420, w_380⟩, by decide +kernel⟩
set_option maxHeartbeats 4000000 in
theorem lw_back (S : CallFix p m c cL_law 7 s #[.ref b] WA RL) (hs0 : l.stackTraces = false) (hn : n ≤ 40) (hX : va_X b L xs s s.heap) (hbl : b < s.heap.size) (hE : LC loc g ao locm gm s) (hRm : 20 ≤ R.frames ∧ 5000 ≤ R.locals) (hf0 : cells + 8 ≤ R.cells ∧ slots + 48 ≤ R.slots) (hi : i + 5 ≤ L) (hL31 : L ≤ 2561) (hSim : Sim n S0 M0) (hL : LH loc n g ao locm gm S0 o M0 s H locs) (hl : lv_has ls 7 [(4, .int (nI i)), (0, .ref b), (1, .ref (loc 0)), (2, .ref (locm 0)), (3, .ref ao)]) (kk : ∀ (S1 : RS) (o1 : Int64) (M1 : MS) (H1 : Heap) (locs1 : List Loc) (ls1 : Array Slot), Sim n S1 M1 → LH loc n g ao locm gm S1 o1 M1 s H1 locs1 → lv_has ls1 7 [(4, .int (nI i)), (0, .ref b), (1, .ref (loc 0)), (2, .ref (locm 0)), (3, .ref ao)] → W p l e R s m #[.ref b] below meth c H1 locs1 (cells + 8) (slots + 48) Q (F0 m 1475 ls1 [])) : W p l e R s m #[.ref b] below meth c H locs cells slots Q (F0 m 839 ls []) := by
  have hf := hf0
  obtain ⟨R0, t, q, hs⟩ := hSim
  have hR12 := hs.1.1
  have htR := hs.1.2.1
  have hq2 := hs.1.2.2.1
  have hrel := hs.1.2.2.2.1
  have hrm := hs.1.2.2.2.2.1
  have ht := hs.1.2.2.2.2.2.1
  have hpc := hs.1.2.2.2.2.2.2.1
  have hpm := hs.1.2.2.2.2.2.2.2
  have ht12 : t ≤ 12 := by omega
  have hw := wfR_of hR12 hs.2.2.2.1 hs.2.2.1
  have hwm := wfM_of hR12 hs.2.2.2.1
  refine lv_aload_n S.1 S.2.1 dL_law_839 rfl (lv_at hl 2 rfl) ?_
  refine lv_aload_n S.1 S.2.1 dL_law_840 rfl (lv_at hl 1 rfl) ?_
  refine lv_iload S.1 S.2.1 dL_law_841 (lv_at hl 0 rfl) ?_
  refine lv_iconst (v := nI 1) S.1 S.2.1 dL_law_843 rfl ?_
  refine t_iadd S.1 S.2.1 dL_law_844 (nI_add _ _) ?_
  refine lx_ld S hX hbl hL (show i + 1 < L by omega) hL31 dL_law_845 ?_
  refine lv_aload_n S.1 S.2.1 dL_law_846 rfl (lv_at hl 1 rfl) ?_
  refine lv_iload S.1 S.2.1 dL_law_847 (lv_at hl 0 rfl) ?_
  refine lv_iconst (v := nI 2) S.1 S.2.1 dL_law_849 rfl ?_
  refine t_iadd S.1 S.2.1 dL_law_850 (nI_add _ _) ?_
  refine lx_ld S hX hbl hL (show i + 2 < L by omega) hL31 dL_law_851 ?_
  refine lv_aload_n S.1 S.2.1 dL_law_852 rfl (lv_at hl 1 rfl) ?_
  refine lv_iload S.1 S.2.1 dL_law_853 (lv_at hl 0 rfl) ?_
  refine lv_iconst (v := nI 3) S.1 S.2.1 dL_law_855 rfl ?_
  refine t_iadd S.1 S.2.1 dL_law_856 (nI_add _ _) ?_
  refine lx_ld S hX hbl hL (show i + 3 < L by omega) hL31 dL_law_857 ?_
  refine lv_aload_n S.1 S.2.1 dL_law_858 rfl (lv_at hl 4 rfl) ?_
  refine lh_call (As := [.ref (loc 0), .int (xs (i + 1)), .int (xs (i + 2)), .int (xs (i + 3)), .ref ao]) S hE hL (c_L_back l hs0 hn hR12 hrel ht12 ht hw _ _ _) hw_back ⟨by omega, by omega⟩ rfl hl.1 rfl (Nat.le_of_ble_eq_true rfl) dL_law_859 hf (fun kq u H locs hp hL => ?_)
  refine lv_istore S.1 S.2.1 dL_law_862 hl (by decide) rfl (fun ls hl => ?_)
  refine lv_aload_n S.1 S.2.1 dL_law_864 rfl (lv_at hl 4 rfl) ?_
  refine lv_aload_n S.1 S.2.1 dL_law_865 rfl (lv_at hl 2 rfl) ?_
  refine lv_iload S.1 S.2.1 dL_law_866 (lv_at hl 1 rfl) ?_
  refine lv_iconst (v := nI 1) S.1 S.2.1 dL_law_868 rfl ?_
  refine t_iadd S.1 S.2.1 dL_law_869 (nI_add _ _) ?_
  refine lx_ld S hX hbl hL (show i + 1 < L by omega) hL31 dL_law_870 ?_
  refine lv_aload_n S.1 S.2.1 dL_law_871 rfl (lv_at hl 2 rfl) ?_
  refine lv_iload S.1 S.2.1 dL_law_872 (lv_at hl 1 rfl) ?_
  refine lv_iconst (v := nI 2) S.1 S.2.1 dL_law_874 rfl ?_
  refine t_iadd S.1 S.2.1 dL_law_875 (nI_add _ _) ?_
  refine lx_ld S hX hbl hL (show i + 2 < L by omega) hL31 dL_law_876 ?_
  refine lv_aload_n S.1 S.2.1 dL_law_877 rfl (lv_at hl 2 rfl) ?_
  refine lv_iload S.1 S.2.1 dL_law_878 (lv_at hl 1 rfl) ?_
  refine lv_iconst (v := nI 3) S.1 S.2.1 dL_law_880 rfl ?_
  refine t_iadd S.1 S.2.1 dL_law_881 (nI_add _ _) ?_
  refine lx_ld S hX hbl hL (show i + 3 < L by omega) hL31 dL_law_882 ?_
  refine lm_call (As := [.int (xs (i + 1)), .int (xs (i + 2)), .int (xs (i + 3))]) S hE hL (c_X1_back l hn hR12 hrm hwm _ _ _) ⟨rfl, rfl⟩ rfl cw_RL_X1_back ⟨by show 8 + 1 ≤ _; omega, by show _ + 40 * 8 ≤ _; omega⟩ rfl hl.1 rfl (Nat.le_of_ble_eq_true rfl) dL_law_883 hf (fun v M1 H locs hq hL => ?_)
  obtain ⟨o1, o2, o3⟩ := op_beside hn hs (fun (P : RS) r a => colF P r a n) (row_back hn hs) hp hq
  refine lv_istore S.1 S.2.1 dL_law_886 hl (by decide) rfl (fun ls hl => ?_)
  refine lv_aload_n S.1 S.2.1 dL_law_888 rfl (lv_at hl 5 rfl) ?_
  refine lm_call (As := []) S hE hL (c_X1_thrown l hn) ⟨rfl, rfl⟩ rfl cw_RL_X1_thrown ⟨by show 1 + 1 ≤ _; omega, by show _ + 40 * 1 ≤ _; omega⟩ rfl hl.1 rfl (Nat.le_of_ble_eq_true rfl) dL_law_889 hf (fun w M2 H locs hz hL2 => ?_)
  obtain ⟨hz1, rfl⟩ := hz
  rw [hz1] at hL2
  have hl : lv_has ls 7 [(6, .int v), (5, .int kq), (4, .int (nI i)), (0, .ref b), (1, .ref (loc 0)), (2, .ref (locm 0)), (3, .ref ao)] := hl
  refine lv_iload S.1 S.2.1 dL_law_892 (lv_at hl 1 rfl) ?_
  refine lv_icmp_eq (tgt := 899) S.1 S.2.1 dL_law_894 (by decide) (fun _ => ?_) (fun hne => absurd o1 hne)
  refine lv_iload S.1 S.2.1 dL_law_899 (lv_at hl 1 rfl) ?_
  refine lv_if_ne (tgt := 916) S.1 S.2.1 dL_law_901 (by decide) (fun _ => ?_) (fun h0 => ?_)
  · skip
    refine lv_goto (tgt := 1475) S.1 S.2.1 dL_law_916 (by decide) ?_
    exact kk u.1 u.2 _ H locs ls o3 hL2 (lv_sub hl [2, 3, 4, 5, 6] rfl)
  · skip
    have ho := o2 (h0.trans nI_0.symm)
    refine lv_aload_n S.1 S.2.1 dL_law_904 rfl (lv_at hl 6 rfl) ?_
    refine lv_iconst (v := nI 0) S.1 S.2.1 dL_law_905 rfl ?_
    refine lo_ld S hE hL2 dL_law_906 ?_
    refine lv_iload S.1 S.2.1 dL_law_907 (lv_at hl 0 rfl) ?_
    refine lv_i2l S.1 S.2.1 dL_law_909 rfl ?_
    rw [ho]
    refine W.lcmp S.1 S.2.1 dL_law_910 ?_
    rw [lg_same]
    refine lv_if_eq (tgt := 916) S.1 S.2.1 dL_law_911 (by decide) (fun _ => ?_) (fun hne => absurd rfl hne)
    refine lv_goto (tgt := 1475) S.1 S.2.1 dL_law_916 (by decide) ?_
    exact kk u.1 u.2 _ H locs ls o3 hL2 (lv_sub hl [2, 3, 4, 5, 6] rfl)
theorem hw_count : HW 129 yL_count cL_count 4 (some .int) [(0, 9, 12, 13)] 3 := ⟨⟨w_484, w_485, w_420, w_384⟩, by decide +kernel⟩
set_option maxHeartbeats 4000000 in
theorem lw_count (S : CallFix p m c cL_law 7 s #[.ref b] WA RL) (hs0 : l.stackTraces = false) (hn : n ≤ 40) (hX : va_X b L xs s s.heap) (hbl : b < s.heap.size) (hE : LC loc g ao locm gm s) (hRm : 20 ≤ R.frames ∧ 5000 ≤ R.locals) (hf0 : cells + 8 ≤ R.cells ∧ slots + 48 ≤ R.slots) (hi : i + 5 ≤ L) (hL31 : L ≤ 2561) (hSim : Sim n S0 M0) (hL : LH loc n g ao locm gm S0 o M0 s H locs) (hl : lv_has ls 7 [(4, .int (nI i)), (0, .ref b), (1, .ref (loc 0)), (2, .ref (locm 0)), (3, .ref ao)]) (kk : ∀ (S1 : RS) (o1 : Int64) (M1 : MS) (H1 : Heap) (locs1 : List Loc) (ls1 : Array Slot), Sim n S1 M1 → LH loc n g ao locm gm S1 o1 M1 s H1 locs1 → lv_has ls1 7 [(4, .int (nI i)), (0, .ref b), (1, .ref (loc 0)), (2, .ref (locm 0)), (3, .ref ao)] → W p l e R s m #[.ref b] below meth c H1 locs1 (cells + 8) (slots + 48) Q (F0 m 1475 ls1 [])) : W p l e R s m #[.ref b] below meth c H locs cells slots Q (F0 m 919 ls []) := by
  have hf := hf0
  obtain ⟨R0, t, q, hs⟩ := hSim
  have hR12 := hs.1.1
  have htR := hs.1.2.1
  have hq2 := hs.1.2.2.1
  have hrel := hs.1.2.2.2.1
  have hrm := hs.1.2.2.2.2.1
  have ht := hs.1.2.2.2.2.2.1
  have hpc := hs.1.2.2.2.2.2.2.1
  have hpm := hs.1.2.2.2.2.2.2.2
  have ht12 : t ≤ 12 := by omega
  have hw := wfR_of hR12 hs.2.2.2.1 hs.2.2.1
  have hwm := wfM_of hR12 hs.2.2.2.1
  refine lv_aload_n S.1 S.2.1 dL_law_919 rfl (lv_at hl 2 rfl) ?_
  refine lv_aload_n S.1 S.2.1 dL_law_920 rfl (lv_at hl 1 rfl) ?_
  refine lv_iload S.1 S.2.1 dL_law_921 (lv_at hl 0 rfl) ?_
  refine lv_iconst (v := nI 1) S.1 S.2.1 dL_law_923 rfl ?_
  refine t_iadd S.1 S.2.1 dL_law_924 (nI_add _ _) ?_
  refine lx_ld S hX hbl hL (show i + 1 < L by omega) hL31 dL_law_925 ?_
  refine lv_aload_n S.1 S.2.1 dL_law_926 rfl (lv_at hl 4 rfl) ?_
  refine lh_call (As := [.ref (loc 0), .int (xs (i + 1)), .ref ao]) S hE hL (c_L_count l hs0 hn hR12 hrel ht12 ht hw _) hw_count ⟨by omega, by omega⟩ rfl hl.1 rfl (Nat.le_of_ble_eq_true rfl) dL_law_927 hf (fun kq u H locs hp hL => ?_)
  refine lv_istore S.1 S.2.1 dL_law_930 hl (by decide) rfl (fun ls hl => ?_)
  refine lv_aload_n S.1 S.2.1 dL_law_932 rfl (lv_at hl 4 rfl) ?_
  refine lv_aload_n S.1 S.2.1 dL_law_933 rfl (lv_at hl 2 rfl) ?_
  refine lv_iload S.1 S.2.1 dL_law_934 (lv_at hl 1 rfl) ?_
  refine lv_iconst (v := nI 1) S.1 S.2.1 dL_law_936 rfl ?_
  refine t_iadd S.1 S.2.1 dL_law_937 (nI_add _ _) ?_
  refine lx_ld S hX hbl hL (show i + 1 < L by omega) hL31 dL_law_938 ?_
  refine lm_call (As := [.int (xs (i + 1))]) S hE hL (c_X1_count l hn hR12 hrm hwm _) ⟨rfl, rfl⟩ rfl cw_RL_X1_count ⟨by show 6 + 1 ≤ _; omega, by show _ + 40 * 6 ≤ _; omega⟩ rfl hl.1 rfl (Nat.le_of_ble_eq_true rfl) dL_law_939 hf (fun v M1 H locs hq hL => ?_)
  obtain ⟨o1, o2, o3⟩ := op_count hn hs hp hq
  refine lv_istore S.1 S.2.1 dL_law_942 hl (by decide) rfl (fun ls hl => ?_)
  refine lv_aload_n S.1 S.2.1 dL_law_944 rfl (lv_at hl 5 rfl) ?_
  refine lm_call (As := []) S hE hL (c_X1_thrown l hn) ⟨rfl, rfl⟩ rfl cw_RL_X1_thrown ⟨by show 1 + 1 ≤ _; omega, by show _ + 40 * 1 ≤ _; omega⟩ rfl hl.1 rfl (Nat.le_of_ble_eq_true rfl) dL_law_945 hf (fun w M2 H locs hz hL2 => ?_)
  obtain ⟨hz1, rfl⟩ := hz
  rw [hz1] at hL2
  have hl : lv_has ls 7 [(6, .int v), (5, .int kq), (4, .int (nI i)), (0, .ref b), (1, .ref (loc 0)), (2, .ref (locm 0)), (3, .ref ao)] := hl
  refine lv_iload S.1 S.2.1 dL_law_948 (lv_at hl 1 rfl) ?_
  refine lv_icmp_eq (tgt := 955) S.1 S.2.1 dL_law_950 (by decide) (fun _ => ?_) (fun hne => absurd o1 hne)
  refine lv_iload S.1 S.2.1 dL_law_955 (lv_at hl 1 rfl) ?_
  refine lv_if_ne (tgt := 972) S.1 S.2.1 dL_law_957 (by decide) (fun _ => ?_) (fun h0 => ?_)
  · skip
    refine lv_goto (tgt := 1475) S.1 S.2.1 dL_law_972 (by decide) ?_
    exact kk u.1 u.2 _ H locs ls o3 hL2 (lv_sub hl [2, 3, 4, 5, 6] rfl)
  · skip
    have ho := o2 (h0.trans nI_0.symm)
    refine lv_aload_n S.1 S.2.1 dL_law_960 rfl (lv_at hl 6 rfl) ?_
    refine lv_iconst (v := nI 0) S.1 S.2.1 dL_law_961 rfl ?_
    refine lo_ld S hE hL2 dL_law_962 ?_
    refine lv_iload S.1 S.2.1 dL_law_963 (lv_at hl 0 rfl) ?_
    refine lv_i2l S.1 S.2.1 dL_law_965 rfl ?_
    rw [ho]
    refine W.lcmp S.1 S.2.1 dL_law_966 ?_
    rw [lg_same]
    refine lv_if_eq (tgt := 972) S.1 S.2.1 dL_law_967 (by decide) (fun _ => ?_) (fun hne => absurd rfl hne)
    refine lv_goto (tgt := 1475) S.1 S.2.1 dL_law_972 (by decide) ?_
    exact kk u.1 u.2 _ H locs ls o3 hL2 (lv_sub hl [2, 3, 4, 5, 6] rfl)
theorem hw_length : HW 132 yL_length cL_length 6 (some .int) [(0, 12, 15, 13)] 5 := ⟨⟨w_489, w_490, w_420, w_388⟩, by decide +kernel⟩
set_option maxHeartbeats 4000000 in
theorem lw_length (S : CallFix p m c cL_law 7 s #[.ref b] WA RL) (hs0 : l.stackTraces = false) (hn : n ≤ 40) (hX : va_X b L xs s s.heap) (hbl : b < s.heap.size) (hE : LC loc g ao locm gm s) (hRm : 20 ≤ R.frames ∧ 5000 ≤ R.locals) (hf0 : cells + 8 ≤ R.cells ∧ slots + 48 ≤ R.slots) (hi : i + 5 ≤ L) (hL31 : L ≤ 2561) (hSim : Sim n S0 M0) (hL : LH loc n g ao locm gm S0 o M0 s H locs) (hl : lv_has ls 7 [(4, .int (nI i)), (0, .ref b), (1, .ref (loc 0)), (2, .ref (locm 0)), (3, .ref ao)]) (kk : ∀ (S1 : RS) (o1 : Int64) (M1 : MS) (H1 : Heap) (locs1 : List Loc) (ls1 : Array Slot), Sim n S1 M1 → LH loc n g ao locm gm S1 o1 M1 s H1 locs1 → lv_has ls1 7 [(4, .int (nI i)), (0, .ref b), (1, .ref (loc 0)), (2, .ref (locm 0)), (3, .ref ao)] → W p l e R s m #[.ref b] below meth c H1 locs1 (cells + 8) (slots + 48) Q (F0 m 1475 ls1 [])) : W p l e R s m #[.ref b] below meth c H locs cells slots Q (F0 m 975 ls []) := by
  have hf := hf0
  obtain ⟨R0, t, q, hs⟩ := hSim
  have hR12 := hs.1.1
  have htR := hs.1.2.1
  have hq2 := hs.1.2.2.1
  have hrel := hs.1.2.2.2.1
  have hrm := hs.1.2.2.2.2.1
  have ht := hs.1.2.2.2.2.2.1
  have hpc := hs.1.2.2.2.2.2.2.1
  have hpm := hs.1.2.2.2.2.2.2.2
  have ht12 : t ≤ 12 := by omega
  have hw := wfR_of hR12 hs.2.2.2.1 hs.2.2.1
  have hwm := wfM_of hR12 hs.2.2.2.1
  refine lv_aload_n S.1 S.2.1 dL_law_975 rfl (lv_at hl 2 rfl) ?_
  refine lv_aload_n S.1 S.2.1 dL_law_976 rfl (lv_at hl 1 rfl) ?_
  refine lv_iload S.1 S.2.1 dL_law_977 (lv_at hl 0 rfl) ?_
  refine lv_iconst (v := nI 1) S.1 S.2.1 dL_law_979 rfl ?_
  refine t_iadd S.1 S.2.1 dL_law_980 (nI_add _ _) ?_
  refine lx_ld S hX hbl hL (show i + 1 < L by omega) hL31 dL_law_981 ?_
  refine lv_aload_n S.1 S.2.1 dL_law_982 rfl (lv_at hl 1 rfl) ?_
  refine lv_iload S.1 S.2.1 dL_law_983 (lv_at hl 0 rfl) ?_
  refine lv_iconst (v := nI 2) S.1 S.2.1 dL_law_985 rfl ?_
  refine t_iadd S.1 S.2.1 dL_law_986 (nI_add _ _) ?_
  refine lx_ld S hX hbl hL (show i + 2 < L by omega) hL31 dL_law_987 ?_
  refine lv_aload_n S.1 S.2.1 dL_law_988 rfl (lv_at hl 1 rfl) ?_
  refine lv_iload S.1 S.2.1 dL_law_989 (lv_at hl 0 rfl) ?_
  refine lv_iconst (v := nI 3) S.1 S.2.1 dL_law_991 rfl ?_
  refine t_iadd S.1 S.2.1 dL_law_992 (nI_add _ _) ?_
  refine lx_ld S hX hbl hL (show i + 3 < L by omega) hL31 dL_law_993 ?_
  refine lv_aload_n S.1 S.2.1 dL_law_994 rfl (lv_at hl 4 rfl) ?_
  refine lh_call (As := [.ref (loc 0), .int (xs (i + 1)), .int (xs (i + 2)), .int (xs (i + 3)), .ref ao]) S hE hL (c_L_length l hs0 hn hR12 hrel ht12 ht hw _ _ _) hw_length ⟨by omega, by omega⟩ rfl hl.1 rfl (Nat.le_of_ble_eq_true rfl) dL_law_995 hf (fun kq u H locs hp hL => ?_)
  refine lv_istore S.1 S.2.1 dL_law_998 hl (by decide) rfl (fun ls hl => ?_)
  refine lv_aload_n S.1 S.2.1 dL_law_1000 rfl (lv_at hl 4 rfl) ?_
  refine lv_aload_n S.1 S.2.1 dL_law_1001 rfl (lv_at hl 2 rfl) ?_
  refine lv_iload S.1 S.2.1 dL_law_1002 (lv_at hl 1 rfl) ?_
  refine lv_iconst (v := nI 1) S.1 S.2.1 dL_law_1004 rfl ?_
  refine t_iadd S.1 S.2.1 dL_law_1005 (nI_add _ _) ?_
  refine lx_ld S hX hbl hL (show i + 1 < L by omega) hL31 dL_law_1006 ?_
  refine lv_aload_n S.1 S.2.1 dL_law_1007 rfl (lv_at hl 2 rfl) ?_
  refine lv_iload S.1 S.2.1 dL_law_1008 (lv_at hl 1 rfl) ?_
  refine lv_iconst (v := nI 2) S.1 S.2.1 dL_law_1010 rfl ?_
  refine t_iadd S.1 S.2.1 dL_law_1011 (nI_add _ _) ?_
  refine lx_ld S hX hbl hL (show i + 2 < L by omega) hL31 dL_law_1012 ?_
  refine lv_aload_n S.1 S.2.1 dL_law_1013 rfl (lv_at hl 2 rfl) ?_
  refine lv_iload S.1 S.2.1 dL_law_1014 (lv_at hl 1 rfl) ?_
  refine lv_iconst (v := nI 3) S.1 S.2.1 dL_law_1016 rfl ?_
  refine t_iadd S.1 S.2.1 dL_law_1017 (nI_add _ _) ?_
  refine lx_ld S hX hbl hL (show i + 3 < L by omega) hL31 dL_law_1018 ?_
  refine lm_call (As := [.int (xs (i + 1)), .int (xs (i + 2)), .int (xs (i + 3))]) S hE hL (c_X1_length l hn hR12 hrm hwm _ _ _) ⟨rfl, rfl⟩ rfl cw_RL_X1_length ⟨by show 7 + 1 ≤ _; omega, by show _ + 40 * 7 ≤ _; omega⟩ rfl hl.1 rfl (Nat.le_of_ble_eq_true rfl) dL_law_1019 hf (fun v M1 H locs hq hL => ?_)
  obtain ⟨o1, o2, o3⟩ := op_length hn hs hp hq
  refine lv_istore S.1 S.2.1 dL_law_1022 hl (by decide) rfl (fun ls hl => ?_)
  refine lv_aload_n S.1 S.2.1 dL_law_1024 rfl (lv_at hl 5 rfl) ?_
  refine lm_call (As := []) S hE hL (c_X1_thrown l hn) ⟨rfl, rfl⟩ rfl cw_RL_X1_thrown ⟨by show 1 + 1 ≤ _; omega, by show _ + 40 * 1 ≤ _; omega⟩ rfl hl.1 rfl (Nat.le_of_ble_eq_true rfl) dL_law_1025 hf (fun w M2 H locs hz hL2 => ?_)
  obtain ⟨hz1, rfl⟩ := hz
  rw [hz1] at hL2
  have hl : lv_has ls 7 [(6, .int v), (5, .int kq), (4, .int (nI i)), (0, .ref b), (1, .ref (loc 0)), (2, .ref (locm 0)), (3, .ref ao)] := hl
  refine lv_iload S.1 S.2.1 dL_law_1028 (lv_at hl 1 rfl) ?_
  refine lv_icmp_eq (tgt := 1035) S.1 S.2.1 dL_law_1030 (by decide) (fun _ => ?_) (fun hne => absurd o1 hne)
  refine lv_iload S.1 S.2.1 dL_law_1035 (lv_at hl 1 rfl) ?_
  refine lv_if_ne (tgt := 1052) S.1 S.2.1 dL_law_1037 (by decide) (fun _ => ?_) (fun h0 => ?_)
  · skip
    refine lv_goto (tgt := 1475) S.1 S.2.1 dL_law_1052 (by decide) ?_
    exact kk u.1 u.2 _ H locs ls o3 hL2 (lv_sub hl [2, 3, 4, 5, 6] rfl)
  · skip
    have ho := o2 (h0.trans nI_0.symm)
    refine lv_aload_n S.1 S.2.1 dL_law_1040 rfl (lv_at hl 6 rfl) ?_
    refine lv_iconst (v := nI 0) S.1 S.2.1 dL_law_1041 rfl ?_
    refine lo_ld S hE hL2 dL_law_1042 ?_
    refine lv_iload S.1 S.2.1 dL_law_1043 (lv_at hl 0 rfl) ?_
    refine lv_i2l S.1 S.2.1 dL_law_1045 rfl ?_
    rw [ho]
    refine W.lcmp S.1 S.2.1 dL_law_1046 ?_
    rw [lg_same]
    refine lv_if_eq (tgt := 1052) S.1 S.2.1 dL_law_1047 (by decide) (fun _ => ?_) (fun hne => absurd rfl hne)
    refine lv_goto (tgt := 1475) S.1 S.2.1 dL_law_1052 (by decide) ?_
    exact kk u.1 u.2 _ H locs ls o3 hL2 (lv_sub hl [2, 3, 4, 5, 6] rfl)
theorem hw_route : HW 135 yL_route cL_route 7 (some .int) [(0, 14, 17, 13), (0, 14, 21, 38)] 6 := ⟨⟨w_494, w_495, w_420, w_392⟩, by decide +kernel⟩
set_option maxHeartbeats 4000000 in
theorem lw_route (S : CallFix p m c cL_law 7 s #[.ref b] WA RL) (hs0 : l.stackTraces = false) (hn : n ≤ 40) (hX : va_X b L xs s s.heap) (hbl : b < s.heap.size) (hE : LC loc g ao locm gm s) (hRm : 20 ≤ R.frames ∧ 5000 ≤ R.locals) (hf0 : cells + 8 ≤ R.cells ∧ slots + 48 ≤ R.slots) (hi : i + 5 ≤ L) (hL31 : L ≤ 2561) (hSim : Sim n S0 M0) (hL : LH loc n g ao locm gm S0 o M0 s H locs) (hl : lv_has ls 7 [(4, .int (nI i)), (0, .ref b), (1, .ref (loc 0)), (2, .ref (locm 0)), (3, .ref ao)]) (kk : ∀ (S1 : RS) (o1 : Int64) (M1 : MS) (H1 : Heap) (locs1 : List Loc) (ls1 : Array Slot), Sim n S1 M1 → LH loc n g ao locm gm S1 o1 M1 s H1 locs1 → lv_has ls1 7 [(4, .int (nI i)), (0, .ref b), (1, .ref (loc 0)), (2, .ref (locm 0)), (3, .ref ao)] → W p l e R s m #[.ref b] below meth c H1 locs1 (cells + 8) (slots + 48) Q (F0 m 1475 ls1 [])) : W p l e R s m #[.ref b] below meth c H locs cells slots Q (F0 m 1055 ls []) := by
  have hf := hf0
  obtain ⟨R0, t, q, hs⟩ := hSim
  have hR12 := hs.1.1
  have htR := hs.1.2.1
  have hq2 := hs.1.2.2.1
  have hrel := hs.1.2.2.2.1
  have hrm := hs.1.2.2.2.2.1
  have ht := hs.1.2.2.2.2.2.1
  have hpc := hs.1.2.2.2.2.2.2.1
  have hpm := hs.1.2.2.2.2.2.2.2
  have ht12 : t ≤ 12 := by omega
  have hw := wfR_of hR12 hs.2.2.2.1 hs.2.2.1
  have hwm := wfM_of hR12 hs.2.2.2.1
  refine lv_aload_n S.1 S.2.1 dL_law_1055 rfl (lv_at hl 2 rfl) ?_
  refine lv_aload_n S.1 S.2.1 dL_law_1056 rfl (lv_at hl 1 rfl) ?_
  refine lv_iload S.1 S.2.1 dL_law_1057 (lv_at hl 0 rfl) ?_
  refine lv_iconst (v := nI 1) S.1 S.2.1 dL_law_1059 rfl ?_
  refine t_iadd S.1 S.2.1 dL_law_1060 (nI_add _ _) ?_
  refine lx_ld S hX hbl hL (show i + 1 < L by omega) hL31 dL_law_1061 ?_
  refine lv_aload_n S.1 S.2.1 dL_law_1062 rfl (lv_at hl 1 rfl) ?_
  refine lv_iload S.1 S.2.1 dL_law_1063 (lv_at hl 0 rfl) ?_
  refine lv_iconst (v := nI 2) S.1 S.2.1 dL_law_1065 rfl ?_
  refine t_iadd S.1 S.2.1 dL_law_1066 (nI_add _ _) ?_
  refine lx_ld S hX hbl hL (show i + 2 < L by omega) hL31 dL_law_1067 ?_
  refine lv_aload_n S.1 S.2.1 dL_law_1068 rfl (lv_at hl 1 rfl) ?_
  refine lv_iload S.1 S.2.1 dL_law_1069 (lv_at hl 0 rfl) ?_
  refine lv_iconst (v := nI 3) S.1 S.2.1 dL_law_1071 rfl ?_
  refine t_iadd S.1 S.2.1 dL_law_1072 (nI_add _ _) ?_
  refine lx_ld S hX hbl hL (show i + 3 < L by omega) hL31 dL_law_1073 ?_
  refine lv_aload_n S.1 S.2.1 dL_law_1074 rfl (lv_at hl 1 rfl) ?_
  refine lv_iload S.1 S.2.1 dL_law_1075 (lv_at hl 0 rfl) ?_
  refine lv_iconst (v := nI 4) S.1 S.2.1 dL_law_1077 rfl ?_
  refine t_iadd S.1 S.2.1 dL_law_1078 (nI_add _ _) ?_
  refine lx_ld S hX hbl hL (show i + 4 < L by omega) hL31 dL_law_1079 ?_
  refine lv_aload_n S.1 S.2.1 dL_law_1080 rfl (lv_at hl 4 rfl) ?_
  refine lh_call (As := [.ref (loc 0), .int (xs (i + 1)), .int (xs (i + 2)), .int (xs (i + 3)), .int (xs (i + 4)), .ref ao]) S hE hL (c_L_route l hs0 hn hR12 hrel ht12 ht hw _ _ _ _) hw_route ⟨by omega, by omega⟩ rfl hl.1 rfl (Nat.le_of_ble_eq_true rfl) dL_law_1081 hf (fun kq u H locs hp hL => ?_)
  refine lv_istore S.1 S.2.1 dL_law_1084 hl (by decide) rfl (fun ls hl => ?_)
  refine lv_aload_n S.1 S.2.1 dL_law_1086 rfl (lv_at hl 4 rfl) ?_
  refine lv_aload_n S.1 S.2.1 dL_law_1087 rfl (lv_at hl 2 rfl) ?_
  refine lv_iload S.1 S.2.1 dL_law_1088 (lv_at hl 1 rfl) ?_
  refine lv_iconst (v := nI 1) S.1 S.2.1 dL_law_1090 rfl ?_
  refine t_iadd S.1 S.2.1 dL_law_1091 (nI_add _ _) ?_
  refine lx_ld S hX hbl hL (show i + 1 < L by omega) hL31 dL_law_1092 ?_
  refine lv_aload_n S.1 S.2.1 dL_law_1093 rfl (lv_at hl 2 rfl) ?_
  refine lv_iload S.1 S.2.1 dL_law_1094 (lv_at hl 1 rfl) ?_
  refine lv_iconst (v := nI 2) S.1 S.2.1 dL_law_1096 rfl ?_
  refine t_iadd S.1 S.2.1 dL_law_1097 (nI_add _ _) ?_
  refine lx_ld S hX hbl hL (show i + 2 < L by omega) hL31 dL_law_1098 ?_
  refine lv_aload_n S.1 S.2.1 dL_law_1099 rfl (lv_at hl 2 rfl) ?_
  refine lv_iload S.1 S.2.1 dL_law_1100 (lv_at hl 1 rfl) ?_
  refine lv_iconst (v := nI 3) S.1 S.2.1 dL_law_1102 rfl ?_
  refine t_iadd S.1 S.2.1 dL_law_1103 (nI_add _ _) ?_
  refine lx_ld S hX hbl hL (show i + 3 < L by omega) hL31 dL_law_1104 ?_
  refine lv_aload_n S.1 S.2.1 dL_law_1105 rfl (lv_at hl 2 rfl) ?_
  refine lv_iload S.1 S.2.1 dL_law_1106 (lv_at hl 1 rfl) ?_
  refine lv_iconst (v := nI 4) S.1 S.2.1 dL_law_1108 rfl ?_
  refine t_iadd S.1 S.2.1 dL_law_1109 (nI_add _ _) ?_
  refine lx_ld S hX hbl hL (show i + 4 < L by omega) hL31 dL_law_1110 ?_
  refine lm_call (As := [.int (xs (i + 1)), .int (xs (i + 2)), .int (xs (i + 3)), .int (xs (i + 4))]) S hE hL (c_X1_route l hn hR12 hrm hwm _ _ _ _ (hex_route hn hs)) ⟨rfl, rfl⟩ rfl cw_RL_X1_route ⟨by show 7 + 1 ≤ _; omega, by show _ + 40 * 7 ≤ _; omega⟩ rfl hl.1 rfl (Nat.le_of_ble_eq_true rfl) dL_law_1111 hf (fun v M1 H locs hq hL => ?_)
  obtain ⟨o1, o2, o3⟩ := op_route hn hs hp hq
  refine lv_istore S.1 S.2.1 dL_law_1114 hl (by decide) rfl (fun ls hl => ?_)
  refine lv_aload_n S.1 S.2.1 dL_law_1116 rfl (lv_at hl 5 rfl) ?_
  refine lm_call (As := []) S hE hL (c_X1_thrown l hn) ⟨rfl, rfl⟩ rfl cw_RL_X1_thrown ⟨by show 1 + 1 ≤ _; omega, by show _ + 40 * 1 ≤ _; omega⟩ rfl hl.1 rfl (Nat.le_of_ble_eq_true rfl) dL_law_1117 hf (fun w M2 H locs hz hL2 => ?_)
  obtain ⟨hz1, rfl⟩ := hz
  rw [hz1] at hL2
  have hl : lv_has ls 7 [(6, .int v), (5, .int kq), (4, .int (nI i)), (0, .ref b), (1, .ref (loc 0)), (2, .ref (locm 0)), (3, .ref ao)] := hl
  refine lv_iload S.1 S.2.1 dL_law_1120 (lv_at hl 1 rfl) ?_
  refine lv_icmp_eq (tgt := 1127) S.1 S.2.1 dL_law_1122 (by decide) (fun _ => ?_) (fun hne => absurd o1 hne)
  refine lv_iload S.1 S.2.1 dL_law_1127 (lv_at hl 1 rfl) ?_
  refine lv_if_ne (tgt := 1144) S.1 S.2.1 dL_law_1129 (by decide) (fun _ => ?_) (fun h0 => ?_)
  · skip
    refine lv_goto (tgt := 1475) S.1 S.2.1 dL_law_1144 (by decide) ?_
    exact kk u.1 u.2 _ H locs ls o3 hL2 (lv_sub hl [2, 3, 4, 5, 6] rfl)
  · skip
    have ho := o2 (h0.trans nI_0.symm)
    refine lv_aload_n S.1 S.2.1 dL_law_1132 rfl (lv_at hl 6 rfl) ?_
    refine lv_iconst (v := nI 0) S.1 S.2.1 dL_law_1133 rfl ?_
    refine lo_ld S hE hL2 dL_law_1134 ?_
    refine lv_iload S.1 S.2.1 dL_law_1135 (lv_at hl 0 rfl) ?_
    refine lv_i2l S.1 S.2.1 dL_law_1137 rfl ?_
    rw [ho]
    refine W.lcmp S.1 S.2.1 dL_law_1138 ?_
    rw [lg_same]
    refine lv_if_eq (tgt := 1144) S.1 S.2.1 dL_law_1139 (by decide) (fun _ => ?_) (fun hne => absurd rfl hne)
    refine lv_goto (tgt := 1475) S.1 S.2.1 dL_law_1144 (by decide) ?_
    exact kk u.1 u.2 _ H locs ls o3 hL2 (lv_sub hl [2, 3, 4, 5, 6] rfl)
theorem hw_leader : HW 139 yL_leader cL_leader 5 (some .int) [(0, 10, 13, 13), (0, 10, 17, 15)] 4 := ⟨⟨w_499, w_500, w_420, w_396⟩, by decide +kernel⟩
set_option maxHeartbeats 4000000 in
theorem lw_leader (S : CallFix p m c cL_law 7 s #[.ref b] WA RL) (hs0 : l.stackTraces = false) (hn : n ≤ 40) (hX : va_X b L xs s s.heap) (hbl : b < s.heap.size) (hE : LC loc g ao locm gm s) (hRm : 20 ≤ R.frames ∧ 5000 ≤ R.locals) (hf0 : cells + 8 ≤ R.cells ∧ slots + 48 ≤ R.slots) (hi : i + 5 ≤ L) (hL31 : L ≤ 2561) (hSim : Sim n S0 M0) (hL : LH loc n g ao locm gm S0 o M0 s H locs) (hl : lv_has ls 7 [(4, .int (nI i)), (0, .ref b), (1, .ref (loc 0)), (2, .ref (locm 0)), (3, .ref ao)]) (kk : ∀ (S1 : RS) (o1 : Int64) (M1 : MS) (H1 : Heap) (locs1 : List Loc) (ls1 : Array Slot), Sim n S1 M1 → LH loc n g ao locm gm S1 o1 M1 s H1 locs1 → lv_has ls1 7 [(4, .int (nI i)), (0, .ref b), (1, .ref (loc 0)), (2, .ref (locm 0)), (3, .ref ao)] → W p l e R s m #[.ref b] below meth c H1 locs1 (cells + 8) (slots + 48) Q (F0 m 1475 ls1 [])) : W p l e R s m #[.ref b] below meth c H locs cells slots Q (F0 m 1147 ls []) := by
  have hf := hf0
  obtain ⟨R0, t, q, hs⟩ := hSim
  have hR12 := hs.1.1
  have htR := hs.1.2.1
  have hq2 := hs.1.2.2.1
  have hrel := hs.1.2.2.2.1
  have hrm := hs.1.2.2.2.2.1
  have ht := hs.1.2.2.2.2.2.1
  have hpc := hs.1.2.2.2.2.2.2.1
  have hpm := hs.1.2.2.2.2.2.2.2
  have ht12 : t ≤ 12 := by omega
  have hw := wfR_of hR12 hs.2.2.2.1 hs.2.2.1
  have hwm := wfM_of hR12 hs.2.2.2.1
  refine lv_aload_n S.1 S.2.1 dL_law_1147 rfl (lv_at hl 2 rfl) ?_
  refine lv_aload_n S.1 S.2.1 dL_law_1148 rfl (lv_at hl 1 rfl) ?_
  refine lv_iload S.1 S.2.1 dL_law_1149 (lv_at hl 0 rfl) ?_
  refine lv_iconst (v := nI 1) S.1 S.2.1 dL_law_1151 rfl ?_
  refine t_iadd S.1 S.2.1 dL_law_1152 (nI_add _ _) ?_
  refine lx_ld S hX hbl hL (show i + 1 < L by omega) hL31 dL_law_1153 ?_
  refine lv_aload_n S.1 S.2.1 dL_law_1154 rfl (lv_at hl 1 rfl) ?_
  refine lv_iload S.1 S.2.1 dL_law_1155 (lv_at hl 0 rfl) ?_
  refine lv_iconst (v := nI 2) S.1 S.2.1 dL_law_1157 rfl ?_
  refine t_iadd S.1 S.2.1 dL_law_1158 (nI_add _ _) ?_
  refine lx_ld S hX hbl hL (show i + 2 < L by omega) hL31 dL_law_1159 ?_
  refine lv_aload_n S.1 S.2.1 dL_law_1160 rfl (lv_at hl 4 rfl) ?_
  refine lh_call (As := [.ref (loc 0), .int (xs (i + 1)), .int (xs (i + 2)), .ref ao]) S hE hL (c_L_leader l hs0 hn hR12 hrel _ _) hw_leader ⟨by omega, by omega⟩ rfl hl.1 rfl (Nat.le_of_ble_eq_true rfl) dL_law_1161 hf (fun kq u H locs hp hL => ?_)
  refine lv_istore S.1 S.2.1 dL_law_1164 hl (by decide) rfl (fun ls hl => ?_)
  refine lv_aload_n S.1 S.2.1 dL_law_1166 rfl (lv_at hl 4 rfl) ?_
  refine lv_aload_n S.1 S.2.1 dL_law_1167 rfl (lv_at hl 2 rfl) ?_
  refine lv_iload S.1 S.2.1 dL_law_1168 (lv_at hl 1 rfl) ?_
  refine lv_iconst (v := nI 1) S.1 S.2.1 dL_law_1170 rfl ?_
  refine t_iadd S.1 S.2.1 dL_law_1171 (nI_add _ _) ?_
  refine lx_ld S hX hbl hL (show i + 1 < L by omega) hL31 dL_law_1172 ?_
  refine lv_aload_n S.1 S.2.1 dL_law_1173 rfl (lv_at hl 2 rfl) ?_
  refine lv_iload S.1 S.2.1 dL_law_1174 (lv_at hl 1 rfl) ?_
  refine lv_iconst (v := nI 2) S.1 S.2.1 dL_law_1176 rfl ?_
  refine t_iadd S.1 S.2.1 dL_law_1177 (nI_add _ _) ?_
  refine lx_ld S hX hbl hL (show i + 2 < L by omega) hL31 dL_law_1178 ?_
  refine lm_call (As := [.int (xs (i + 1)), .int (xs (i + 2))]) S hE hL (c_X1_leader l hn hR12 hrm hwm _ _) ⟨rfl, rfl⟩ rfl cw_RL_X1_leader ⟨by show 7 + 1 ≤ _; omega, by show _ + 40 * 7 ≤ _; omega⟩ rfl hl.1 rfl (Nat.le_of_ble_eq_true rfl) dL_law_1179 hf (fun v M1 H locs hq hL => ?_)
  obtain ⟨o1, o2, o3⟩ := op_leader hn hs hp hq
  refine lv_istore S.1 S.2.1 dL_law_1182 hl (by decide) rfl (fun ls hl => ?_)
  refine lv_aload_n S.1 S.2.1 dL_law_1184 rfl (lv_at hl 5 rfl) ?_
  refine lm_call (As := []) S hE hL (c_X1_thrown l hn) ⟨rfl, rfl⟩ rfl cw_RL_X1_thrown ⟨by show 1 + 1 ≤ _; omega, by show _ + 40 * 1 ≤ _; omega⟩ rfl hl.1 rfl (Nat.le_of_ble_eq_true rfl) dL_law_1185 hf (fun w M2 H locs hz hL2 => ?_)
  obtain ⟨hz1, rfl⟩ := hz
  rw [hz1] at hL2
  have hl : lv_has ls 7 [(6, .int v), (5, .int kq), (4, .int (nI i)), (0, .ref b), (1, .ref (loc 0)), (2, .ref (locm 0)), (3, .ref ao)] := hl
  refine lv_iload S.1 S.2.1 dL_law_1188 (lv_at hl 1 rfl) ?_
  refine lv_icmp_eq (tgt := 1195) S.1 S.2.1 dL_law_1190 (by decide) (fun _ => ?_) (fun hne => absurd o1 hne)
  refine lv_iload S.1 S.2.1 dL_law_1195 (lv_at hl 1 rfl) ?_
  refine lv_if_ne (tgt := 1212) S.1 S.2.1 dL_law_1197 (by decide) (fun _ => ?_) (fun h0 => ?_)
  · skip
    refine lv_goto (tgt := 1475) S.1 S.2.1 dL_law_1212 (by decide) ?_
    exact kk u.1 u.2 _ H locs ls o3 hL2 (lv_sub hl [2, 3, 4, 5, 6] rfl)
  · skip
    have ho := o2 (h0.trans nI_0.symm)
    refine lv_aload_n S.1 S.2.1 dL_law_1200 rfl (lv_at hl 6 rfl) ?_
    refine lv_iconst (v := nI 0) S.1 S.2.1 dL_law_1201 rfl ?_
    refine lo_ld S hE hL2 dL_law_1202 ?_
    refine lv_iload S.1 S.2.1 dL_law_1203 (lv_at hl 0 rfl) ?_
    refine lv_i2l S.1 S.2.1 dL_law_1205 rfl ?_
    rw [ho]
    refine W.lcmp S.1 S.2.1 dL_law_1206 ?_
    rw [lg_same]
    refine lv_if_eq (tgt := 1212) S.1 S.2.1 dL_law_1207 (by decide) (fun _ => ?_) (fun hne => absurd rfl hne)
    refine lv_goto (tgt := 1475) S.1 S.2.1 dL_law_1212 (by decide) ?_
    exact kk u.1 u.2 _ H locs ls o3 hL2 (lv_sub hl [2, 3, 4, 5, 6] rfl)
theorem hw_differ : HW 142 yL_differ cL_differ 5 (some .int) [(0, 10, 13, 13)] 4 := ⟨⟨w_504, w_505, w_420, w_400⟩, by decide +kernel⟩
set_option maxHeartbeats 4000000 in
theorem lw_differ (S : CallFix p m c cL_law 7 s #[.ref b] WA RL) (hs0 : l.stackTraces = false) (hn : n ≤ 40) (hX : va_X b L xs s s.heap) (hbl : b < s.heap.size) (hE : LC loc g ao locm gm s) (hRm : 20 ≤ R.frames ∧ 5000 ≤ R.locals) (hf0 : cells + 8 ≤ R.cells ∧ slots + 48 ≤ R.slots) (hi : i + 5 ≤ L) (hL31 : L ≤ 2561) (hSim : Sim n S0 M0) (hL : LH loc n g ao locm gm S0 o M0 s H locs) (hl : lv_has ls 7 [(4, .int (nI i)), (0, .ref b), (1, .ref (loc 0)), (2, .ref (locm 0)), (3, .ref ao)]) (kk : ∀ (S1 : RS) (o1 : Int64) (M1 : MS) (H1 : Heap) (locs1 : List Loc) (ls1 : Array Slot), Sim n S1 M1 → LH loc n g ao locm gm S1 o1 M1 s H1 locs1 → lv_has ls1 7 [(4, .int (nI i)), (0, .ref b), (1, .ref (loc 0)), (2, .ref (locm 0)), (3, .ref ao)] → W p l e R s m #[.ref b] below meth c H1 locs1 (cells + 8) (slots + 48) Q (F0 m 1475 ls1 [])) : W p l e R s m #[.ref b] below meth c H locs cells slots Q (F0 m 1215 ls []) := by
  have hf := hf0
  obtain ⟨R0, t, q, hs⟩ := hSim
  have hR12 := hs.1.1
  have htR := hs.1.2.1
  have hq2 := hs.1.2.2.1
  have hrel := hs.1.2.2.2.1
  have hrm := hs.1.2.2.2.2.1
  have ht := hs.1.2.2.2.2.2.1
  have hpc := hs.1.2.2.2.2.2.2.1
  have hpm := hs.1.2.2.2.2.2.2.2
  have ht12 : t ≤ 12 := by omega
  have hw := wfR_of hR12 hs.2.2.2.1 hs.2.2.1
  have hwm := wfM_of hR12 hs.2.2.2.1
  refine lv_aload_n S.1 S.2.1 dL_law_1215 rfl (lv_at hl 2 rfl) ?_
  refine lv_aload_n S.1 S.2.1 dL_law_1216 rfl (lv_at hl 1 rfl) ?_
  refine lv_iload S.1 S.2.1 dL_law_1217 (lv_at hl 0 rfl) ?_
  refine lv_iconst (v := nI 1) S.1 S.2.1 dL_law_1219 rfl ?_
  refine t_iadd S.1 S.2.1 dL_law_1220 (nI_add _ _) ?_
  refine lx_ld S hX hbl hL (show i + 1 < L by omega) hL31 dL_law_1221 ?_
  refine lv_aload_n S.1 S.2.1 dL_law_1222 rfl (lv_at hl 1 rfl) ?_
  refine lv_iload S.1 S.2.1 dL_law_1223 (lv_at hl 0 rfl) ?_
  refine lv_iconst (v := nI 2) S.1 S.2.1 dL_law_1225 rfl ?_
  refine t_iadd S.1 S.2.1 dL_law_1226 (nI_add _ _) ?_
  refine lx_ld S hX hbl hL (show i + 2 < L by omega) hL31 dL_law_1227 ?_
  refine lv_aload_n S.1 S.2.1 dL_law_1228 rfl (lv_at hl 4 rfl) ?_
  refine lh_call (As := [.ref (loc 0), .int (xs (i + 1)), .int (xs (i + 2)), .ref ao]) S hE hL (c_L_differ l hs0 hn hR12 hrel ht12 ht hw _ _) hw_differ ⟨by omega, by omega⟩ rfl hl.1 rfl (Nat.le_of_ble_eq_true rfl) dL_law_1229 hf (fun kq u H locs hp hL => ?_)
  refine lv_istore S.1 S.2.1 dL_law_1232 hl (by decide) rfl (fun ls hl => ?_)
  refine lv_aload_n S.1 S.2.1 dL_law_1234 rfl (lv_at hl 4 rfl) ?_
  refine lv_aload_n S.1 S.2.1 dL_law_1235 rfl (lv_at hl 2 rfl) ?_
  refine lv_iload S.1 S.2.1 dL_law_1236 (lv_at hl 1 rfl) ?_
  refine lv_iconst (v := nI 1) S.1 S.2.1 dL_law_1238 rfl ?_
  refine t_iadd S.1 S.2.1 dL_law_1239 (nI_add _ _) ?_
  refine lx_ld S hX hbl hL (show i + 1 < L by omega) hL31 dL_law_1240 ?_
  refine lv_aload_n S.1 S.2.1 dL_law_1241 rfl (lv_at hl 2 rfl) ?_
  refine lv_iload S.1 S.2.1 dL_law_1242 (lv_at hl 1 rfl) ?_
  refine lv_iconst (v := nI 2) S.1 S.2.1 dL_law_1244 rfl ?_
  refine t_iadd S.1 S.2.1 dL_law_1245 (nI_add _ _) ?_
  refine lx_ld S hX hbl hL (show i + 2 < L by omega) hL31 dL_law_1246 ?_
  refine lm_call (As := [.int (xs (i + 1)), .int (xs (i + 2))]) S hE hL (c_X1_differ l hn hR12 hrm hwm _ _) ⟨rfl, rfl⟩ rfl cw_RL_X1_differ ⟨by show 6 + 1 ≤ _; omega, by show _ + 40 * 6 ≤ _; omega⟩ rfl hl.1 rfl (Nat.le_of_ble_eq_true rfl) dL_law_1247 hf (fun v M1 H locs hq hL => ?_)
  obtain ⟨o1, o2, o3⟩ := op_differ hn hs hp hq
  refine lv_istore S.1 S.2.1 dL_law_1250 hl (by decide) rfl (fun ls hl => ?_)
  refine lv_aload_n S.1 S.2.1 dL_law_1252 rfl (lv_at hl 5 rfl) ?_
  refine lm_call (As := []) S hE hL (c_X1_thrown l hn) ⟨rfl, rfl⟩ rfl cw_RL_X1_thrown ⟨by show 1 + 1 ≤ _; omega, by show _ + 40 * 1 ≤ _; omega⟩ rfl hl.1 rfl (Nat.le_of_ble_eq_true rfl) dL_law_1253 hf (fun w M2 H locs hz hL2 => ?_)
  obtain ⟨hz1, rfl⟩ := hz
  rw [hz1] at hL2
  have hl : lv_has ls 7 [(6, .int v), (5, .int kq), (4, .int (nI i)), (0, .ref b), (1, .ref (loc 0)), (2, .ref (locm 0)), (3, .ref ao)] := hl
  refine lv_iload S.1 S.2.1 dL_law_1256 (lv_at hl 1 rfl) ?_
  refine lv_icmp_eq (tgt := 1263) S.1 S.2.1 dL_law_1258 (by decide) (fun _ => ?_) (fun hne => absurd o1 hne)
  refine lv_iload S.1 S.2.1 dL_law_1263 (lv_at hl 1 rfl) ?_
  refine lv_if_ne (tgt := 1280) S.1 S.2.1 dL_law_1265 (by decide) (fun _ => ?_) (fun h0 => ?_)
  · skip
    refine lv_goto (tgt := 1475) S.1 S.2.1 dL_law_1280 (by decide) ?_
    exact kk u.1 u.2 _ H locs ls o3 hL2 (lv_sub hl [2, 3, 4, 5, 6] rfl)
  · skip
    have ho := o2 (h0.trans nI_0.symm)
    refine lv_aload_n S.1 S.2.1 dL_law_1268 rfl (lv_at hl 6 rfl) ?_
    refine lv_iconst (v := nI 0) S.1 S.2.1 dL_law_1269 rfl ?_
    refine lo_ld S hE hL2 dL_law_1270 ?_
    refine lv_iload S.1 S.2.1 dL_law_1271 (lv_at hl 0 rfl) ?_
    refine lv_i2l S.1 S.2.1 dL_law_1273 rfl ?_
    rw [ho]
    refine W.lcmp S.1 S.2.1 dL_law_1274 ?_
    rw [lg_same]
    refine lv_if_eq (tgt := 1280) S.1 S.2.1 dL_law_1275 (by decide) (fun _ => ?_) (fun hne => absurd rfl hne)
    refine lv_goto (tgt := 1475) S.1 S.2.1 dL_law_1280 (by decide) ?_
    exact kk u.1 u.2 _ H locs ls o3 hL2 (lv_sub hl [2, 3, 4, 5, 6] rfl)
theorem hw_tally : HW 145 yL_tally cL_tally 5 (some .int) [(0, 10, 13, 68)] 4 := ⟨⟨w_509, w_510, w_420, w_401⟩, by decide +kernel⟩
set_option maxHeartbeats 4000000 in
theorem lw_tally (S : CallFix p m c cL_law 7 s #[.ref b] WA RL) (hs0 : l.stackTraces = false) (hn : n ≤ 40) (hX : va_X b L xs s s.heap) (hbl : b < s.heap.size) (hE : LC loc g ao locm gm s) (hRm : 20 ≤ R.frames ∧ 5000 ≤ R.locals) (hf0 : cells + 8 ≤ R.cells ∧ slots + 48 ≤ R.slots) (hi : i + 5 ≤ L) (hL31 : L ≤ 2561) (hSim : Sim n S0 M0) (hL : LH loc n g ao locm gm S0 o M0 s H locs) (hl : lv_has ls 7 [(4, .int (nI i)), (0, .ref b), (1, .ref (loc 0)), (2, .ref (locm 0)), (3, .ref ao)]) (kk : ∀ (S1 : RS) (o1 : Int64) (M1 : MS) (H1 : Heap) (locs1 : List Loc) (ls1 : Array Slot), Sim n S1 M1 → LH loc n g ao locm gm S1 o1 M1 s H1 locs1 → lv_has ls1 7 [(4, .int (nI i)), (0, .ref b), (1, .ref (loc 0)), (2, .ref (locm 0)), (3, .ref ao)] → W p l e R s m #[.ref b] below meth c H1 locs1 (cells + 8) (slots + 48) Q (F0 m 1475 ls1 [])) : W p l e R s m #[.ref b] below meth c H locs cells slots Q (F0 m 1283 ls []) := by
  have hf := hf0
  obtain ⟨R0, t, q, hs⟩ := hSim
  have hR12 := hs.1.1
  have htR := hs.1.2.1
  have hq2 := hs.1.2.2.1
  have hrel := hs.1.2.2.2.1
  have hrm := hs.1.2.2.2.2.1
  have ht := hs.1.2.2.2.2.2.1
  have hpc := hs.1.2.2.2.2.2.2.1
  have hpm := hs.1.2.2.2.2.2.2.2
  have ht12 : t ≤ 12 := by omega
  have hw := wfR_of hR12 hs.2.2.2.1 hs.2.2.1
  have hwm := wfM_of hR12 hs.2.2.2.1
  refine lv_aload_n S.1 S.2.1 dL_law_1283 rfl (lv_at hl 2 rfl) ?_
  refine lv_aload_n S.1 S.2.1 dL_law_1284 rfl (lv_at hl 1 rfl) ?_
  refine lv_iload S.1 S.2.1 dL_law_1285 (lv_at hl 0 rfl) ?_
  refine lv_iconst (v := nI 1) S.1 S.2.1 dL_law_1287 rfl ?_
  refine t_iadd S.1 S.2.1 dL_law_1288 (nI_add _ _) ?_
  refine lx_ld S hX hbl hL (show i + 1 < L by omega) hL31 dL_law_1289 ?_
  refine lv_aload_n S.1 S.2.1 dL_law_1290 rfl (lv_at hl 1 rfl) ?_
  refine lv_iload S.1 S.2.1 dL_law_1291 (lv_at hl 0 rfl) ?_
  refine lv_iconst (v := nI 2) S.1 S.2.1 dL_law_1293 rfl ?_
  refine t_iadd S.1 S.2.1 dL_law_1294 (nI_add _ _) ?_
  refine lx_ld S hX hbl hL (show i + 2 < L by omega) hL31 dL_law_1295 ?_
  refine lv_aload_n S.1 S.2.1 dL_law_1296 rfl (lv_at hl 4 rfl) ?_
  refine lh_call (As := [.ref (loc 0), .int (xs (i + 1)), .int (xs (i + 2)), .ref ao]) S hE hL (c_L_tally l hs0 hn _ _) hw_tally ⟨by omega, by omega⟩ rfl hl.1 rfl (Nat.le_of_ble_eq_true rfl) dL_law_1297 hf (fun kq u H locs hp hL => ?_)
  refine lv_istore S.1 S.2.1 dL_law_1300 hl (by decide) rfl (fun ls hl => ?_)
  refine lv_aload_n S.1 S.2.1 dL_law_1302 rfl (lv_at hl 4 rfl) ?_
  refine lv_aload_n S.1 S.2.1 dL_law_1303 rfl (lv_at hl 2 rfl) ?_
  refine lv_iload S.1 S.2.1 dL_law_1304 (lv_at hl 1 rfl) ?_
  refine lv_iconst (v := nI 1) S.1 S.2.1 dL_law_1306 rfl ?_
  refine t_iadd S.1 S.2.1 dL_law_1307 (nI_add _ _) ?_
  refine lx_ld S hX hbl hL (show i + 1 < L by omega) hL31 dL_law_1308 ?_
  refine lv_aload_n S.1 S.2.1 dL_law_1309 rfl (lv_at hl 2 rfl) ?_
  refine lv_iload S.1 S.2.1 dL_law_1310 (lv_at hl 1 rfl) ?_
  refine lv_iconst (v := nI 2) S.1 S.2.1 dL_law_1312 rfl ?_
  refine t_iadd S.1 S.2.1 dL_law_1313 (nI_add _ _) ?_
  refine lx_ld S hX hbl hL (show i + 2 < L by omega) hL31 dL_law_1314 ?_
  refine lm_call (As := [.int (xs (i + 1)), .int (xs (i + 2))]) S hE hL (c_X1_tally l hn _ _) ⟨rfl, rfl⟩ rfl cw_RL_X1_tally ⟨by show 6 + 1 ≤ _; omega, by show _ + 40 * 6 ≤ _; omega⟩ rfl hl.1 rfl (Nat.le_of_ble_eq_true rfl) dL_law_1315 hf (fun v M1 H locs hq hL => ?_)
  obtain ⟨o1, o2, o3⟩ := op_tally hn hs hp hq
  refine lv_istore S.1 S.2.1 dL_law_1318 hl (by decide) rfl (fun ls hl => ?_)
  refine lv_aload_n S.1 S.2.1 dL_law_1320 rfl (lv_at hl 5 rfl) ?_
  refine lm_call (As := []) S hE hL (c_X1_thrown l hn) ⟨rfl, rfl⟩ rfl cw_RL_X1_thrown ⟨by show 1 + 1 ≤ _; omega, by show _ + 40 * 1 ≤ _; omega⟩ rfl hl.1 rfl (Nat.le_of_ble_eq_true rfl) dL_law_1321 hf (fun w M2 H locs hz hL2 => ?_)
  obtain ⟨hz1, rfl⟩ := hz
  rw [hz1] at hL2
  have hl : lv_has ls 7 [(6, .int v), (5, .int kq), (4, .int (nI i)), (0, .ref b), (1, .ref (loc 0)), (2, .ref (locm 0)), (3, .ref ao)] := hl
  refine lv_iload S.1 S.2.1 dL_law_1324 (lv_at hl 1 rfl) ?_
  refine lv_icmp_eq (tgt := 1331) S.1 S.2.1 dL_law_1326 (by decide) (fun _ => ?_) (fun hne => absurd o1 hne)
  refine lv_iload S.1 S.2.1 dL_law_1331 (lv_at hl 1 rfl) ?_
  refine lv_if_ne (tgt := 1348) S.1 S.2.1 dL_law_1333 (by decide) (fun _ => ?_) (fun h0 => ?_)
  · skip
    refine lv_goto (tgt := 1475) S.1 S.2.1 dL_law_1348 (by decide) ?_
    exact kk u.1 u.2 _ H locs ls o3 hL2 (lv_sub hl [2, 3, 4, 5, 6] rfl)
  · skip
    have ho := o2 (h0.trans nI_0.symm)
    refine lv_aload_n S.1 S.2.1 dL_law_1336 rfl (lv_at hl 6 rfl) ?_
    refine lv_iconst (v := nI 0) S.1 S.2.1 dL_law_1337 rfl ?_
    refine lo_ld S hE hL2 dL_law_1338 ?_
    refine lv_iload S.1 S.2.1 dL_law_1339 (lv_at hl 0 rfl) ?_
    refine lv_i2l S.1 S.2.1 dL_law_1341 rfl ?_
    rw [ho]
    refine W.lcmp S.1 S.2.1 dL_law_1342 ?_
    rw [lg_same]
    refine lv_if_eq (tgt := 1348) S.1 S.2.1 dL_law_1343 (by decide) (fun _ => ?_) (fun hne => absurd rfl hne)
    refine lv_goto (tgt := 1475) S.1 S.2.1 dL_law_1348 (by decide) ?_
    exact kk u.1 u.2 _ H locs ls o3 hL2 (lv_sub hl [2, 3, 4, 5, 6] rfl)
theorem hw_of : HW 148 yL_of cL_of 4 (some .int) [(0, 9, 12, 13)] 3 := ⟨⟨w_514, w_515, w_420, w_406⟩, by decide +kernel⟩
set_option maxHeartbeats 4000000 in
theorem lw_of (S : CallFix p m c cL_law 7 s #[.ref b] WA RL) (hs0 : l.stackTraces = false) (hn : n ≤ 40) (hX : va_X b L xs s s.heap) (hbl : b < s.heap.size) (hE : LC loc g ao locm gm s) (hRm : 20 ≤ R.frames ∧ 5000 ≤ R.locals) (hf0 : cells + 8 ≤ R.cells ∧ slots + 48 ≤ R.slots) (hi : i + 5 ≤ L) (hL31 : L ≤ 2561) (hSim : Sim n S0 M0) (hL : LH loc n g ao locm gm S0 o M0 s H locs) (hl : lv_has ls 7 [(4, .int (nI i)), (0, .ref b), (1, .ref (loc 0)), (2, .ref (locm 0)), (3, .ref ao)]) (kk : ∀ (S1 : RS) (o1 : Int64) (M1 : MS) (H1 : Heap) (locs1 : List Loc) (ls1 : Array Slot), Sim n S1 M1 → LH loc n g ao locm gm S1 o1 M1 s H1 locs1 → lv_has ls1 7 [(4, .int (nI i)), (0, .ref b), (1, .ref (loc 0)), (2, .ref (locm 0)), (3, .ref ao)] → W p l e R s m #[.ref b] below meth c H1 locs1 (cells + 8) (slots + 48) Q (F0 m 1475 ls1 [])) : W p l e R s m #[.ref b] below meth c H locs cells slots Q (F0 m 1351 ls []) := by
  have hf := hf0
  obtain ⟨R0, t, q, hs⟩ := hSim
  have hR12 := hs.1.1
  have htR := hs.1.2.1
  have hq2 := hs.1.2.2.1
  have hrel := hs.1.2.2.2.1
  have hrm := hs.1.2.2.2.2.1
  have ht := hs.1.2.2.2.2.2.1
  have hpc := hs.1.2.2.2.2.2.2.1
  have hpm := hs.1.2.2.2.2.2.2.2
  have ht12 : t ≤ 12 := by omega
  have hw := wfR_of hR12 hs.2.2.2.1 hs.2.2.1
  have hwm := wfM_of hR12 hs.2.2.2.1
  refine lv_aload_n S.1 S.2.1 dL_law_1351 rfl (lv_at hl 2 rfl) ?_
  refine lv_aload_n S.1 S.2.1 dL_law_1352 rfl (lv_at hl 1 rfl) ?_
  refine lv_iload S.1 S.2.1 dL_law_1353 (lv_at hl 0 rfl) ?_
  refine lv_iconst (v := nI 1) S.1 S.2.1 dL_law_1355 rfl ?_
  refine t_iadd S.1 S.2.1 dL_law_1356 (nI_add _ _) ?_
  refine lx_ld S hX hbl hL (show i + 1 < L by omega) hL31 dL_law_1357 ?_
  refine lv_aload_n S.1 S.2.1 dL_law_1358 rfl (lv_at hl 4 rfl) ?_
  refine lh_call (As := [.ref (loc 0), .int (xs (i + 1)), .ref ao]) S hE hL (c_L_of l hs0 hn _) hw_of ⟨by omega, by omega⟩ rfl hl.1 rfl (Nat.le_of_ble_eq_true rfl) dL_law_1359 hf (fun kq u H locs hp hL => ?_)
  refine lv_istore S.1 S.2.1 dL_law_1362 hl (by decide) rfl (fun ls hl => ?_)
  refine lv_aload_n S.1 S.2.1 dL_law_1364 rfl (lv_at hl 4 rfl) ?_
  refine lv_aload_n S.1 S.2.1 dL_law_1365 rfl (lv_at hl 2 rfl) ?_
  refine lv_iload S.1 S.2.1 dL_law_1366 (lv_at hl 1 rfl) ?_
  refine lv_iconst (v := nI 1) S.1 S.2.1 dL_law_1368 rfl ?_
  refine t_iadd S.1 S.2.1 dL_law_1369 (nI_add _ _) ?_
  refine lx_ld S hX hbl hL (show i + 1 < L by omega) hL31 dL_law_1370 ?_
  refine lm_call (As := [.int (xs (i + 1))]) S hE hL (c_X1_of l hn _) ⟨rfl, rfl⟩ rfl cw_RL_X1_of ⟨by show 6 + 1 ≤ _; omega, by show _ + 40 * 6 ≤ _; omega⟩ rfl hl.1 rfl (Nat.le_of_ble_eq_true rfl) dL_law_1371 hf (fun v M1 H locs hq hL => ?_)
  obtain ⟨o1, o2, o3⟩ := op_of hs hp hq
  refine lv_istore S.1 S.2.1 dL_law_1374 hl (by decide) rfl (fun ls hl => ?_)
  refine lv_aload_n S.1 S.2.1 dL_law_1376 rfl (lv_at hl 5 rfl) ?_
  refine lm_call (As := []) S hE hL (c_X1_thrown l hn) ⟨rfl, rfl⟩ rfl cw_RL_X1_thrown ⟨by show 1 + 1 ≤ _; omega, by show _ + 40 * 1 ≤ _; omega⟩ rfl hl.1 rfl (Nat.le_of_ble_eq_true rfl) dL_law_1377 hf (fun w M2 H locs hz hL2 => ?_)
  obtain ⟨hz1, rfl⟩ := hz
  rw [hz1] at hL2
  have hl : lv_has ls 7 [(6, .int v), (5, .int kq), (4, .int (nI i)), (0, .ref b), (1, .ref (loc 0)), (2, .ref (locm 0)), (3, .ref ao)] := hl
  refine lv_iload S.1 S.2.1 dL_law_1380 (lv_at hl 1 rfl) ?_
  refine lv_icmp_eq (tgt := 1387) S.1 S.2.1 dL_law_1382 (by decide) (fun _ => ?_) (fun hne => absurd o1 hne)
  refine lv_iload S.1 S.2.1 dL_law_1387 (lv_at hl 1 rfl) ?_
  refine lv_if_ne (tgt := 1404) S.1 S.2.1 dL_law_1389 (by decide) (fun _ => ?_) (fun h0 => ?_)
  · skip
    refine lv_goto (tgt := 1475) S.1 S.2.1 dL_law_1404 (by decide) ?_
    exact kk u.1 u.2 _ H locs ls o3 hL2 (lv_sub hl [2, 3, 4, 5, 6] rfl)
  · skip
    have ho := o2 (h0.trans nI_0.symm)
    refine lv_aload_n S.1 S.2.1 dL_law_1392 rfl (lv_at hl 6 rfl) ?_
    refine lv_iconst (v := nI 0) S.1 S.2.1 dL_law_1393 rfl ?_
    refine lo_ld S hE hL2 dL_law_1394 ?_
    refine lv_iload S.1 S.2.1 dL_law_1395 (lv_at hl 0 rfl) ?_
    refine lv_i2l S.1 S.2.1 dL_law_1397 rfl ?_
    rw [ho]
    refine W.lcmp S.1 S.2.1 dL_law_1398 ?_
    rw [lg_same]
    refine lv_if_eq (tgt := 1404) S.1 S.2.1 dL_law_1399 (by decide) (fun _ => ?_) (fun hne => absurd rfl hne)
    refine lv_goto (tgt := 1475) S.1 S.2.1 dL_law_1404 (by decide) ?_
    exact kk u.1 u.2 _ H locs ls o3 hL2 (lv_sub hl [2, 3, 4, 5, 6] rfl)
theorem hw_told : HW 151 yL_told cL_told 5 (some .int) [(0, 10, 13, 13)] 4 := ⟨⟨w_519, w_520, w_420, w_410⟩, by decide +kernel⟩
set_option maxHeartbeats 4000000 in
theorem lw_told (S : CallFix p m c cL_law 7 s #[.ref b] WA RL) (hs0 : l.stackTraces = false) (hn : n ≤ 40) (hX : va_X b L xs s s.heap) (hbl : b < s.heap.size) (hE : LC loc g ao locm gm s) (hRm : 20 ≤ R.frames ∧ 5000 ≤ R.locals) (hf0 : cells + 8 ≤ R.cells ∧ slots + 48 ≤ R.slots) (hi : i + 5 ≤ L) (hL31 : L ≤ 2561) (hSim : Sim n S0 M0) (hL : LH loc n g ao locm gm S0 o M0 s H locs) (hl : lv_has ls 7 [(4, .int (nI i)), (0, .ref b), (1, .ref (loc 0)), (2, .ref (locm 0)), (3, .ref ao)]) (kk : ∀ (S1 : RS) (o1 : Int64) (M1 : MS) (H1 : Heap) (locs1 : List Loc) (ls1 : Array Slot), Sim n S1 M1 → LH loc n g ao locm gm S1 o1 M1 s H1 locs1 → lv_has ls1 7 [(4, .int (nI i)), (0, .ref b), (1, .ref (loc 0)), (2, .ref (locm 0)), (3, .ref ao)] → W p l e R s m #[.ref b] below meth c H1 locs1 (cells + 8) (slots + 48) Q (F0 m 1475 ls1 [])) : W p l e R s m #[.ref b] below meth c H locs cells slots Q (F0 m 1407 ls []) := by
  have hf := hf0
  obtain ⟨R0, t, q, hs⟩ := hSim
  have hR12 := hs.1.1
  have htR := hs.1.2.1
  have hq2 := hs.1.2.2.1
  have hrel := hs.1.2.2.2.1
  have hrm := hs.1.2.2.2.2.1
  have ht := hs.1.2.2.2.2.2.1
  have hpc := hs.1.2.2.2.2.2.2.1
  have hpm := hs.1.2.2.2.2.2.2.2
  have ht12 : t ≤ 12 := by omega
  have hw := wfR_of hR12 hs.2.2.2.1 hs.2.2.1
  have hwm := wfM_of hR12 hs.2.2.2.1
  refine lv_aload_n S.1 S.2.1 dL_law_1407 rfl (lv_at hl 2 rfl) ?_
  refine lv_aload_n S.1 S.2.1 dL_law_1408 rfl (lv_at hl 1 rfl) ?_
  refine lv_iload S.1 S.2.1 dL_law_1409 (lv_at hl 0 rfl) ?_
  refine lv_iconst (v := nI 1) S.1 S.2.1 dL_law_1411 rfl ?_
  refine t_iadd S.1 S.2.1 dL_law_1412 (nI_add _ _) ?_
  refine lx_ld S hX hbl hL (show i + 1 < L by omega) hL31 dL_law_1413 ?_
  refine lv_aload_n S.1 S.2.1 dL_law_1414 rfl (lv_at hl 1 rfl) ?_
  refine lv_iload S.1 S.2.1 dL_law_1415 (lv_at hl 0 rfl) ?_
  refine lv_iconst (v := nI 2) S.1 S.2.1 dL_law_1417 rfl ?_
  refine t_iadd S.1 S.2.1 dL_law_1418 (nI_add _ _) ?_
  refine lx_ld S hX hbl hL (show i + 2 < L by omega) hL31 dL_law_1419 ?_
  refine lv_aload_n S.1 S.2.1 dL_law_1420 rfl (lv_at hl 4 rfl) ?_
  refine lh_call (As := [.ref (loc 0), .int (xs (i + 1)), .int (xs (i + 2)), .ref ao]) S hE hL (c_L_told l hs0 hn hR12 hrel _ _) hw_told ⟨by omega, by omega⟩ rfl hl.1 rfl (Nat.le_of_ble_eq_true rfl) dL_law_1421 hf (fun kq u H locs hp hL => ?_)
  refine lv_istore S.1 S.2.1 dL_law_1424 hl (by decide) rfl (fun ls hl => ?_)
  refine lv_aload_n S.1 S.2.1 dL_law_1426 rfl (lv_at hl 4 rfl) ?_
  refine lv_aload_n S.1 S.2.1 dL_law_1427 rfl (lv_at hl 2 rfl) ?_
  refine lv_iload S.1 S.2.1 dL_law_1428 (lv_at hl 1 rfl) ?_
  refine lv_iconst (v := nI 1) S.1 S.2.1 dL_law_1430 rfl ?_
  refine t_iadd S.1 S.2.1 dL_law_1431 (nI_add _ _) ?_
  refine lx_ld S hX hbl hL (show i + 1 < L by omega) hL31 dL_law_1432 ?_
  refine lv_aload_n S.1 S.2.1 dL_law_1433 rfl (lv_at hl 2 rfl) ?_
  refine lv_iload S.1 S.2.1 dL_law_1434 (lv_at hl 1 rfl) ?_
  refine lv_iconst (v := nI 2) S.1 S.2.1 dL_law_1436 rfl ?_
  refine t_iadd S.1 S.2.1 dL_law_1437 (nI_add _ _) ?_
  refine lx_ld S hX hbl hL (show i + 2 < L by omega) hL31 dL_law_1438 ?_
  refine lm_call (As := [.int (xs (i + 1)), .int (xs (i + 2))]) S hE hL (c_X1_told l hn hR12 hrm _ _) ⟨rfl, rfl⟩ rfl cw_RL_X1_told ⟨by show 6 + 1 ≤ _; omega, by show _ + 40 * 6 ≤ _; omega⟩ rfl hl.1 rfl (Nat.le_of_ble_eq_true rfl) dL_law_1439 hf (fun v M1 H locs hq hL => ?_)
  obtain ⟨o1, o2, o3⟩ := op_told hs hp hq
  refine lv_istore S.1 S.2.1 dL_law_1442 hl (by decide) rfl (fun ls hl => ?_)
  refine lv_aload_n S.1 S.2.1 dL_law_1444 rfl (lv_at hl 5 rfl) ?_
  refine lm_call (As := []) S hE hL (c_X1_thrown l hn) ⟨rfl, rfl⟩ rfl cw_RL_X1_thrown ⟨by show 1 + 1 ≤ _; omega, by show _ + 40 * 1 ≤ _; omega⟩ rfl hl.1 rfl (Nat.le_of_ble_eq_true rfl) dL_law_1445 hf (fun w M2 H locs hz hL2 => ?_)
  obtain ⟨hz1, rfl⟩ := hz
  rw [hz1] at hL2
  have hl : lv_has ls 7 [(6, .int v), (5, .int kq), (4, .int (nI i)), (0, .ref b), (1, .ref (loc 0)), (2, .ref (locm 0)), (3, .ref ao)] := hl
  refine lv_iload S.1 S.2.1 dL_law_1448 (lv_at hl 1 rfl) ?_
  refine lv_icmp_eq (tgt := 1455) S.1 S.2.1 dL_law_1450 (by decide) (fun _ => ?_) (fun hne => absurd o1 hne)
  refine lv_iload S.1 S.2.1 dL_law_1455 (lv_at hl 1 rfl) ?_
  refine lv_if_ne (tgt := 1472) S.1 S.2.1 dL_law_1457 (by decide) (fun _ => ?_) (fun h0 => ?_)
  · skip
    refine lv_goto (tgt := 1475) S.1 S.2.1 dL_law_1472 (by decide) ?_
    exact kk u.1 u.2 _ H locs ls o3 hL2 (lv_sub hl [2, 3, 4, 5, 6] rfl)
  · skip
    have ho := o2 (h0.trans nI_0.symm)
    refine lv_aload_n S.1 S.2.1 dL_law_1460 rfl (lv_at hl 6 rfl) ?_
    refine lv_iconst (v := nI 0) S.1 S.2.1 dL_law_1461 rfl ?_
    refine lo_ld S hE hL2 dL_law_1462 ?_
    refine lv_iload S.1 S.2.1 dL_law_1463 (lv_at hl 0 rfl) ?_
    refine lv_i2l S.1 S.2.1 dL_law_1465 rfl ?_
    rw [ho]
    refine W.lcmp S.1 S.2.1 dL_law_1466 ?_
    rw [lg_same]
    refine lv_if_eq (tgt := 1472) S.1 S.2.1 dL_law_1467 (by decide) (fun _ => ?_) (fun hne => absurd rfl hne)
    refine lv_goto (tgt := 1475) S.1 S.2.1 dL_law_1472 (by decide) ?_
    exact kk u.1 u.2 _ H locs ls o3 hL2 (lv_sub hl [2, 3, 4, 5, 6] rfl)
end LS
