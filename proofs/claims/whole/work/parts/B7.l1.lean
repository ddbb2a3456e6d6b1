/-! the law's cases: what holds between calls -/
def wLW (G : Gx) (oa : Nat) (f : Nat → Int64) (qm : Nat → Nat) (sm : OSt) (Z : va_W) : va_W := wL G oa 1 f ++ (wM G qm sm ++ Z)
def LWP (G : Gx) (A : Nat → Prop) (s : State) (q : Nat → Nat) (da : Nat) (qc qh qt qn qs qo qm : Nat → Nat) (oa : Nat) (H : Heap) (locs : List Loc) : Prop := ∃ (f : Nat → Int64) (V : VS) (sr : OSt) (ta : Nat → Int32) (sc sh : NSt) (tb : Nat × OSt) (sn : NSt) (ss so st : OSt) (r : Nat → Nat), RI V sr ta sc sh sn st r ∧ va_P G.1 vwCl (wLW G oa f qm (sR st r) (wZ G q da qc qh qt qn qs qo V sr ta sc sh tb sn ss so)) H ∧ va_D A (wLW G oa f qm (sR st r) (wZ G q da qc qh qt qn qs qo V sr ta sc sh tb sn ss so)) ∧ va_S A s.heap H locs
abbrev lvL (b : Nat) (q qm : Nat → Nat) (oa k : Nat) : List (Nat × Value) := [(0, .ref b), (1, .ref (q 12)), (2, .ref (qm 42)), (3, .ref oa), (4, .int (nI (6 * k)))]
def KL (p : Program) (l : Launch) (e : Env) (s : State) (m : MethodId) (below : List Frame) (meth : Method) (c : Code) (Q : State → Prop) (G : Gx) (A : Nat → Prop) (b k kc ks : Nat) (q : Nat → Nat) (da : Nat) (qc qh qt qn qs qo qm : Nat → Nat) (oa : Nat) : Prop := ∀ (H : Heap) (locs : List Loc) (ls : Array Slot), LWP G A s q da qc qh qt qn qs qo qm oa H locs → lv_has ls 7 (lvL b q qm oa k) → W p l e room_1 s m #[Value.ref b] below meth c H locs (kc + 16) (ks + 2000) Q (F0 m 1126 ls [])
def LC (p : Program) (l : Launch) (s : State) (m : MethodId) (meth : Method) (c : Code) (G : Gx) (A : Nat → Prop) (b L k kc ks : Nat) (xs : Nat → Int32) (x00 : NSt) : Prop := Cx p s m #[Value.ref b] meth c G cL_law wsL_law RL ret 7 A ∧ va_X b L xs s s.heap ∧ b < s.heap.size ∧ ¬ A b ∧ 6 * k + 6 ≤ L ∧ L ≤ 3072 ∧ kc + 16 ≤ 601024 ∧ ks + 2000 ≤ 7293033 ∧ n_clear (n0 0) 200 = some x00 ∧ l.stackTraces = false
theorem dd_LW {A : Nat → Prop} {G : Gx} {oa : Nat} {f f' : Nat → Int64} {qm : Nat → Nat} {sm sm' : OSt} {q : Nat → Nat} {da : Nat} {qc qh qt qn qs qo : Nat → Nat} {V : VS} {sr sr' : OSt} {ta ta' : Nat → Int32} {sc sc' sh sh' : NSt} {tb tb' : Nat × OSt} {sn sn' : NSt} {ss ss' so so' : OSt} (h : va_D A (wLW G oa f qm sm (wZ G q da qc qh qt qn qs qo V sr ta sc sh tb sn ss so))) : va_D A (wLW G oa f' qm sm' (wZ G q da qc qh qt qn qs qo V sr' ta' sc' sh' tb' sn' ss' so')) := by
  refine h.ad ?_
  unfold wLW wZ
  rw [List.map_append, List.map_append, List.map_append, List.map_append, List.map_append, List.map_append, List.map_append, List.map_append, List.map_append, List.map_append, List.map_append, List.map_append, List.map_append, List.map_append, List.map_append, List.map_append, List.map_append, List.map_append, List.map_append, List.map_append]
  rw [show (wL G oa 1 f).map (·.1) = (wL G oa 1 f').map (·.1) from rfl, show (wM G qm sm).map (·.1) = (wM G qm sm').map (·.1) from rfl, show (wR G q da qc qh qt qs qo (imO V) (paO V) sr).map (·.1) = (wR G q da qc qh qt qs qo (imO V) (paO V) sr').map (·.1) from rfl, show (wA G da 500 ta).map (·.1) = (wA G da 500 ta').map (·.1) from rfl, show (wN G qc sc).map (·.1) = (wN G qc sc').map (·.1) from rfl, show (wN G qh sh).map (·.1) = (wN G qh sh').map (·.1) from rfl, show (wT G qt tb.1 (qn 15) tb.2).map (·.1) = (wT G qt tb'.1 (qn 15) tb'.2).map (·.1) from rfl, show (wN G qn sn).map (·.1) = (wN G qn sn').map (·.1) from rfl, show (wS G qs ss).map (·.1) = (wS G qs ss').map (·.1) from rfl, show (wS G qo so).map (·.1) = (wS G qo so').map (·.1) from rfl]
theorem pm_swp {a b c : va_W} : (a ++ (b ++ c)).Perm (b ++ (a ++ c)) := List.perm_append_comm_assoc a b c
theorem lg_cmp_self (x : Int64) : lg_cmp x x = 0 := by
  unfold lg_cmp
  simp
section LAW
variable {p : Program} {l : Launch} {e : Env} {s : State} {m : MethodId} {below : List Frame} {meth : Method} {c : Code} {H : Heap} {locs : List Loc} {Q : State → Prop} {G : Gx} {A : Nat → Prop} {ls : Array Slot} {b L k kc ks : Nat} {xs : Nat → Int32} {q : Nat → Nat} {da : Nat} {qc qh qt qn qs qo qm : Nat → Nat} {oa : Nat} {x00 : NSt}
set_option maxHeartbeats 4000000 in
set_option maxRecDepth 100000 in
theorem law_feed (C0 : LC p l s m meth c G A b L k kc ks xs x00) (hLP : LWP G A s q da qc qh qt qn qs qo qm oa H locs) (hl : lv_has ls 7 (lvL b q qm oa k)) (K : KL p l e s m below meth c Q G A b k kc ks q da qc qh qt qn qs qo qm oa) : W p l e room_1 s m #[Value.ref b] below meth c H locs kc ks Q (F0 m 168 ls []) := by
  obtain ⟨C, hX, hbl, hbA, hk, hL, hkc, hks, h00, hfl⟩ := C0
  obtain ⟨f, V, sr, ta, sc, sh, tb, sn, ss, so, st, r, hR, hP, hD, hS⟩ := hLP
  have hx := C.1
  have hb := C.2.1
  have hc1 : kc ≤ room_1.cells ∧ ks ≤ room_1.slots := ⟨(show kc ≤ 601024 by omega), (show ks ≤ 7293033 by omega)⟩
  have hc2 : kc + 11 ≤ room_1.cells ∧ ks + 1661 ≤ room_1.slots := ⟨(show kc + 11 ≤ 601024 by omega), (show ks + 1661 ≤ 7293033 by omega)⟩
  have hin1 : vp_in (nI (6 * k) + 1) L := by rw [nI_1]; exact vp_in_nI (by omega) (by omega)
  have hin2 : vp_in (nI (6 * k) + 2) L := by rw [show nI (6 * k) + 2 = nI (6 * k + 2) from nI_add _ 2]; exact vp_in_nI (by omega) (by omega)
  have hin3 : vp_in (nI (6 * k) + 3) L := by rw [show nI (6 * k) + 3 = nI (6 * k + 3) from nI_add _ 3]; exact vp_in_nI (by omega) (by omega)
  have hin4 : vp_in (nI (6 * k) + 4) L := by rw [show nI (6 * k) + 4 = nI (6 * k + 4) from nI_add _ 4]; exact vp_in_nI (by omega) (by omega)
  have hin5 : vp_in (nI (6 * k) + 5) L := by rw [show nI (6 * k) + 5 = nI (6 * k + 5) from nI_add _ 5]; exact vp_in_nI (by omega) (by omega)
  obtain ⟨x, sr', ta', st', e1, e2, hR'⟩ := L_feed hR (xs (nI (6 * k) + 1).toNatClampNeg) (xs (nI (6 * k) + 2).toNatClampNeg) (xs (nI (6 * k) + 3).toNatClampNeg) (xs (nI (6 * k) + 4).toNatClampNeg) (xs (nI (6 * k) + 5).toNatClampNeg)
  refine lv_aload_n hx hb dL_law_168 rfl (lv_at hl 1 rfl) ?_
  refine lv_aload_n hx hb dL_law_169 rfl (lv_at hl 0 rfl) ?_
  refine lv_iload hx hb dL_law_170 (lv_at hl 4 rfl) ?_
  refine lv_iconst (v := 1) hx hb dL_law_172 (by decide) ?_
  refine lv_iadd hx hb dL_law_173 ?_
  refine va_sld hx hb hX hbl hbA hS hin1 dL_law_174 ?_
  refine lv_aload_n hx hb dL_law_175 rfl (lv_at hl 0 rfl) ?_
  refine lv_iload hx hb dL_law_176 (lv_at hl 4 rfl) ?_
  refine lv_iconst (v := 2) hx hb dL_law_178 (by decide) ?_
  refine lv_iadd hx hb dL_law_179 ?_
  refine va_sld hx hb hX hbl hbA hS hin2 dL_law_180 ?_
  refine lv_aload_n hx hb dL_law_181 rfl (lv_at hl 0 rfl) ?_
  refine lv_iload hx hb dL_law_182 (lv_at hl 4 rfl) ?_
  refine lv_iconst (v := 3) hx hb dL_law_184 (by decide) ?_
  refine lv_iadd hx hb dL_law_185 ?_
  refine va_sld hx hb hX hbl hbA hS hin3 dL_law_186 ?_
  refine lv_aload_n hx hb dL_law_187 rfl (lv_at hl 0 rfl) ?_
  refine lv_iload hx hb dL_law_188 (lv_at hl 4 rfl) ?_
  refine lv_iconst (v := 4) hx hb dL_law_190 (by decide) ?_
  refine lv_iadd hx hb dL_law_191 ?_
  refine va_sld hx hb hX hbl hbA hS hin4 dL_law_192 ?_
  refine lv_aload_n hx hb dL_law_193 rfl (lv_at hl 0 rfl) ?_
  refine lv_iload hx hb dL_law_194 (lv_at hl 4 rfl) ?_
  refine lv_iconst (v := 5) hx hb dL_law_196 (by decide) ?_
  refine lv_iadd hx hb dL_law_197 ?_
  refine va_sld hx hb hX hbl hbA hS hin5 dL_law_198 ?_
  refine q_Vi C (rc := (RX4, TX4, 12)) (q0 := 25) (ci := 4) (ws' := wLW G oa f qm (sR st r) (wZ G q da qc qh qt qn qs qo V sr' ta' sc sh tb sn ss so)) (wr := wL G oa 1 f ++ wM G qm (sR st r)) (wc := wZ G q da qc qh qt qn qs qo V sr ta sc sh tb sn ss so) (wc' := wZ G q da qc qh qt qn qs qo V sr' ta' sc sh tb sn ss so) (c_X4_feed (im := imO V) (pa := paO V) (yy := wV G V 14) (x := (x, sr', ta')) e1) gL_law_X4_feed rfl ⟨rfl, rfl⟩ hdX4_feed ⟨(Nat.le_of_ble_eq_true rfl), (Nat.le_of_ble_eq_true rfl)⟩ rfl hP hD hS rfl rfl pm_abc pm_abc2 hl.1 (Nat.le_of_ble_eq_true rfl) hc1 rfl dL_law_199 (fun H locs hP hS => ?_)
  have hD : va_D A (wLW G oa f qm (sR st r) (wZ G q da qc qh qt qn qs qo V sr' ta' sc sh tb sn ss so)) := dd_LW hD
  refine lv_aload_n hx hb dL_law_202 rfl (lv_at hl 2 rfl) ?_
  refine lv_aload_n hx hb dL_law_203 rfl (lv_at hl 0 rfl) ?_
  refine lv_iload hx hb dL_law_204 (lv_at hl 4 rfl) ?_
  refine lv_iconst (v := 1) hx hb dL_law_206 (by decide) ?_
  refine lv_iadd hx hb dL_law_207 ?_
  refine va_sld hx hb hX hbl hbA hS hin1 dL_law_208 ?_
  refine lv_aload_n hx hb dL_law_209 rfl (lv_at hl 0 rfl) ?_
  refine lv_iload hx hb dL_law_210 (lv_at hl 4 rfl) ?_
  refine lv_iconst (v := 2) hx hb dL_law_212 (by decide) ?_
  refine lv_iadd hx hb dL_law_213 ?_
  refine va_sld hx hb hX hbl hbA hS hin2 dL_law_214 ?_
  refine lv_aload_n hx hb dL_law_215 rfl (lv_at hl 0 rfl) ?_
  refine lv_iload hx hb dL_law_216 (lv_at hl 4 rfl) ?_
  refine lv_iconst (v := 3) hx hb dL_law_218 (by decide) ?_
  refine lv_iadd hx hb dL_law_219 ?_
  refine va_sld hx hb hX hbl hbA hS hin3 dL_law_220 ?_
  refine lv_aload_n hx hb dL_law_221 rfl (lv_at hl 0 rfl) ?_
  refine lv_iload hx hb dL_law_222 (lv_at hl 4 rfl) ?_
  refine lv_iconst (v := 4) hx hb dL_law_224 (by decide) ?_
  refine lv_iadd hx hb dL_law_225 ?_
  refine va_sld hx hb hX hbl hbA hS hin4 dL_law_226 ?_
  refine lv_aload_n hx hb dL_law_227 rfl (lv_at hl 0 rfl) ?_
  refine lv_iload hx hb dL_law_228 (lv_at hl 4 rfl) ?_
  refine lv_iconst (v := 5) hx hb dL_law_230 (by decide) ?_
  refine lv_iadd hx hb dL_law_231 ?_
  refine va_sld hx hb hX hbl hbA hS hin5 dL_law_232 ?_
  refine q_Vi C (rc := (RX5, TX5, 42)) (q0 := 1) (ci := 5) (ws' := wLW G oa f qm (sR st' r) (wZ G q da qc qh qt qn qs qo V sr' ta' sc sh tb sn ss so)) (wr := wL G oa 1 f ++ wZ G q da qc qh qt qn qs qo V sr' ta' sc sh tb sn ss so) (wc := wM G qm (sR st r)) (wc' := wM G qm (sR st' r)) (c_X5_feed (x := (x, sR st' r)) e2) gL_law_X5_feed rfl ⟨rfl, rfl⟩ hdX5_feed ⟨(Nat.le_of_ble_eq_true rfl), (Nat.le_of_ble_eq_true rfl)⟩ rfl hP hD hS rfl rfl pm_mid pm_mid' hl.1 (Nat.le_of_ble_eq_true rfl) hc1 rfl dL_law_233 (fun H locs hP hS => ?_)
  have hD : va_D A (wLW G oa f qm (sR st' r) (wZ G q da qc qh qt qn qs qo V sr' ta' sc sh tb sn ss so)) := dd_LW hD
  refine lv_icmp_eq (tgt := 1126) hx hb dL_law_236 (by decide) (fun _ => ?_) (fun c9 => absurd rfl c9)
  exact W.widen (by omega) (by omega) (K H locs ls ⟨f, V, sr', ta', sc, sh, tb, sn, ss, so, st', r, hR', hP, hD, hS⟩ hl)
set_option maxHeartbeats 4000000 in
set_option maxRecDepth 100000 in
theorem law_net (C0 : LC p l s m meth c G A b L k kc ks xs x00) (hLP : LWP G A s q da qc qh qt qn qs qo qm oa H locs) (hl : lv_has ls 7 (lvL b q qm oa k)) (K : KL p l e s m below meth c Q G A b k kc ks q da qc qh qt qn qs qo qm oa) : W p l e room_1 s m #[Value.ref b] below meth c H locs kc ks Q (F0 m 241 ls []) := by
  obtain ⟨C, hX, hbl, hbA, hk, hL, hkc, hks, h00, hfl⟩ := C0
  obtain ⟨f, V, sr, ta, sc, sh, tb, sn, ss, so, st, r, hR, hP, hD, hS⟩ := hLP
  have hx := C.1
  have hb := C.2.1
  have hc1 : kc ≤ room_1.cells ∧ ks ≤ room_1.slots := ⟨(show kc ≤ 601024 by omega), (show ks ≤ 7293033 by omega)⟩
  have hc2 : kc + 11 ≤ room_1.cells ∧ ks + 1661 ≤ room_1.slots := ⟨(show kc + 11 ≤ 601024 by omega), (show ks + 1661 ≤ 7293033 by omega)⟩
  have hin1 : vp_in (nI (6 * k) + 1) L := by rw [nI_1]; exact vp_in_nI (by omega) (by omega)
  have hin2 : vp_in (nI (6 * k) + 2) L := by rw [show nI (6 * k) + 2 = nI (6 * k + 2) from nI_add _ 2]; exact vp_in_nI (by omega) (by omega)
  have hin3 : vp_in (nI (6 * k) + 3) L := by rw [show nI (6 * k) + 3 = nI (6 * k + 3) from nI_add _ 3]; exact vp_in_nI (by omega) (by omega)
  have hin4 : vp_in (nI (6 * k) + 4) L := by rw [show nI (6 * k) + 4 = nI (6 * k + 4) from nI_add _ 4]; exact vp_in_nI (by omega) (by omega)
  have hin5 : vp_in (nI (6 * k) + 5) L := by rw [show nI (6 * k) + 5 = nI (6 * k + 5) from nI_add _ 5]; exact vp_in_nI (by omega) (by omega)
  obtain ⟨x, sr', sc', tb', sn', st', r', e1, e2, hR'⟩ := L_net hR da tb (xs (nI (6 * k) + 1).toNatClampNeg)
  refine lv_aload_n hx hb dL_law_241 rfl (lv_at hl 1 rfl) ?_
  refine lv_aload_n hx hb dL_law_242 rfl (lv_at hl 0 rfl) ?_
  refine lv_iload hx hb dL_law_243 (lv_at hl 4 rfl) ?_
  refine lv_iconst (v := 1) hx hb dL_law_245 (by decide) ?_
  refine lv_iadd hx hb dL_law_246 ?_
  refine va_sld hx hb hX hbl hbA hS hin1 dL_law_247 ?_
  refine q_Vi C (rc := (RX4, TX4, 12)) (q0 := 25) (ci := 4) (ws' := wLW G oa f qm (sR st r) (wZ G q da qc qh qt qn qs qo V sr' ta sc' sh tb' sn' ss so)) (wr := wL G oa 1 f ++ wM G qm (sR st r)) (wc := wZ G q da qc qh qt qn qs qo V sr ta sc sh tb sn ss so) (wc' := wZ G q da qc qh qt qn qs qo V sr' ta sc' sh tb' sn' ss so) (c_X4_net (im := imO V) (pa := paO V) (yy := wV G V 14) (x := (x, sr', sc', tb', sn')) e1) gL_law_X4_net rfl ⟨rfl, rfl⟩ hdX4_net ⟨(Nat.le_of_ble_eq_true rfl), (Nat.le_of_ble_eq_true rfl)⟩ rfl hP hD hS rfl rfl pm_abc pm_abc2 hl.1 (Nat.le_of_ble_eq_true rfl) hc1 rfl dL_law_248 (fun H locs hP hS => ?_)
  have hD : va_D A (wLW G oa f qm (sR st r) (wZ G q da qc qh qt qn qs qo V sr' ta sc' sh tb' sn' ss so)) := dd_LW hD
  refine lv_aload_n hx hb dL_law_251 rfl (lv_at hl 2 rfl) ?_
  refine lv_aload_n hx hb dL_law_252 rfl (lv_at hl 0 rfl) ?_
  refine lv_iload hx hb dL_law_253 (lv_at hl 4 rfl) ?_
  refine lv_iconst (v := 1) hx hb dL_law_255 (by decide) ?_
  refine lv_iadd hx hb dL_law_256 ?_
  refine va_sld hx hb hX hbl hbA hS hin1 dL_law_257 ?_
  refine q_Vi C (rc := (RX5, TX5, 42)) (q0 := 1) (ci := 5) (ws' := wLW G oa f qm (sR st' r') (wZ G q da qc qh qt qn qs qo V sr' ta sc' sh tb' sn' ss so)) (wr := wL G oa 1 f ++ wZ G q da qc qh qt qn qs qo V sr' ta sc' sh tb' sn' ss so) (wc := wM G qm (sR st r)) (wc' := wM G qm (sR st' r')) (c_X5_net (x := (x, sR st' r')) e2) gL_law_X5_net rfl ⟨rfl, rfl⟩ hdX5_net ⟨(Nat.le_of_ble_eq_true rfl), (Nat.le_of_ble_eq_true rfl)⟩ rfl hP hD hS rfl rfl pm_mid pm_mid' hl.1 (Nat.le_of_ble_eq_true rfl) hc1 rfl dL_law_258 (fun H locs hP hS => ?_)
  have hD : va_D A (wLW G oa f qm (sR st' r') (wZ G q da qc qh qt qn qs qo V sr' ta sc' sh tb' sn' ss so)) := dd_LW hD
  refine lv_icmp_eq (tgt := 1126) hx hb dL_law_261 (by decide) (fun _ => ?_) (fun c9 => absurd rfl c9)
  exact W.widen (by omega) (by omega) (K H locs ls ⟨f, V, sr', ta, sc', sh, tb', sn', ss, so, st', r', hR', hP, hD, hS⟩ hl)
set_option maxHeartbeats 4000000 in
set_option maxRecDepth 100000 in
theorem law_count (C0 : LC p l s m meth c G A b L k kc ks xs x00) (hLP : LWP G A s q da qc qh qt qn qs qo qm oa H locs) (hl : lv_has ls 7 (lvL b q qm oa k)) (K : KL p l e s m below meth c Q G A b k kc ks q da qc qh qt qn qs qo qm oa) : W p l e room_1 s m #[Value.ref b] below meth c H locs kc ks Q (F0 m 266 ls []) := by
  obtain ⟨C, hX, hbl, hbA, hk, hL, hkc, hks, h00, hfl⟩ := C0
  obtain ⟨f, V, sr, ta, sc, sh, tb, sn, ss, so, st, r, hR, hP, hD, hS⟩ := hLP
  have hx := C.1
  have hb := C.2.1
  have hc1 : kc ≤ room_1.cells ∧ ks ≤ room_1.slots := ⟨(show kc ≤ 601024 by omega), (show ks ≤ 7293033 by omega)⟩
  have hc2 : kc + 11 ≤ room_1.cells ∧ ks + 1661 ≤ room_1.slots := ⟨(show kc + 11 ≤ 601024 by omega), (show ks + 1661 ≤ 7293033 by omega)⟩
  have hin1 : vp_in (nI (6 * k) + 1) L := by rw [nI_1]; exact vp_in_nI (by omega) (by omega)
  have hin2 : vp_in (nI (6 * k) + 2) L := by rw [show nI (6 * k) + 2 = nI (6 * k + 2) from nI_add _ 2]; exact vp_in_nI (by omega) (by omega)
  have hin3 : vp_in (nI (6 * k) + 3) L := by rw [show nI (6 * k) + 3 = nI (6 * k + 3) from nI_add _ 3]; exact vp_in_nI (by omega) (by omega)
  have hin4 : vp_in (nI (6 * k) + 4) L := by rw [show nI (6 * k) + 4 = nI (6 * k + 4) from nI_add _ 4]; exact vp_in_nI (by omega) (by omega)
  have hin5 : vp_in (nI (6 * k) + 5) L := by rw [show nI (6 * k) + 5 = nI (6 * k + 5) from nI_add _ 5]; exact vp_in_nI (by omega) (by omega)
  obtain ⟨x, e1, e2⟩ := L_count hR (xs (nI (6 * k) + 1).toNatClampNeg)
  refine lv_aload_n hx hb dL_law_266 rfl (lv_at hl 1 rfl) ?_
  refine lv_aload_n hx hb dL_law_267 rfl (lv_at hl 0 rfl) ?_
  refine lv_iload hx hb dL_law_268 (lv_at hl 4 rfl) ?_
  refine lv_iconst (v := 1) hx hb dL_law_270 (by decide) ?_
  refine lv_iadd hx hb dL_law_271 ?_
  refine va_sld hx hb hX hbl hbA hS hin1 dL_law_272 ?_
  refine q_Vi C (rc := (RX4, TX4, 12)) (q0 := 25) (ci := 4) (ws' := wLW G oa f qm (sR st r) (wZ G q da qc qh qt qn qs qo V sr ta sc sh tb sn ss so)) (wr := wL G oa 1 f ++ wM G qm (sR st r)) (wc := wZ G q da qc qh qt qn qs qo V sr ta sc sh tb sn ss so) (wc' := wZ G q da qc qh qt qn qs qo V sr ta sc sh tb sn ss so) (c_X4_count (im := imO V) (pa := paO V) (yy := wV G V 14) e1) gL_law_X4_count rfl ⟨rfl, rfl⟩ hdX4_count ⟨(Nat.le_of_ble_eq_true rfl), (Nat.le_of_ble_eq_true rfl)⟩ rfl hP hD hS rfl rfl pm_abc pm_abc2 hl.1 (Nat.le_of_ble_eq_true rfl) hc1 rfl dL_law_273 (fun H locs hP hS => ?_)
  have hD : va_D A (wLW G oa f qm (sR st r) (wZ G q da qc qh qt qn qs qo V sr ta sc sh tb sn ss so)) := dd_LW hD
  refine lv_aload_n hx hb dL_law_276 rfl (lv_at hl 2 rfl) ?_
  refine lv_aload_n hx hb dL_law_277 rfl (lv_at hl 0 rfl) ?_
  refine lv_iload hx hb dL_law_278 (lv_at hl 4 rfl) ?_
  refine lv_iconst (v := 1) hx hb dL_law_280 (by decide) ?_
  refine lv_iadd hx hb dL_law_281 ?_
  refine va_sld hx hb hX hbl hbA hS hin1 dL_law_282 ?_
  refine q_Vi C (rc := (RX5, TX5, 42)) (q0 := 1) (ci := 5) (ws' := wLW G oa f qm (sR (sI st 0 0) r) (wZ G q da qc qh qt qn qs qo V sr ta sc sh tb sn ss so)) (wr := wL G oa 1 f ++ wZ G q da qc qh qt qn qs qo V sr ta sc sh tb sn ss so) (wc := wM G qm (sR st r)) (wc' := wM G qm (sR (sI st 0 0) r)) (c_X5_count (x := (x, sR (sI st 0 0) r)) e2) gL_law_X5_count rfl ⟨rfl, rfl⟩ hdX5_count ⟨(Nat.le_of_ble_eq_true rfl), (Nat.le_of_ble_eq_true rfl)⟩ rfl hP hD hS rfl rfl pm_mid pm_mid' hl.1 (Nat.le_of_ble_eq_true rfl) hc1 rfl dL_law_283 (fun H locs hP hS => ?_)
  have hD : va_D A (wLW G oa f qm (sR (sI st 0 0) r) (wZ G q da qc qh qt qn qs qo V sr ta sc sh tb sn ss so)) := dd_LW hD
  refine lv_icmp_eq (tgt := 1126) hx hb dL_law_286 (by decide) (fun _ => ?_) (fun c9 => absurd rfl c9)
  exact W.widen (by omega) (by omega) (K H locs ls ⟨f, V, sr, ta, sc, sh, tb, sn, ss, so, sI st 0 0, r, hR.same (KP.i0 st), hP, hD, hS⟩ hl)
end LAW
