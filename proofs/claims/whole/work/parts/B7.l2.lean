section LAW
variable {p : Program} {l : Launch} {e : Env} {s : State} {m : MethodId} {below : List Frame} {meth : Method} {c : Code} {H : Heap} {locs : List Loc} {Q : State → Prop} {G : Gx} {A : Nat → Prop} {ls : Array Slot} {b L k kc ks : Nat} {xs : Nat → Int32} {q : Nat → Nat} {da : Nat} {qc qh qt qn qs qo qm : Nat → Nat} {oa : Nat} {x00 : NSt}
set_option maxHeartbeats 400000 in
set_option maxRecDepth 100000 in
theorem law_seen (C0 : LC p l s m meth c G A b L k kc ks xs x00) (hLP : LWP G A s q da qc qh qt qn qs qo qm oa H locs) (hl : lv_has ls 7 (lvL b q qm oa k)) (K : KL p l e s m below meth c Q G A b k kc ks q da qc qh qt qn qs qo qm oa) : W p l e room_1 s m #[Value.ref b] below meth c H locs kc ks Q (F0 m 614 ls []) := by
  obtain ⟨C, hX, hbl, hbA, hk, hL, hkc, hks, h00, hfl⟩ := C0
  obtain ⟨f, V, sr, ta, sc, sh, tb, sn, ss, so, st, r, hR, hP, hD, hS⟩ := hLP
  have hx := C.1
  have hb := C.2.1
  have hc1 : kc ≤ room_1.cells ∧ ks ≤ room_1.slots := ⟨(show kc ≤ 601024 by omega), (show ks ≤ 7293033 by omega)⟩
  have hc2 : kc + 11 ≤ room_1.cells ∧ ks + 1661 ≤ room_1.slots := ⟨(show kc + 11 ≤ 601024 by omega), (show ks + 1661 ≤ 7293033 by omega)⟩
  have hin1 : vp_in (nI (6 * k) + 1) L := by rw [nI_1]; exact vp_in_nI (by omega) (by omega)
  have hin2 : vp_in (nI (6 * k) + 2) L := by rw [show nI (6 * k) + 2 = nI (6 * k + 2) from nI_add _ 2]; exact vp_in_nI (by omega) (by omega)
  have hin3 : vp_in (nI (6 * k) + 3) L := by rw [show nI (6 * k) + 3 = nI (6 * k + 3) from nI_add _ 3]; exact vp_in_nI (by omega) (by omega)
  have hin4 : vp_in (nI (6 * k) + 4) L := by rw [show nI (6 * k) + 4 = nI (6 * k + 4) from nI_add _ 4]; exact vp_in_nI (by omega) (by omega)
  have hin5 : vp_in (nI (6 * k) + 5) L := by rw [show nI (6 * k) + 5 = nI (6 * k + 5) from nI_add _ 5]; exact vp_in_nI (by omega) (by omega)
  obtain ⟨x, ss', st', e1, e2, hR'⟩ := L_seen hR ss 
  refine lv_aload_n hx hb dL_law_614 rfl (lv_at hl 1 rfl) ?_
  refine q_Vi C (rc := (RX4, TX4, 12)) (q0 := 25) (ci := 4) (ws' := wLW G oa f qm (sR st r) (wZ G q da qc qh qt qn qs qo V sr ta sc sh tb sn ss' so)) (wr := wL G oa 1 f ++ wM G qm (sR st r)) (wc := wZ G q da qc qh qt qn qs qo V sr ta sc sh tb sn ss so) (wc' := wZ G q da qc qh qt qn qs qo V sr ta sc sh tb sn ss' so) (c_X4_seen (im := imO V) (pa := paO V) (yy := wV G V 14) (x := (x, ss')) e1) gL_law_X4_seen rfl ⟨rfl, rfl⟩ hdX4_seen ⟨(Nat.le_of_ble_eq_true rfl), (Nat.le_of_ble_eq_true rfl)⟩ rfl hP hD hS rfl rfl pm_abc pm_abc2 hl.1 (Nat.le_of_ble_eq_true rfl) hc1 rfl dL_law_615 (fun H locs hP hS => ?_)
  have hD : va_D A (wLW G oa f qm (sR st r) (wZ G q da qc qh qt qn qs qo V sr ta sc sh tb sn ss' so)) := dd_LW hD
  refine lv_aload_n hx hb dL_law_618 rfl (lv_at hl 2 rfl) ?_
  refine q_Vi C (rc := (RX5, TX5, 42)) (q0 := 1) (ci := 5) (ws' := wLW G oa f qm (sR st' r) (wZ G q da qc qh qt qn qs qo V sr ta sc sh tb sn ss' so)) (wr := wL G oa 1 f ++ wZ G q da qc qh qt qn qs qo V sr ta sc sh tb sn ss' so) (wc := wM G qm (sR st r)) (wc' := wM G qm (sR st' r)) (c_X5_seen (x := (x, sR st' r)) e2) gL_law_X5_seen rfl ⟨rfl, rfl⟩ hdX5_seen ⟨(Nat.le_of_ble_eq_true rfl), (Nat.le_of_ble_eq_true rfl)⟩ rfl hP hD hS rfl rfl pm_mid pm_mid' hl.1 (Nat.le_of_ble_eq_true rfl) hc1 rfl dL_law_619 (fun H locs hP hS => ?_)
  have hD : va_D A (wLW G oa f qm (sR st' r) (wZ G q da qc qh qt qn qs qo V sr ta sc sh tb sn ss' so)) := dd_LW hD
  refine lv_icmp_eq (tgt := 1126) hx hb dL_law_622 (by decide) (fun _ => ?_) (fun c9 => absurd rfl c9)
  exact W.widen (by omega) (by omega) (K H locs ls ⟨f, V, sr, ta, sc, sh, tb, sn, ss', so, st', r, hR', hP, hD, hS⟩ hl)
set_option maxHeartbeats 400000 in
set_option maxRecDepth 100000 in
theorem law_met (C0 : LC p l s m meth c G A b L k kc ks xs x00) (hLP : LWP G A s q da qc qh qt qn qs qo qm oa H locs) (hl : lv_has ls 7 (lvL b q qm oa k)) (K : KL p l e s m below meth c Q G A b k kc ks q da qc qh qt qn qs qo qm oa) : W p l e room_1 s m #[Value.ref b] below meth c H locs kc ks Q (F0 m 627 ls []) := by
  obtain ⟨C, hX, hbl, hbA, hk, hL, hkc, hks, h00, hfl⟩ := C0
  obtain ⟨f, V, sr, ta, sc, sh, tb, sn, ss, so, st, r, hR, hP, hD, hS⟩ := hLP
  have hx := C.1
  have hb := C.2.1
  have hc1 : kc ≤ room_1.cells ∧ ks ≤ room_1.slots := ⟨(show kc ≤ 601024 by omega), (show ks ≤ 7293033 by omega)⟩
  have hc2 : kc + 11 ≤ room_1.cells ∧ ks + 1661 ≤ room_1.slots := ⟨(show kc + 11 ≤ 601024 by omega), (show ks + 1661 ≤ 7293033 by omega)⟩
  have hin1 : vp_in (nI (6 * k) + 1) L := by rw [nI_1]; exact vp_in_nI (by omega) (by omega)
  have hin2 : vp_in (nI (6 * k) + 2) L := by rw [show nI (6 * k) + 2 = nI (6 * k + 2) from nI_add _ 2]; exact vp_in_nI (by omega) (by omega)
  have hin3 : vp_in (nI (6 * k) + 3) L := by rw [show nI (6 * k) + 3 = nI (6 * k + 3) from nI_add _ 3]; exact vp_in_nI (by omega) (by omega)
  have hin4 : vp_in (nI (6 * k) + 4) L := by rw [show nI (6 * k) + 4 = nI (6 * k + 4) from nI_add _ 4]; exact vp_in_nI (by omega) (by omega)
  have hin5 : vp_in (nI (6 * k) + 5) L := by rw [show nI (6 * k) + 5 = nI (6 * k + 5) from nI_add _ 5]; exact vp_in_nI (by omega) (by omega)
  obtain ⟨x, ss', st', e1, e2, hR'⟩ := L_met hR ss (xs (nI (6 * k) + 1).toNatClampNeg) (xs (nI (6 * k) + 2).toNatClampNeg)
  refine lv_aload_n hx hb dL_law_627 rfl (lv_at hl 1 rfl) ?_
  refine lv_aload_n hx hb dL_law_628 rfl (lv_at hl 0 rfl) ?_
  refine lv_iload hx hb dL_law_629 (lv_at hl 4 rfl) ?_
  refine lv_iconst (v := 1) hx hb dL_law_631 (by decide) ?_
  refine lv_iadd hx hb dL_law_632 ?_
  refine va_sld hx hb hX hbl hbA hS hin1 dL_law_633 ?_
  refine lv_aload_n hx hb dL_law_634 rfl (lv_at hl 0 rfl) ?_
  refine lv_iload hx hb dL_law_635 (lv_at hl 4 rfl) ?_
  refine lv_iconst (v := 2) hx hb dL_law_637 (by decide) ?_
  refine lv_iadd hx hb dL_law_638 ?_
  refine va_sld hx hb hX hbl hbA hS hin2 dL_law_639 ?_
  refine q_Vi C (rc := (RX4, TX4, 12)) (q0 := 25) (ci := 4) (ws' := wLW G oa f qm (sR st r) (wZ G q da qc qh qt qn qs qo V sr ta sc sh tb sn ss' so)) (wr := wL G oa 1 f ++ wM G qm (sR st r)) (wc := wZ G q da qc qh qt qn qs qo V sr ta sc sh tb sn ss so) (wc' := wZ G q da qc qh qt qn qs qo V sr ta sc sh tb sn ss' so) (c_X4_met (im := imO V) (pa := paO V) (yy := wV G V 14) (x := (x, ss')) e1) gL_law_X4_met rfl ⟨rfl, rfl⟩ hdX4_met ⟨(Nat.le_of_ble_eq_true rfl), (Nat.le_of_ble_eq_true rfl)⟩ rfl hP hD hS rfl rfl pm_abc pm_abc2 hl.1 (Nat.le_of_ble_eq_true rfl) hc1 rfl dL_law_640 (fun H locs hP hS => ?_)
  have hD : va_D A (wLW G oa f qm (sR st r) (wZ G q da qc qh qt qn qs qo V sr ta sc sh tb sn ss' so)) := dd_LW hD
  refine lv_aload_n hx hb dL_law_643 rfl (lv_at hl 2 rfl) ?_
  refine lv_aload_n hx hb dL_law_644 rfl (lv_at hl 0 rfl) ?_
  refine lv_iload hx hb dL_law_645 (lv_at hl 4 rfl) ?_
  refine lv_iconst (v := 1) hx hb dL_law_647 (by decide) ?_
  refine lv_iadd hx hb dL_law_648 ?_
  refine va_sld hx hb hX hbl hbA hS hin1 dL_law_649 ?_
  refine lv_aload_n hx hb dL_law_650 rfl (lv_at hl 0 rfl) ?_
  refine lv_iload hx hb dL_law_651 (lv_at hl 4 rfl) ?_
  refine lv_iconst (v := 2) hx hb dL_law_653 (by decide) ?_
  refine lv_iadd hx hb dL_law_654 ?_
  refine va_sld hx hb hX hbl hbA hS hin2 dL_law_655 ?_
  refine q_Vi C (rc := (RX5, TX5, 42)) (q0 := 1) (ci := 5) (ws' := wLW G oa f qm (sR st' r) (wZ G q da qc qh qt qn qs qo V sr ta sc sh tb sn ss' so)) (wr := wL G oa 1 f ++ wZ G q da qc qh qt qn qs qo V sr ta sc sh tb sn ss' so) (wc := wM G qm (sR st r)) (wc' := wM G qm (sR st' r)) (c_X5_met (x := (x, sR st' r)) e2) gL_law_X5_met rfl ⟨rfl, rfl⟩ hdX5_met ⟨(Nat.le_of_ble_eq_true rfl), (Nat.le_of_ble_eq_true rfl)⟩ rfl hP hD hS rfl rfl pm_mid pm_mid' hl.1 (Nat.le_of_ble_eq_true rfl) hc1 rfl dL_law_656 (fun H locs hP hS => ?_)
  have hD : va_D A (wLW G oa f qm (sR st' r) (wZ G q da qc qh qt qn qs qo V sr ta sc sh tb sn ss' so)) := dd_LW hD
  refine lv_icmp_eq (tgt := 1126) hx hb dL_law_659 (by decide) (fun _ => ?_) (fun c9 => absurd rfl c9)
  exact W.widen (by omega) (by omega) (K H locs ls ⟨f, V, sr, ta, sc, sh, tb, sn, ss', so, st', r, hR', hP, hD, hS⟩ hl)
set_option maxHeartbeats 400000 in
set_option maxRecDepth 100000 in
theorem law_rule (C0 : LC p l s m meth c G A b L k kc ks xs x00) (hLP : LWP G A s q da qc qh qt qn qs qo qm oa H locs) (hl : lv_has ls 7 (lvL b q qm oa k)) (K : KL p l e s m below meth c Q G A b k kc ks q da qc qh qt qn qs qo qm oa) : W p l e room_1 s m #[Value.ref b] below meth c H locs kc ks Q (F0 m 291 ls []) := by
  obtain ⟨C, hX, hbl, hbA, hk, hL, hkc, hks, h00, hfl⟩ := C0
  obtain ⟨f, V, sr, ta, sc, sh, tb, sn, ss, so, st, r, hR, hP, hD, hS⟩ := hLP
  have hx := C.1
  have hb := C.2.1
  have hc1 : kc ≤ room_1.cells ∧ ks ≤ room_1.slots := ⟨(show kc ≤ 601024 by omega), (show ks ≤ 7293033 by omega)⟩
  have hc2 : kc + 11 ≤ room_1.cells ∧ ks + 1661 ≤ room_1.slots := ⟨(show kc + 11 ≤ 601024 by omega), (show ks + 1661 ≤ 7293033 by omega)⟩
  have hin1 : vp_in (nI (6 * k) + 1) L := by rw [nI_1]; exact vp_in_nI (by omega) (by omega)
  have hin2 : vp_in (nI (6 * k) + 2) L := by rw [show nI (6 * k) + 2 = nI (6 * k + 2) from nI_add _ 2]; exact vp_in_nI (by omega) (by omega)
  have hin3 : vp_in (nI (6 * k) + 3) L := by rw [show nI (6 * k) + 3 = nI (6 * k + 3) from nI_add _ 3]; exact vp_in_nI (by omega) (by omega)
  have hin4 : vp_in (nI (6 * k) + 4) L := by rw [show nI (6 * k) + 4 = nI (6 * k + 4) from nI_add _ 4]; exact vp_in_nI (by omega) (by omega)
  have hin5 : vp_in (nI (6 * k) + 5) L := by rw [show nI (6 * k) + 5 = nI (6 * k + 5) from nI_add _ 5]; exact vp_in_nI (by omega) (by omega)
  obtain ⟨x, e1, e2⟩ := q_rule (st := st) hR.1.2 (xs (nI (6 * k) + 1).toNatClampNeg)
  refine lv_aload_n hx hb dL_law_291 rfl (lv_at hl 1 rfl) ?_
  refine lv_aload_n hx hb dL_law_292 rfl (lv_at hl 0 rfl) ?_
  refine lv_iload hx hb dL_law_293 (lv_at hl 4 rfl) ?_
  refine lv_iconst (v := 1) hx hb dL_law_295 (by decide) ?_
  refine lv_iadd hx hb dL_law_296 ?_
  refine va_sld hx hb hX hbl hbA hS hin1 dL_law_297 ?_
  refine q_Vi C (rc := (RX4, TX4, 12)) (q0 := 25) (ci := 4) (ws' := wLW G oa f qm (sR st r) (wZ G q da qc qh qt qn qs qo V sr ta sc sh tb sn ss so)) (wr := wL G oa 1 f ++ wM G qm (sR st r)) (wc := wZ G q da qc qh qt qn qs qo V sr ta sc sh tb sn ss so) (wc' := wZ G q da qc qh qt qn qs qo V sr ta sc sh tb sn ss so) (c_X4_rule (im := imO V) (pa := paO V) (yy := wV G V 14) e1) gL_law_X4_rule rfl ⟨rfl, rfl⟩ hdX4_rule ⟨(Nat.le_of_ble_eq_true rfl), (Nat.le_of_ble_eq_true rfl)⟩ rfl hP hD hS rfl rfl pm_abc pm_abc2 hl.1 (Nat.le_of_ble_eq_true rfl) hc1 rfl dL_law_298 (fun H locs hP hS => ?_)
  have hD : va_D A (wLW G oa f qm (sR st r) (wZ G q da qc qh qt qn qs qo V sr ta sc sh tb sn ss so)) := dd_LW hD
  refine lv_aload_n hx hb dL_law_301 rfl (lv_at hl 2 rfl) ?_
  refine lv_aload_n hx hb dL_law_302 rfl (lv_at hl 0 rfl) ?_
  refine lv_iload hx hb dL_law_303 (lv_at hl 4 rfl) ?_
  refine lv_iconst (v := 1) hx hb dL_law_305 (by decide) ?_
  refine lv_iadd hx hb dL_law_306 ?_
  refine va_sld hx hb hX hbl hbA hS hin1 dL_law_307 ?_
  refine q_Vi C (rc := (RX5, TX5, 42)) (q0 := 1) (ci := 5) (ws' := wLW G oa f qm (sR (sI st 0 0) r) (wZ G q da qc qh qt qn qs qo V sr ta sc sh tb sn ss so)) (wr := wL G oa 1 f ++ wZ G q da qc qh qt qn qs qo V sr ta sc sh tb sn ss so) (wc := wM G qm (sR st r)) (wc' := wM G qm (sR (sI st 0 0) r)) (c_X5_rule (x := (x, sR (sI st 0 0) r)) e2) gL_law_X5_rule rfl ⟨rfl, rfl⟩ hdX5_rule ⟨(Nat.le_of_ble_eq_true rfl), (Nat.le_of_ble_eq_true rfl)⟩ rfl hP hD hS rfl rfl pm_mid pm_mid' hl.1 (Nat.le_of_ble_eq_true rfl) hc1 rfl dL_law_308 (fun H locs hP hS => ?_)
  have hD : va_D A (wLW G oa f qm (sR (sI st 0 0) r) (wZ G q da qc qh qt qn qs qo V sr ta sc sh tb sn ss so)) := dd_LW hD
  refine lv_icmp_eq (tgt := 1126) hx hb dL_law_311 (by decide) (fun _ => ?_) (fun c9 => absurd rfl c9)
  exact W.widen (by omega) (by omega) (K H locs ls ⟨f, V, sr, ta, sc, sh, tb, sn, ss, so, sI st 0 0, r, hR.same (KP.i0 st), hP, hD, hS⟩ hl)
set_option maxHeartbeats 400000 in
set_option maxRecDepth 100000 in
theorem law_kind (C0 : LC p l s m meth c G A b L k kc ks xs x00) (hLP : LWP G A s q da qc qh qt qn qs qo qm oa H locs) (hl : lv_has ls 7 (lvL b q qm oa k)) (K : KL p l e s m below meth c Q G A b k kc ks q da qc qh qt qn qs qo qm oa) : W p l e room_1 s m #[Value.ref b] below meth c H locs kc ks Q (F0 m 316 ls []) := by
  obtain ⟨C, hX, hbl, hbA, hk, hL, hkc, hks, h00, hfl⟩ := C0
  obtain ⟨f, V, sr, ta, sc, sh, tb, sn, ss, so, st, r, hR, hP, hD, hS⟩ := hLP
  have hx := C.1
  have hb := C.2.1
  have hc1 : kc ≤ room_1.cells ∧ ks ≤ room_1.slots := ⟨(show kc ≤ 601024 by omega), (show ks ≤ 7293033 by omega)⟩
  have hc2 : kc + 11 ≤ room_1.cells ∧ ks + 1661 ≤ room_1.slots := ⟨(show kc + 11 ≤ 601024 by omega), (show ks + 1661 ≤ 7293033 by omega)⟩
  have hin1 : vp_in (nI (6 * k) + 1) L := by rw [nI_1]; exact vp_in_nI (by omega) (by omega)
  have hin2 : vp_in (nI (6 * k) + 2) L := by rw [show nI (6 * k) + 2 = nI (6 * k + 2) from nI_add _ 2]; exact vp_in_nI (by omega) (by omega)
  have hin3 : vp_in (nI (6 * k) + 3) L := by rw [show nI (6 * k) + 3 = nI (6 * k + 3) from nI_add _ 3]; exact vp_in_nI (by omega) (by omega)
  have hin4 : vp_in (nI (6 * k) + 4) L := by rw [show nI (6 * k) + 4 = nI (6 * k + 4) from nI_add _ 4]; exact vp_in_nI (by omega) (by omega)
  have hin5 : vp_in (nI (6 * k) + 5) L := by rw [show nI (6 * k) + 5 = nI (6 * k + 5) from nI_add _ 5]; exact vp_in_nI (by omega) (by omega)
  obtain ⟨x, e1, e2⟩ := q_kind (st := st) hR.1.1 hR.1.2 (xs (nI (6 * k) + 1).toNatClampNeg)
  refine lv_aload_n hx hb dL_law_316 rfl (lv_at hl 1 rfl) ?_
  refine lv_aload_n hx hb dL_law_317 rfl (lv_at hl 0 rfl) ?_
  refine lv_iload hx hb dL_law_318 (lv_at hl 4 rfl) ?_
  refine lv_iconst (v := 1) hx hb dL_law_320 (by decide) ?_
  refine lv_iadd hx hb dL_law_321 ?_
  refine va_sld hx hb hX hbl hbA hS hin1 dL_law_322 ?_
  refine q_Vi C (rc := (RX4, TX4, 12)) (q0 := 25) (ci := 4) (ws' := wLW G oa f qm (sR st r) (wZ G q da qc qh qt qn qs qo V sr ta sc sh tb sn ss so)) (wr := wL G oa 1 f ++ wM G qm (sR st r)) (wc := wZ G q da qc qh qt qn qs qo V sr ta sc sh tb sn ss so) (wc' := wZ G q da qc qh qt qn qs qo V sr ta sc sh tb sn ss so) (c_X4_kind (im := imO V) (pa := paO V) (yy := wV G V 14) e1) gL_law_X4_kind rfl ⟨rfl, rfl⟩ hdX4_kind ⟨(Nat.le_of_ble_eq_true rfl), (Nat.le_of_ble_eq_true rfl)⟩ rfl hP hD hS rfl rfl pm_abc pm_abc2 hl.1 (Nat.le_of_ble_eq_true rfl) hc1 rfl dL_law_323 (fun H locs hP hS => ?_)
  have hD : va_D A (wLW G oa f qm (sR st r) (wZ G q da qc qh qt qn qs qo V sr ta sc sh tb sn ss so)) := dd_LW hD
  refine lv_aload_n hx hb dL_law_326 rfl (lv_at hl 2 rfl) ?_
  refine lv_aload_n hx hb dL_law_327 rfl (lv_at hl 0 rfl) ?_
  refine lv_iload hx hb dL_law_328 (lv_at hl 4 rfl) ?_
  refine lv_iconst (v := 1) hx hb dL_law_330 (by decide) ?_
  refine lv_iadd hx hb dL_law_331 ?_
  refine va_sld hx hb hX hbl hbA hS hin1 dL_law_332 ?_
  refine q_Vi C (rc := (RX5, TX5, 42)) (q0 := 1) (ci := 5) (ws' := wLW G oa f qm (sR (sI st 0 0) r) (wZ G q da qc qh qt qn qs qo V sr ta sc sh tb sn ss so)) (wr := wL G oa 1 f ++ wZ G q da qc qh qt qn qs qo V sr ta sc sh tb sn ss so) (wc := wM G qm (sR st r)) (wc' := wM G qm (sR (sI st 0 0) r)) (c_X5_kind (x := (x, sR (sI st 0 0) r)) e2) gL_law_X5_kind rfl ⟨rfl, rfl⟩ hdX5_kind ⟨(Nat.le_of_ble_eq_true rfl), (Nat.le_of_ble_eq_true rfl)⟩ rfl hP hD hS rfl rfl pm_mid pm_mid' hl.1 (Nat.le_of_ble_eq_true rfl) hc1 rfl dL_law_333 (fun H locs hP hS => ?_)
  have hD : va_D A (wLW G oa f qm (sR (sI st 0 0) r) (wZ G q da qc qh qt qn qs qo V sr ta sc sh tb sn ss so)) := dd_LW hD
  refine lv_icmp_eq (tgt := 1126) hx hb dL_law_336 (by decide) (fun _ => ?_) (fun c9 => absurd rfl c9)
  exact W.widen (by omega) (by omega) (K H locs ls ⟨f, V, sr, ta, sc, sh, tb, sn, ss, so, sI st 0 0, r, hR.same (KP.i0 st), hP, hD, hS⟩ hl)
set_option maxHeartbeats 400000 in
set_option maxRecDepth 100000 in
theorem law_link (C0 : LC p l s m meth c G A b L k kc ks xs x00) (hLP : LWP G A s q da qc qh qt qn qs qo qm oa H locs) (hl : lv_has ls 7 (lvL b q qm oa k)) (K : KL p l e s m below meth c Q G A b k kc ks q da qc qh qt qn qs qo qm oa) : W p l e room_1 s m #[Value.ref b] below meth c H locs kc ks Q (F0 m 341 ls []) := by
  obtain ⟨C, hX, hbl, hbA, hk, hL, hkc, hks, h00, hfl⟩ := C0
  obtain ⟨f, V, sr, ta, sc, sh, tb, sn, ss, so, st, r, hR, hP, hD, hS⟩ := hLP
  have hx := C.1
  have hb := C.2.1
  have hc1 : kc ≤ room_1.cells ∧ ks ≤ room_1.slots := ⟨(show kc ≤ 601024 by omega), (show ks ≤ 7293033 by omega)⟩
  have hc2 : kc + 11 ≤ room_1.cells ∧ ks + 1661 ≤ room_1.slots := ⟨(show kc + 11 ≤ 601024 by omega), (show ks + 1661 ≤ 7293033 by omega)⟩
  have hin1 : vp_in (nI (6 * k) + 1) L := by rw [nI_1]; exact vp_in_nI (by omega) (by omega)
  have hin2 : vp_in (nI (6 * k) + 2) L := by rw [show nI (6 * k) + 2 = nI (6 * k + 2) from nI_add _ 2]; exact vp_in_nI (by omega) (by omega)
  have hin3 : vp_in (nI (6 * k) + 3) L := by rw [show nI (6 * k) + 3 = nI (6 * k + 3) from nI_add _ 3]; exact vp_in_nI (by omega) (by omega)
  have hin4 : vp_in (nI (6 * k) + 4) L := by rw [show nI (6 * k) + 4 = nI (6 * k + 4) from nI_add _ 4]; exact vp_in_nI (by omega) (by omega)
  have hin5 : vp_in (nI (6 * k) + 5) L := by rw [show nI (6 * k) + 5 = nI (6 * k + 5) from nI_add _ 5]; exact vp_in_nI (by omega) (by omega)
  obtain ⟨x, e1, e2⟩ := q_link (st := st) hR.1.1 hR.1.2 (xs (nI (6 * k) + 1).toNatClampNeg) (xs (nI (6 * k) + 2).toNatClampNeg)
  refine lv_aload_n hx hb dL_law_341 rfl (lv_at hl 1 rfl) ?_
  refine lv_aload_n hx hb dL_law_342 rfl (lv_at hl 0 rfl) ?_
  refine lv_iload hx hb dL_law_343 (lv_at hl 4 rfl) ?_
  refine lv_iconst (v := 1) hx hb dL_law_345 (by decide) ?_
  refine lv_iadd hx hb dL_law_346 ?_
  refine va_sld hx hb hX hbl hbA hS hin1 dL_law_347 ?_
  refine lv_aload_n hx hb dL_law_348 rfl (lv_at hl 0 rfl) ?_
  refine lv_iload hx hb dL_law_349 (lv_at hl 4 rfl) ?_
  refine lv_iconst (v := 2) hx hb dL_law_351 (by decide) ?_
  refine lv_iadd hx hb dL_law_352 ?_
  refine va_sld hx hb hX hbl hbA hS hin2 dL_law_353 ?_
  refine q_Vi C (rc := (RX4, TX4, 12)) (q0 := 25) (ci := 4) (ws' := wLW G oa f qm (sR st r) (wZ G q da qc qh qt qn qs qo V sr ta sc sh tb sn ss so)) (wr := wL G oa 1 f ++ wM G qm (sR st r)) (wc := wZ G q da qc qh qt qn qs qo V sr ta sc sh tb sn ss so) (wc' := wZ G q da qc qh qt qn qs qo V sr ta sc sh tb sn ss so) (c_X4_link (im := imO V) (pa := paO V) (yy := wV G V 14) e1) gL_law_X4_link rfl ⟨rfl, rfl⟩ hdX4_link ⟨(Nat.le_of_ble_eq_true rfl), (Nat.le_of_ble_eq_true rfl)⟩ rfl hP hD hS rfl rfl pm_abc pm_abc2 hl.1 (Nat.le_of_ble_eq_true rfl) hc1 rfl dL_law_354 (fun H locs hP hS => ?_)
  have hD : va_D A (wLW G oa f qm (sR st r) (wZ G q da qc qh qt qn qs qo V sr ta sc sh tb sn ss so)) := dd_LW hD
  refine lv_aload_n hx hb dL_law_357 rfl (lv_at hl 2 rfl) ?_
  refine lv_aload_n hx hb dL_law_358 rfl (lv_at hl 0 rfl) ?_
  refine lv_iload hx hb dL_law_359 (lv_at hl 4 rfl) ?_
  refine lv_iconst (v := 1) hx hb dL_law_361 (by decide) ?_
  refine lv_iadd hx hb dL_law_362 ?_
  refine va_sld hx hb hX hbl hbA hS hin1 dL_law_363 ?_
  refine lv_aload_n hx hb dL_law_364 rfl (lv_at hl 0 rfl) ?_
  refine lv_iload hx hb dL_law_365 (lv_at hl 4 rfl) ?_
  refine lv_iconst (v := 2) hx hb dL_law_367 (by decide) ?_
  refine lv_iadd hx hb dL_law_368 ?_
  refine va_sld hx hb hX hbl hbA hS hin2 dL_law_369 ?_
  refine q_Vi C (rc := (RX5, TX5, 42)) (q0 := 1) (ci := 5) (ws' := wLW G oa f qm (sR (sI st 0 0) r) (wZ G q da qc qh qt qn qs qo V sr ta sc sh tb sn ss so)) (wr := wL G oa 1 f ++ wZ G q da qc qh qt qn qs qo V sr ta sc sh tb sn ss so) (wc := wM G qm (sR st r)) (wc' := wM G qm (sR (sI st 0 0) r)) (c_X5_link (x := (x, sR (sI st 0 0) r)) e2) gL_law_X5_link rfl ⟨rfl, rfl⟩ hdX5_link ⟨(Nat.le_of_ble_eq_true rfl), (Nat.le_of_ble_eq_true rfl)⟩ rfl hP hD hS rfl rfl pm_mid pm_mid' hl.1 (Nat.le_of_ble_eq_true rfl) hc1 rfl dL_law_370 (fun H locs hP hS => ?_)
  have hD : va_D A (wLW G oa f qm (sR (sI st 0 0) r) (wZ G q da qc qh qt qn qs qo V sr ta sc sh tb sn ss so)) := dd_LW hD
  refine lv_icmp_eq (tgt := 1126) hx hb dL_law_373 (by decide) (fun _ => ?_) (fun c9 => absurd rfl c9)
  exact W.widen (by omega) (by omega) (K H locs ls ⟨f, V, sr, ta, sc, sh, tb, sn, ss, so, sI st 0 0, r, hR.same (KP.i0 st), hP, hD, hS⟩ hl)
set_option maxHeartbeats 400000 in
set_option maxRecDepth 100000 in
theorem law_root (C0 : LC p l s m meth c G A b L k kc ks xs x00) (hLP : LWP G A s q da qc qh qt qn qs qo qm oa H locs) (hl : lv_has ls 7 (lvL b q qm oa k)) (K : KL p l e s m below meth c Q G A b k kc ks q da qc qh qt qn qs qo qm oa) : W p l e room_1 s m #[Value.ref b] below meth c H locs kc ks Q (F0 m 378 ls []) := by
  obtain ⟨C, hX, hbl, hbA, hk, hL, hkc, hks, h00, hfl⟩ := C0
  obtain ⟨f, V, sr, ta, sc, sh, tb, sn, ss, so, st, r, hR, hP, hD, hS⟩ := hLP
  have hx := C.1
  have hb := C.2.1
  have hc1 : kc ≤ room_1.cells ∧ ks ≤ room_1.slots := ⟨(show kc ≤ 601024 by omega), (show ks ≤ 7293033 by omega)⟩
  have hc2 : kc + 11 ≤ room_1.cells ∧ ks + 1661 ≤ room_1.slots := ⟨(show kc + 11 ≤ 601024 by omega), (show ks + 1661 ≤ 7293033 by omega)⟩
  have hin1 : vp_in (nI (6 * k) + 1) L := by rw [nI_1]; exact vp_in_nI (by omega) (by omega)
  have hin2 : vp_in (nI (6 * k) + 2) L := by rw [show nI (6 * k) + 2 = nI (6 * k + 2) from nI_add _ 2]; exact vp_in_nI (by omega) (by omega)
  have hin3 : vp_in (nI (6 * k) + 3) L := by rw [show nI (6 * k) + 3 = nI (6 * k + 3) from nI_add _ 3]; exact vp_in_nI (by omega) (by omega)
  have hin4 : vp_in (nI (6 * k) + 4) L := by rw [show nI (6 * k) + 4 = nI (6 * k + 4) from nI_add _ 4]; exact vp_in_nI (by omega) (by omega)
  have hin5 : vp_in (nI (6 * k) + 5) L := by rw [show nI (6 * k) + 5 = nI (6 * k + 5) from nI_add _ 5]; exact vp_in_nI (by omega) (by omega)
  obtain ⟨x, e1, e2⟩ := q_root (st := st) hR.1.1 hR.1.2 (xs (nI (6 * k) + 1).toNatClampNeg)
  refine lv_aload_n hx hb dL_law_378 rfl (lv_at hl 1 rfl) ?_
  refine lv_aload_n hx hb dL_law_379 rfl (lv_at hl 0 rfl) ?_
  refine lv_iload hx hb dL_law_380 (lv_at hl 4 rfl) ?_
  refine lv_iconst (v := 1) hx hb dL_law_382 (by decide) ?_
  refine lv_iadd hx hb dL_law_383 ?_
  refine va_sld hx hb hX hbl hbA hS hin1 dL_law_384 ?_
  refine q_Vi C (rc := (RX4, TX4, 12)) (q0 := 25) (ci := 4) (ws' := wLW G oa f qm (sR st r) (wZ G q da qc qh qt qn qs qo V sr ta sc sh tb sn ss so)) (wr := wL G oa 1 f ++ wM G qm (sR st r)) (wc := wZ G q da qc qh qt qn qs qo V sr ta sc sh tb sn ss so) (wc' := wZ G q da qc qh qt qn qs qo V sr ta sc sh tb sn ss so) (c_X4_root (im := imO V) (pa := paO V) (yy := wV G V 14) e1) gL_law_X4_root rfl ⟨rfl, rfl⟩ hdX4_root ⟨(Nat.le_of_ble_eq_true rfl), (Nat.le_of_ble_eq_true rfl)⟩ rfl hP hD hS rfl rfl pm_abc pm_abc2 hl.1 (Nat.le_of_ble_eq_true rfl) hc1 rfl dL_law_385 (fun H locs hP hS => ?_)
  have hD : va_D A (wLW G oa f qm (sR st r) (wZ G q da qc qh qt qn qs qo V sr ta sc sh tb sn ss so)) := dd_LW hD
  refine lv_aload_n hx hb dL_law_388 rfl (lv_at hl 2 rfl) ?_
  refine lv_aload_n hx hb dL_law_389 rfl (lv_at hl 0 rfl) ?_
  refine lv_iload hx hb dL_law_390 (lv_at hl 4 rfl) ?_
  refine lv_iconst (v := 1) hx hb dL_law_392 (by decide) ?_
  refine lv_iadd hx hb dL_law_393 ?_
  refine va_sld hx hb hX hbl hbA hS hin1 dL_law_394 ?_
  refine q_Vi C (rc := (RX5, TX5, 42)) (q0 := 1) (ci := 5) (ws' := wLW G oa f qm (sR (sI st 0 0) r) (wZ G q da qc qh qt qn qs qo V sr ta sc sh tb sn ss so)) (wr := wL G oa 1 f ++ wZ G q da qc qh qt qn qs qo V sr ta sc sh tb sn ss so) (wc := wM G qm (sR st r)) (wc' := wM G qm (sR (sI st 0 0) r)) (c_X5_root (x := (x, sR (sI st 0 0) r)) e2) gL_law_X5_root rfl ⟨rfl, rfl⟩ hdX5_root ⟨(Nat.le_of_ble_eq_true rfl), (Nat.le_of_ble_eq_true rfl)⟩ rfl hP hD hS rfl rfl pm_mid pm_mid' hl.1 (Nat.le_of_ble_eq_true rfl) hc1 rfl dL_law_395 (fun H locs hP hS => ?_)
  have hD : va_D A (wLW G oa f qm (sR (sI st 0 0) r) (wZ G q da qc qh qt qn qs qo V sr ta sc sh tb sn ss so)) := dd_LW hD
  refine lv_icmp_eq (tgt := 1126) hx hb dL_law_398 (by decide) (fun _ => ?_) (fun c9 => absurd rfl c9)
  exact W.widen (by omega) (by omega) (K H locs ls ⟨f, V, sr, ta, sc, sh, tb, sn, ss, so, sI st 0 0, r, hR.same (KP.i0 st), hP, hD, hS⟩ hl)
set_option maxHeartbeats 400000 in
set_option maxRecDepth 100000 in
theorem law_rootAt (C0 : LC p l s m meth c G A b L k kc ks xs x00) (hLP : LWP G A s q da qc qh qt qn qs qo qm oa H locs) (hl : lv_has ls 7 (lvL b q qm oa k)) (K : KL p l e s m below meth c Q G A b k kc ks q da qc qh qt qn qs qo qm oa) : W p l e room_1 s m #[Value.ref b] below meth c H locs kc ks Q (F0 m 403 ls []) := by
  obtain ⟨C, hX, hbl, hbA, hk, hL, hkc, hks, h00, hfl⟩ := C0
  obtain ⟨f, V, sr, ta, sc, sh, tb, sn, ss, so, st, r, hR, hP, hD, hS⟩ := hLP
  have hx := C.1
  have hb := C.2.1
  have hc1 : kc ≤ room_1.cells ∧ ks ≤ room_1.slots := ⟨(show kc ≤ 601024 by omega), (show ks ≤ 7293033 by omega)⟩
  have hc2 : kc + 11 ≤ room_1.cells ∧ ks + 1661 ≤ room_1.slots := ⟨(show kc + 11 ≤ 601024 by omega), (show ks + 1661 ≤ 7293033 by omega)⟩
  have hin1 : vp_in (nI (6 * k) + 1) L := by rw [nI_1]; exact vp_in_nI (by omega) (by omega)
  have hin2 : vp_in (nI (6 * k) + 2) L := by rw [show nI (6 * k) + 2 = nI (6 * k + 2) from nI_add _ 2]; exact vp_in_nI (by omega) (by omega)
  have hin3 : vp_in (nI (6 * k) + 3) L := by rw [show nI (6 * k) + 3 = nI (6 * k + 3) from nI_add _ 3]; exact vp_in_nI (by omega) (by omega)
  have hin4 : vp_in (nI (6 * k) + 4) L := by rw [show nI (6 * k) + 4 = nI (6 * k + 4) from nI_add _ 4]; exact vp_in_nI (by omega) (by omega)
  have hin5 : vp_in (nI (6 * k) + 5) L := by rw [show nI (6 * k) + 5 = nI (6 * k + 5) from nI_add _ 5]; exact vp_in_nI (by omega) (by omega)
  obtain ⟨x, e1, e2⟩ := q_rootAt (st := st) hR.1.1 hR.1.2 (xs (nI (6 * k) + 1).toNatClampNeg)
  refine lv_aload_n hx hb dL_law_403 rfl (lv_at hl 1 rfl) ?_
  refine lv_aload_n hx hb dL_law_404 rfl (lv_at hl 0 rfl) ?_
  refine lv_iload hx hb dL_law_405 (lv_at hl 4 rfl) ?_
  refine lv_iconst (v := 1) hx hb dL_law_407 (by decide) ?_
  refine lv_iadd hx hb dL_law_408 ?_
  refine va_sld hx hb hX hbl hbA hS hin1 dL_law_409 ?_
  refine q_Vi C (rc := (RX4, TX4, 12)) (q0 := 25) (ci := 4) (ws' := wLW G oa f qm (sR st r) (wZ G q da qc qh qt qn qs qo V sr ta sc sh tb sn ss so)) (wr := wL G oa 1 f ++ wM G qm (sR st r)) (wc := wZ G q da qc qh qt qn qs qo V sr ta sc sh tb sn ss so) (wc' := wZ G q da qc qh qt qn qs qo V sr ta sc sh tb sn ss so) (c_X4_rootAt (im := imO V) (pa := paO V) (yy := wV G V 14) e1) gL_law_X4_rootAt rfl ⟨rfl, rfl⟩ hdX4_rootAt ⟨(Nat.le_of_ble_eq_true rfl), (Nat.le_of_ble_eq_true rfl)⟩ rfl hP hD hS rfl rfl pm_abc pm_abc2 hl.1 (Nat.le_of_ble_eq_true rfl) hc1 rfl dL_law_410 (fun H locs hP hS => ?_)
  have hD : va_D A (wLW G oa f qm (sR st r) (wZ G q da qc qh qt qn qs qo V sr ta sc sh tb sn ss so)) := dd_LW hD
  refine lv_aload_n hx hb dL_law_413 rfl (lv_at hl 2 rfl) ?_
  refine lv_aload_n hx hb dL_law_414 rfl (lv_at hl 0 rfl) ?_
  refine lv_iload hx hb dL_law_415 (lv_at hl 4 rfl) ?_
  refine lv_iconst (v := 1) hx hb dL_law_417 (by decide) ?_
  refine lv_iadd hx hb dL_law_418 ?_
  refine va_sld hx hb hX hbl hbA hS hin1 dL_law_419 ?_
  refine q_Vi C (rc := (RX5, TX5, 42)) (q0 := 1) (ci := 5) (ws' := wLW G oa f qm (sR (sI st 0 0) r) (wZ G q da qc qh qt qn qs qo V sr ta sc sh tb sn ss so)) (wr := wL G oa 1 f ++ wZ G q da qc qh qt qn qs qo V sr ta sc sh tb sn ss so) (wc := wM G qm (sR st r)) (wc' := wM G qm (sR (sI st 0 0) r)) (c_X5_rootAt (x := (x, sR (sI st 0 0) r)) e2) gL_law_X5_rootAt rfl ⟨rfl, rfl⟩ hdX5_rootAt ⟨(Nat.le_of_ble_eq_true rfl), (Nat.le_of_ble_eq_true rfl)⟩ rfl hP hD hS rfl rfl pm_mid pm_mid' hl.1 (Nat.le_of_ble_eq_true rfl) hc1 rfl dL_law_420 (fun H locs hP hS => ?_)
  have hD : va_D A (wLW G oa f qm (sR (sI st 0 0) r) (wZ G q da qc qh qt qn qs qo V sr ta sc sh tb sn ss so)) := dd_LW hD
  refine lv_icmp_eq (tgt := 1126) hx hb dL_law_423 (by decide) (fun _ => ?_) (fun c9 => absurd rfl c9)
  exact W.widen (by omega) (by omega) (K H locs ls ⟨f, V, sr, ta, sc, sh, tb, sn, ss, so, sI st 0 0, r, hR.same (KP.i0 st), hP, hD, hS⟩ hl)
set_option maxHeartbeats 400000 in
set_option maxRecDepth 100000 in
theorem law_pair (C0 : LC p l s m meth c G A b L k kc ks xs x00) (hLP : LWP G A s q da qc qh qt qn qs qo qm oa H locs) (hl : lv_has ls 7 (lvL b q qm oa k)) (K : KL p l e s m below meth c Q G A b k kc ks q da qc qh qt qn qs qo qm oa) : W p l e room_1 s m #[Value.ref b] below meth c H locs kc ks Q (F0 m 428 ls []) := by
  obtain ⟨C, hX, hbl, hbA, hk, hL, hkc, hks, h00, hfl⟩ := C0
  obtain ⟨f, V, sr, ta, sc, sh, tb, sn, ss, so, st, r, hR, hP, hD, hS⟩ := hLP
  have hx := C.1
  have hb := C.2.1
  have hc1 : kc ≤ room_1.cells ∧ ks ≤ room_1.slots := ⟨(show kc ≤ 601024 by omega), (show ks ≤ 7293033 by omega)⟩
  have hc2 : kc + 11 ≤ room_1.cells ∧ ks + 1661 ≤ room_1.slots := ⟨(show kc + 11 ≤ 601024 by omega), (show ks + 1661 ≤ 7293033 by omega)⟩
  have hin1 : vp_in (nI (6 * k) + 1) L := by rw [nI_1]; exact vp_in_nI (by omega) (by omega)
  have hin2 : vp_in (nI (6 * k) + 2) L := by rw [show nI (6 * k) + 2 = nI (6 * k + 2) from nI_add _ 2]; exact vp_in_nI (by omega) (by omega)
  have hin3 : vp_in (nI (6 * k) + 3) L := by rw [show nI (6 * k) + 3 = nI (6 * k + 3) from nI_add _ 3]; exact vp_in_nI (by omega) (by omega)
  have hin4 : vp_in (nI (6 * k) + 4) L := by rw [show nI (6 * k) + 4 = nI (6 * k + 4) from nI_add _ 4]; exact vp_in_nI (by omega) (by omega)
  have hin5 : vp_in (nI (6 * k) + 5) L := by rw [show nI (6 * k) + 5 = nI (6 * k + 5) from nI_add _ 5]; exact vp_in_nI (by omega) (by omega)
  obtain ⟨x, e1, e2⟩ := q_pair (st := st) hR.1.1 hR.1.2 (xs (nI (6 * k) + 1).toNatClampNeg) (xs (nI (6 * k) + 2).toNatClampNeg)
  refine lv_aload_n hx hb dL_law_428 rfl (lv_at hl 1 rfl) ?_
  refine lv_aload_n hx hb dL_law_429 rfl (lv_at hl 0 rfl) ?_
  refine lv_iload hx hb dL_law_430 (lv_at hl 4 rfl) ?_
  refine lv_iconst (v := 1) hx hb dL_law_432 (by decide) ?_
  refine lv_iadd hx hb dL_law_433 ?_
  refine va_sld hx hb hX hbl hbA hS hin1 dL_law_434 ?_
  refine lv_aload_n hx hb dL_law_435 rfl (lv_at hl 0 rfl) ?_
  refine lv_iload hx hb dL_law_436 (lv_at hl 4 rfl) ?_
  refine lv_iconst (v := 2) hx hb dL_law_438 (by decide) ?_
  refine lv_iadd hx hb dL_law_439 ?_
  refine va_sld hx hb hX hbl hbA hS hin2 dL_law_440 ?_
  refine q_Vi C (rc := (RX4, TX4, 12)) (q0 := 25) (ci := 4) (ws' := wLW G oa f qm (sR st r) (wZ G q da qc qh qt qn qs qo V sr ta sc sh tb sn ss so)) (wr := wL G oa 1 f ++ wM G qm (sR st r)) (wc := wZ G q da qc qh qt qn qs qo V sr ta sc sh tb sn ss so) (wc' := wZ G q da qc qh qt qn qs qo V sr ta sc sh tb sn ss so) (c_X4_pair (im := imO V) (pa := paO V) (yy := wV G V 14) e1) gL_law_X4_pair rfl ⟨rfl, rfl⟩ hdX4_pair ⟨(Nat.le_of_ble_eq_true rfl), (Nat.le_of_ble_eq_true rfl)⟩ rfl hP hD hS rfl rfl pm_abc pm_abc2 hl.1 (Nat.le_of_ble_eq_true rfl) hc1 rfl dL_law_441 (fun H locs hP hS => ?_)
  have hD : va_D A (wLW G oa f qm (sR st r) (wZ G q da qc qh qt qn qs qo V sr ta sc sh tb sn ss so)) := dd_LW hD
  refine lv_aload_n hx hb dL_law_444 rfl (lv_at hl 2 rfl) ?_
  refine lv_aload_n hx hb dL_law_445 rfl (lv_at hl 0 rfl) ?_
  refine lv_iload hx hb dL_law_446 (lv_at hl 4 rfl) ?_
  refine lv_iconst (v := 1) hx hb dL_law_448 (by decide) ?_
  refine lv_iadd hx hb dL_law_449 ?_
  refine va_sld hx hb hX hbl hbA hS hin1 dL_law_450 ?_
  refine lv_aload_n hx hb dL_law_451 rfl (lv_at hl 0 rfl) ?_
  refine lv_iload hx hb dL_law_452 (lv_at hl 4 rfl) ?_
  refine lv_iconst (v := 2) hx hb dL_law_454 (by decide) ?_
  refine lv_iadd hx hb dL_law_455 ?_
  refine va_sld hx hb hX hbl hbA hS hin2 dL_law_456 ?_
  refine q_Vi C (rc := (RX5, TX5, 42)) (q0 := 1) (ci := 5) (ws' := wLW G oa f qm (sR (sI st 0 0) r) (wZ G q da qc qh qt qn qs qo V sr ta sc sh tb sn ss so)) (wr := wL G oa 1 f ++ wZ G q da qc qh qt qn qs qo V sr ta sc sh tb sn ss so) (wc := wM G qm (sR st r)) (wc' := wM G qm (sR (sI st 0 0) r)) (c_X5_pair (x := (x, sR (sI st 0 0) r)) e2) gL_law_X5_pair rfl ⟨rfl, rfl⟩ hdX5_pair ⟨(Nat.le_of_ble_eq_true rfl), (Nat.le_of_ble_eq_true rfl)⟩ rfl hP hD hS rfl rfl pm_mid pm_mid' hl.1 (Nat.le_of_ble_eq_true rfl) hc1 rfl dL_law_457 (fun H locs hP hS => ?_)
  have hD : va_D A (wLW G oa f qm (sR (sI st 0 0) r) (wZ G q da qc qh qt qn qs qo V sr ta sc sh tb sn ss so)) := dd_LW hD
  refine lv_icmp_eq (tgt := 1126) hx hb dL_law_460 (by decide) (fun _ => ?_) (fun c9 => absurd rfl c9)
  exact W.widen (by omega) (by omega) (K H locs ls ⟨f, V, sr, ta, sc, sh, tb, sn, ss, so, sI st 0 0, r, hR.same (KP.i0 st), hP, hD, hS⟩ hl)
set_option maxHeartbeats 400000 in
set_option maxRecDepth 100000 in
theorem law_next (C0 : LC p l s m meth c G A b L k kc ks xs x00) (hLP : LWP G A s q da qc qh qt qn qs qo qm oa H locs) (hl : lv_has ls 7 (lvL b q qm oa k)) (K : KL p l e s m below meth c Q G A b k kc ks q da qc qh qt qn qs qo qm oa) : W p l e room_1 s m #[Value.ref b] below meth c H locs kc ks Q (F0 m 465 ls []) := by
  obtain ⟨C, hX, hbl, hbA, hk, hL, hkc, hks, h00, hfl⟩ := C0
  obtain ⟨f, V, sr, ta, sc, sh, tb, sn, ss, so, st, r, hR, hP, hD, hS⟩ := hLP
  have hx := C.1
  have hb := C.2.1
  have hc1 : kc ≤ room_1.cells ∧ ks ≤ room_1.slots := ⟨(show kc ≤ 601024 by omega), (show ks ≤ 7293033 by omega)⟩
  have hc2 : kc + 11 ≤ room_1.cells ∧ ks + 1661 ≤ room_1.slots := ⟨(show kc + 11 ≤ 601024 by omega), (show ks + 1661 ≤ 7293033 by omega)⟩
  have hin1 : vp_in (nI (6 * k) + 1) L := by rw [nI_1]; exact vp_in_nI (by omega) (by omega)
  have hin2 : vp_in (nI (6 * k) + 2) L := by rw [show nI (6 * k) + 2 = nI (6 * k + 2) from nI_add _ 2]; exact vp_in_nI (by omega) (by omega)
  have hin3 : vp_in (nI (6 * k) + 3) L := by rw [show nI (6 * k) + 3 = nI (6 * k + 3) from nI_add _ 3]; exact vp_in_nI (by omega) (by omega)
  have hin4 : vp_in (nI (6 * k) + 4) L := by rw [show nI (6 * k) + 4 = nI (6 * k + 4) from nI_add _ 4]; exact vp_in_nI (by omega) (by omega)
  have hin5 : vp_in (nI (6 * k) + 5) L := by rw [show nI (6 * k) + 5 = nI (6 * k + 5) from nI_add _ 5]; exact vp_in_nI (by omega) (by omega)
  obtain ⟨x, e1, e2⟩ := q_next (st := st) hR.1.1 hR.1.2 (xs (nI (6 * k) + 1).toNatClampNeg)
  refine lv_aload_n hx hb dL_law_465 rfl (lv_at hl 1 rfl) ?_
  refine lv_aload_n hx hb dL_law_466 rfl (lv_at hl 0 rfl) ?_
  refine lv_iload hx hb dL_law_467 (lv_at hl 4 rfl) ?_
  refine lv_iconst (v := 1) hx hb dL_law_469 (by decide) ?_
  refine lv_iadd hx hb dL_law_470 ?_
  refine va_sld hx hb hX hbl hbA hS hin1 dL_law_471 ?_
  refine q_Vi C (rc := (RX4, TX4, 12)) (q0 := 25) (ci := 4) (ws' := wLW G oa f qm (sR st r) (wZ G q da qc qh qt qn qs qo V sr ta sc sh tb sn ss so)) (wr := wL G oa 1 f ++ wM G qm (sR st r)) (wc := wZ G q da qc qh qt qn qs qo V sr ta sc sh tb sn ss so) (wc' := wZ G q da qc qh qt qn qs qo V sr ta sc sh tb sn ss so) (c_X4_next (im := imO V) (pa := paO V) (yy := wV G V 14) e1) gL_law_X4_next rfl ⟨rfl, rfl⟩ hdX4_next ⟨(Nat.le_of_ble_eq_true rfl), (Nat.le_of_ble_eq_true rfl)⟩ rfl hP hD hS rfl rfl pm_abc pm_abc2 hl.1 (Nat.le_of_ble_eq_true rfl) hc1 rfl dL_law_472 (fun H locs hP hS => ?_)
  have hD : va_D A (wLW G oa f qm (sR st r) (wZ G q da qc qh qt qn qs qo V sr ta sc sh tb sn ss so)) := dd_LW hD
  refine lv_aload_n hx hb dL_law_475 rfl (lv_at hl 2 rfl) ?_
  refine lv_aload_n hx hb dL_law_476 rfl (lv_at hl 0 rfl) ?_
  refine lv_iload hx hb dL_law_477 (lv_at hl 4 rfl) ?_
  refine lv_iconst (v := 1) hx hb dL_law_479 (by decide) ?_
  refine lv_iadd hx hb dL_law_480 ?_
  refine va_sld hx hb hX hbl hbA hS hin1 dL_law_481 ?_
  refine q_Vi C (rc := (RX5, TX5, 42)) (q0 := 1) (ci := 5) (ws' := wLW G oa f qm (sR (sI st 0 0) r) (wZ G q da qc qh qt qn qs qo V sr ta sc sh tb sn ss so)) (wr := wL G oa 1 f ++ wZ G q da qc qh qt qn qs qo V sr ta sc sh tb sn ss so) (wc := wM G qm (sR st r)) (wc' := wM G qm (sR (sI st 0 0) r)) (c_X5_next (x := (x, sR (sI st 0 0) r)) e2) gL_law_X5_next rfl ⟨rfl, rfl⟩ hdX5_next ⟨(Nat.le_of_ble_eq_true rfl), (Nat.le_of_ble_eq_true rfl)⟩ rfl hP hD hS rfl rfl pm_mid pm_mid' hl.1 (Nat.le_of_ble_eq_true rfl) hc1 rfl dL_law_482 (fun H locs hP hS => ?_)
  have hD : va_D A (wLW G oa f qm (sR (sI st 0 0) r) (wZ G q da qc qh qt qn qs qo V sr ta sc sh tb sn ss so)) := dd_LW hD
  refine lv_icmp_eq (tgt := 1126) hx hb dL_law_485 (by decide) (fun _ => ?_) (fun c9 => absurd rfl c9)
  exact W.widen (by omega) (by omega) (K H locs ls ⟨f, V, sr, ta, sc, sh, tb, sn, ss, so, sI st 0 0, r, hR.same (KP.i0 st), hP, hD, hS⟩ hl)
end LAW
