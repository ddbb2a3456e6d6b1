section LAW
variable {p : Program} {l : Launch} {e : Env} {s : State} {m : MethodId} {below : List Frame} {meth : Method} {c : Code} {H : Heap} {locs : List Loc} {Q : State → Prop} {G : Gx} {A : Nat → Prop} {ls : Array Slot} {b L k kc ks : Nat} {xs : Nat → Int32} {q : Nat → Nat} {da : Nat} {qc qh qt qn qs qo qm : Nat → Nat} {oa : Nat} {x00 : NSt}
set_option maxHeartbeats 400000 in
set_option maxRecDepth 100000 in
theorem law_run (C0 : LC p l s m meth c G A b L k kc ks xs x00) (hLP : LWP G A s q da qc qh qt qn qs qo qm oa H locs) (hl : lv_has ls 7 (lvL b q qm oa k)) (K : KL p l e s m below meth c Q G A b k kc ks q da qc qh qt qn qs qo qm oa) : W p l e room_1 s m #[Value.ref b] below meth c H locs kc ks Q (F0 m 664 ls []) := by
  obtain ⟨C, hX, hbl, hbA, hk, hL, hkc, hks, h00, hfl⟩ := C0
  obtain ⟨f, V, sr, ta, sc, sh, tb, sn, ss, so, st, r, hR, hP, hD, hS⟩ := hLP
  have hx := C.1
  have hb := C.2.1
  have hc1 : kc ≤ room_1.cells ∧ ks ≤ room_1.slots := ⟨(show kc ≤ 601024 by omega), (show ks ≤ 7293033 by omega)⟩
  have hc2 : kc + 11 ≤ room_1.cells ∧ ks + 1661 ≤ room_1.slots := ⟨(show kc + 11 ≤ 601024 by omega), (show ks + 1661 ≤ 7293033 by omega)⟩
  have hin1 : vp_in (nI (6 * k) + 1) L := by rw [nI_1]; exact vp_in_nI (by omega) (by omega)
  have hin2 : vp_in (nI (6 * k) + 2) L := by rw [show nI (6 * k) + 2 = nI (6 * k + 2) from nI_add _ 2]; exact vp_in_nI (by omega) (by omega)
  have hin3 : vp_in (nI (6 * k) + 3) L := by rw [show nI (6 * k) + 3 = nI (6 * k + 3) from nI_add _ 3]; exact vp_in_nI (by omega) (by omega)
  have hin4 : vp_in (nI (6 * k) + 4) L := by rw [show nI (6 * k) + 4 = nI (6 * k + 4) from nI_add _ 4]; exact vp_in_nI (by omega) (by omega)
  have hin5 : vp_in (nI (6 * k) + 5) L := by rw [show nI (6 * k) + 5 = nI (6 * k + 5) from nI_add _ 5]; exact vp_in_nI (by omega) (by omega)
  obtain ⟨g, x, sc', st', r', e1, e2, hj⟩ := L_run h00 hR (xs (nI (6 * k) + 1).toNatClampNeg) (xs (nI (6 * k) + 2).toNatClampNeg) (xs (nI (6 * k) + 3).toNatClampNeg)
  refine lv_aload_n hx hb dL_law_664 rfl (lv_at hl 1 rfl) ?_
  refine lv_aload_n hx hb dL_law_665 rfl (lv_at hl 0 rfl) ?_
  refine lv_iload hx hb dL_law_666 (lv_at hl 4 rfl) ?_
  refine lv_iconst (v := 1) hx hb dL_law_668 (by decide) ?_
  refine lv_iadd hx hb dL_law_669 ?_
  refine va_sld hx hb hX hbl hbA hS hin1 dL_law_670 ?_
  refine lv_aload_n hx hb dL_law_671 rfl (lv_at hl 0 rfl) ?_
  refine lv_iload hx hb dL_law_672 (lv_at hl 4 rfl) ?_
  refine lv_iconst (v := 2) hx hb dL_law_674 (by decide) ?_
  refine lv_iadd hx hb dL_law_675 ?_
  refine va_sld hx hb hX hbl hbA hS hin2 dL_law_676 ?_
  refine lv_aload_n hx hb dL_law_677 rfl (lv_at hl 0 rfl) ?_
  refine lv_iload hx hb dL_law_678 (lv_at hl 4 rfl) ?_
  refine lv_iconst (v := 3) hx hb dL_law_680 (by decide) ?_
  refine lv_iadd hx hb dL_law_681 ?_
  refine va_sld hx hb hX hbl hbA hS hin3 dL_law_682 ?_
  refine q_VG C (rc := (RX4, TX4, 12)) (q0 := 25) (ci := 4) (wr := wL G oa 1 f ++ wM G qm (sR st r)) (wc := wZ G q da qc qh qt qn qs qo V sr ta sc sh tb sn ss so) (c_X4_run (x := (g, x, sc')) (hR.rh h00) e1) gL_law_X4_run rfl ⟨rfl, rfl⟩ hdX4_run ⟨(Nat.le_of_ble_eq_true rfl), (Nat.le_of_ble_eq_true rfl)⟩ rfl hP hD hS rfl rfl pm_abc hl.1 (Nat.le_of_ble_eq_true rfl) hc2 rfl dL_law_683 (fun r9 w9 H locs hBB hP hD hS => ?_)
  obtain ⟨rfl, V', sr', hz, rfl⟩ := hBB
  have hR' := hj V' sr' hz
  have hP : va_P G.1 vwCl (wLW G oa f qm (sR st r) (wZ G q da qc qh qt qn qs qo V' sr' ta sc' sh tb sn ss so)) H := hP.perm pm_abc2
  have hD : va_D A (wLW G oa f qm (sR st r) (wZ G q da qc qh qt qn qs qo V' sr' ta sc' sh tb sn ss so)) := hD.perm pm_abc2
  show W p l e room_1 s m #[Value.ref b] below meth c H locs (kc + 11) (ks + 1661) Q (F0 m 686 ls [.int x])
  refine lv_aload_n hx hb dL_law_686 rfl (lv_at hl 2 rfl) ?_
  refine lv_aload_n hx hb dL_law_687 rfl (lv_at hl 0 rfl) ?_
  refine lv_iload hx hb dL_law_688 (lv_at hl 4 rfl) ?_
  refine lv_iconst (v := 1) hx hb dL_law_690 (by decide) ?_
  refine lv_iadd hx hb dL_law_691 ?_
  refine va_sld hx hb hX hbl hbA hS hin1 dL_law_692 ?_
  refine lv_aload_n hx hb dL_law_693 rfl (lv_at hl 0 rfl) ?_
  refine lv_iload hx hb dL_law_694 (lv_at hl 4 rfl) ?_
  refine lv_iconst (v := 2) hx hb dL_law_696 (by decide) ?_
  refine lv_iadd hx hb dL_law_697 ?_
  refine va_sld hx hb hX hbl hbA hS hin2 dL_law_698 ?_
  refine lv_aload_n hx hb dL_law_699 rfl (lv_at hl 0 rfl) ?_
  refine lv_iload hx hb dL_law_700 (lv_at hl 4 rfl) ?_
  refine lv_iconst (v := 3) hx hb dL_law_702 (by decide) ?_
  refine lv_iadd hx hb dL_law_703 ?_
  refine va_sld hx hb hX hbl hbA hS hin3 dL_law_704 ?_
  refine q_Vi C (rc := (RX5, TX5, 42)) (q0 := 1) (ci := 5) (ws' := wLW G oa f qm (sR st' r') (wZ G q da qc qh qt qn qs qo V' sr' ta sc' sh tb sn ss so)) (wr := wL G oa 1 f ++ wZ G q da qc qh qt qn qs qo V' sr' ta sc' sh tb sn ss so) (wc := wM G qm (sR st r)) (wc' := wM G qm (sR st' r')) (c_X5_run (x := (x, sR st' r')) e2) gL_law_X5_run rfl ⟨rfl, rfl⟩ hdX5_run ⟨(Nat.le_of_ble_eq_true rfl), (Nat.le_of_ble_eq_true rfl)⟩ rfl hP hD hS rfl rfl pm_mid pm_mid' hl.1 (Nat.le_of_ble_eq_true rfl) hc2 rfl dL_law_705 (fun H locs hP hS => ?_)
  have hD : va_D A (wLW G oa f qm (sR st' r') (wZ G q da qc qh qt qn qs qo V' sr' ta sc' sh tb sn ss so)) := dd_LW hD
  refine lv_icmp_eq (tgt := 1126) hx hb dL_law_708 (by decide) (fun _ => ?_) (fun c9 => absurd rfl c9)
  exact W.widen (by omega) (by omega) (K H locs ls ⟨f, V', sr', ta, sc', sh, tb, sn, ss, so, st', r', hR', hP, hD, hS⟩ hl)
set_option maxHeartbeats 400000 in
set_option maxRecDepth 100000 in
theorem law_round (C0 : LC p l s m meth c G A b L k kc ks xs x00) (hLP : LWP G A s q da qc qh qt qn qs qo qm oa H locs) (hl : lv_has ls 7 (lvL b q qm oa k)) (K : KL p l e s m below meth c Q G A b k kc ks q da qc qh qt qn qs qo qm oa) : W p l e room_1 s m #[Value.ref b] below meth c H locs kc ks Q (F0 m 713 ls []) := by
  obtain ⟨C, hX, hbl, hbA, hk, hL, hkc, hks, h00, hfl⟩ := C0
  obtain ⟨f, V, sr, ta, sc, sh, tb, sn, ss, so, st, r, hR, hP, hD, hS⟩ := hLP
  have hx := C.1
  have hb := C.2.1
  have hc1 : kc ≤ room_1.cells ∧ ks ≤ room_1.slots := ⟨(show kc ≤ 601024 by omega), (show ks ≤ 7293033 by omega)⟩
  have hc2 : kc + 11 ≤ room_1.cells ∧ ks + 1661 ≤ room_1.slots := ⟨(show kc + 11 ≤ 601024 by omega), (show ks + 1661 ≤ 7293033 by omega)⟩
  have hin1 : vp_in (nI (6 * k) + 1) L := by rw [nI_1]; exact vp_in_nI (by omega) (by omega)
  have hin2 : vp_in (nI (6 * k) + 2) L := by rw [show nI (6 * k) + 2 = nI (6 * k + 2) from nI_add _ 2]; exact vp_in_nI (by omega) (by omega)
  have hin3 : vp_in (nI (6 * k) + 3) L := by rw [show nI (6 * k) + 3 = nI (6 * k + 3) from nI_add _ 3]; exact vp_in_nI (by omega) (by omega)
  have hin4 : vp_in (nI (6 * k) + 4) L := by rw [show nI (6 * k) + 4 = nI (6 * k + 4) from nI_add _ 4]; exact vp_in_nI (by omega) (by omega)
  have hin5 : vp_in (nI (6 * k) + 5) L := by rw [show nI (6 * k) + 5 = nI (6 * k + 5) from nI_add _ 5]; exact vp_in_nI (by omega) (by omega)
  obtain ⟨g, x, sc', st', r', e1, e2, hj⟩ := L_round h00 hR 
  refine lv_aload_n hx hb dL_law_713 rfl (lv_at hl 1 rfl) ?_
  refine q_VG C (rc := (RX4, TX4, 12)) (q0 := 25) (ci := 4) (wr := wL G oa 1 f ++ wM G qm (sR st r)) (wc := wZ G q da qc qh qt qn qs qo V sr ta sc sh tb sn ss so) (c_X4_round (x := (g, x, sc')) (hR.rh h00) e1) gL_law_X4_round rfl ⟨rfl, rfl⟩ hdX4_round ⟨(Nat.le_of_ble_eq_true rfl), (Nat.le_of_ble_eq_true rfl)⟩ rfl hP hD hS rfl rfl pm_abc hl.1 (Nat.le_of_ble_eq_true rfl) hc2 rfl dL_law_714 (fun r9 w9 H locs hBB hP hD hS => ?_)
  obtain ⟨rfl, V', sr', hz, rfl⟩ := hBB
  have hR' := hj V' sr' hz
  have hP : va_P G.1 vwCl (wLW G oa f qm (sR st r) (wZ G q da qc qh qt qn qs qo V' sr' ta sc' sh tb sn ss so)) H := hP.perm pm_abc2
  have hD : va_D A (wLW G oa f qm (sR st r) (wZ G q da qc qh qt qn qs qo V' sr' ta sc' sh tb sn ss so)) := hD.perm pm_abc2
  show W p l e room_1 s m #[Value.ref b] below meth c H locs (kc + 11) (ks + 1661) Q (F0 m 717 ls [.int x])
  refine lv_aload_n hx hb dL_law_717 rfl (lv_at hl 2 rfl) ?_
  refine q_Vi C (rc := (RX5, TX5, 42)) (q0 := 1) (ci := 5) (ws' := wLW G oa f qm (sR st' r') (wZ G q da qc qh qt qn qs qo V' sr' ta sc' sh tb sn ss so)) (wr := wL G oa 1 f ++ wZ G q da qc qh qt qn qs qo V' sr' ta sc' sh tb sn ss so) (wc := wM G qm (sR st r)) (wc' := wM G qm (sR st' r')) (c_X5_round (x := (x, sR st' r')) e2) gL_law_X5_round rfl ⟨rfl, rfl⟩ hdX5_round ⟨(Nat.le_of_ble_eq_true rfl), (Nat.le_of_ble_eq_true rfl)⟩ rfl hP hD hS rfl rfl pm_mid pm_mid' hl.1 (Nat.le_of_ble_eq_true rfl) hc2 rfl dL_law_718 (fun H locs hP hS => ?_)
  have hD : va_D A (wLW G oa f qm (sR st' r') (wZ G q da qc qh qt qn qs qo V' sr' ta sc' sh tb sn ss so)) := dd_LW hD
  refine lv_icmp_eq (tgt := 1126) hx hb dL_law_721 (by decide) (fun _ => ?_) (fun c9 => absurd rfl c9)
  exact W.widen (by omega) (by omega) (K H locs ls ⟨f, V', sr', ta, sc', sh, tb, sn, ss, so, st', r', hR', hP, hD, hS⟩ hl)
set_option maxHeartbeats 400000 in
set_option maxRecDepth 100000 in
theorem law_reduce (C0 : LC p l s m meth c G A b L k kc ks xs x00) (hLP : LWP G A s q da qc qh qt qn qs qo qm oa H locs) (hl : lv_has ls 7 (lvL b q qm oa k)) (K : KL p l e s m below meth c Q G A b k kc ks q da qc qh qt qn qs qo qm oa) : W p l e room_1 s m #[Value.ref b] below meth c H locs kc ks Q (F0 m 726 ls []) := by
  obtain ⟨C, hX, hbl, hbA, hk, hL, hkc, hks, h00, hfl⟩ := C0
  obtain ⟨f, V, sr, ta, sc, sh, tb, sn, ss, so, st, r, hR, hP, hD, hS⟩ := hLP
  have hx := C.1
  have hb := C.2.1
  have hc1 : kc ≤ room_1.cells ∧ ks ≤ room_1.slots := ⟨(show kc ≤ 601024 by omega), (show ks ≤ 7293033 by omega)⟩
  have hc2 : kc + 11 ≤ room_1.cells ∧ ks + 1661 ≤ room_1.slots := ⟨(show kc + 11 ≤ 601024 by omega), (show ks + 1661 ≤ 7293033 by omega)⟩
  have hin1 : vp_in (nI (6 * k) + 1) L := by rw [nI_1]; exact vp_in_nI (by omega) (by omega)
  have hin2 : vp_in (nI (6 * k) + 2) L := by rw [show nI (6 * k) + 2 = nI (6 * k + 2) from nI_add _ 2]; exact vp_in_nI (by omega) (by omega)
  have hin3 : vp_in (nI (6 * k) + 3) L := by rw [show nI (6 * k) + 3 = nI (6 * k + 3) from nI_add _ 3]; exact vp_in_nI (by omega) (by omega)
  have hin4 : vp_in (nI (6 * k) + 4) L := by rw [show nI (6 * k) + 4 = nI (6 * k + 4) from nI_add _ 4]; exact vp_in_nI (by omega) (by omega)
  have hin5 : vp_in (nI (6 * k) + 5) L := by rw [show nI (6 * k) + 5 = nI (6 * k + 5) from nI_add _ 5]; exact vp_in_nI (by omega) (by omega)
  obtain ⟨g, x, sc', st', r', e1, e2, hj⟩ := L_reduce h00 hR (xs (nI (6 * k) + 1).toNatClampNeg)
  refine lv_aload_n hx hb dL_law_726 rfl (lv_at hl 1 rfl) ?_
  refine lv_aload_n hx hb dL_law_727 rfl (lv_at hl 0 rfl) ?_
  refine lv_iload hx hb dL_law_728 (lv_at hl 4 rfl) ?_
  refine lv_iconst (v := 1) hx hb dL_law_730 (by decide) ?_
  refine lv_iadd hx hb dL_law_731 ?_
  refine va_sld hx hb hX hbl hbA hS hin1 dL_law_732 ?_
  refine q_VG C (rc := (RX4, TX4, 12)) (q0 := 25) (ci := 4) (wr := wL G oa 1 f ++ wM G qm (sR st r)) (wc := wZ G q da qc qh qt qn qs qo V sr ta sc sh tb sn ss so) (c_X4_reduce (x := (g, x, sc')) (hR.rh h00) e1) gL_law_X4_reduce rfl ⟨rfl, rfl⟩ hdX4_reduce ⟨(Nat.le_of_ble_eq_true rfl), (Nat.le_of_ble_eq_true rfl)⟩ rfl hP hD hS rfl rfl pm_abc hl.1 (Nat.le_of_ble_eq_true rfl) hc2 rfl dL_law_733 (fun r9 w9 H locs hBB hP hD hS => ?_)
  obtain ⟨rfl, V', sr', hz, rfl⟩ := hBB
  have hR' := hj V' sr' hz
  have hP : va_P G.1 vwCl (wLW G oa f qm (sR st r) (wZ G q da qc qh qt qn qs qo V' sr' ta sc' sh tb sn ss so)) H := hP.perm pm_abc2
  have hD : va_D A (wLW G oa f qm (sR st r) (wZ G q da qc qh qt qn qs qo V' sr' ta sc' sh tb sn ss so)) := hD.perm pm_abc2
  show W p l e room_1 s m #[Value.ref b] below meth c H locs (kc + 11) (ks + 1661) Q (F0 m 736 ls [.int x])
  refine lv_aload_n hx hb dL_law_736 rfl (lv_at hl 2 rfl) ?_
  refine lv_aload_n hx hb dL_law_737 rfl (lv_at hl 0 rfl) ?_
  refine lv_iload hx hb dL_law_738 (lv_at hl 4 rfl) ?_
  refine lv_iconst (v := 1) hx hb dL_law_740 (by decide) ?_
  refine lv_iadd hx hb dL_law_741 ?_
  refine va_sld hx hb hX hbl hbA hS hin1 dL_law_742 ?_
  refine q_Vi C (rc := (RX5, TX5, 42)) (q0 := 1) (ci := 5) (ws' := wLW G oa f qm (sR st' r') (wZ G q da qc qh qt qn qs qo V' sr' ta sc' sh tb sn ss so)) (wr := wL G oa 1 f ++ wZ G q da qc qh qt qn qs qo V' sr' ta sc' sh tb sn ss so) (wc := wM G qm (sR st r)) (wc' := wM G qm (sR st' r')) (c_X5_reduce (x := (x, sR st' r')) e2) gL_law_X5_reduce rfl ⟨rfl, rfl⟩ hdX5_reduce ⟨(Nat.le_of_ble_eq_true rfl), (Nat.le_of_ble_eq_true rfl)⟩ rfl hP hD hS rfl rfl pm_mid pm_mid' hl.1 (Nat.le_of_ble_eq_true rfl) hc2 rfl dL_law_743 (fun H locs hP hS => ?_)
  have hD : va_D A (wLW G oa f qm (sR st' r') (wZ G q da qc qh qt qn qs qo V' sr' ta sc' sh tb sn ss so)) := dd_LW hD
  refine lv_icmp_eq (tgt := 1126) hx hb dL_law_746 (by decide) (fun _ => ?_) (fun c9 => absurd rfl c9)
  exact W.widen (by omega) (by omega) (K H locs ls ⟨f, V', sr', ta, sc', sh, tb, sn, ss, so, st', r', hR', hP, hD, hS⟩ hl)
set_option maxHeartbeats 400000 in
set_option maxRecDepth 100000 in
theorem law_tried (C0 : LC p l s m meth c G A b L k kc ks xs x00) (hLP : LWP G A s q da qc qh qt qn qs qo qm oa H locs) (hl : lv_has ls 7 (lvL b q qm oa k)) (K : KL p l e s m below meth c Q G A b k kc ks q da qc qh qt qn qs qo qm oa) : W p l e room_1 s m #[Value.ref b] below meth c H locs kc ks Q (F0 m 751 ls []) := by
  obtain ⟨C, hX, hbl, hbA, hk, hL, hkc, hks, h00, hfl⟩ := C0
  obtain ⟨f, V, sr, ta, sc, sh, tb, sn, ss, so, st, r, hR, hP, hD, hS⟩ := hLP
  have hx := C.1
  have hb := C.2.1
  have hc1 : kc ≤ room_1.cells ∧ ks ≤ room_1.slots := ⟨(show kc ≤ 601024 by omega), (show ks ≤ 7293033 by omega)⟩
  have hc2 : kc + 11 ≤ room_1.cells ∧ ks + 1661 ≤ room_1.slots := ⟨(show kc + 11 ≤ 601024 by omega), (show ks + 1661 ≤ 7293033 by omega)⟩
  have hin1 : vp_in (nI (6 * k) + 1) L := by rw [nI_1]; exact vp_in_nI (by omega) (by omega)
  have hin2 : vp_in (nI (6 * k) + 2) L := by rw [show nI (6 * k) + 2 = nI (6 * k + 2) from nI_add _ 2]; exact vp_in_nI (by omega) (by omega)
  have hin3 : vp_in (nI (6 * k) + 3) L := by rw [show nI (6 * k) + 3 = nI (6 * k + 3) from nI_add _ 3]; exact vp_in_nI (by omega) (by omega)
  have hin4 : vp_in (nI (6 * k) + 4) L := by rw [show nI (6 * k) + 4 = nI (6 * k + 4) from nI_add _ 4]; exact vp_in_nI (by omega) (by omega)
  have hin5 : vp_in (nI (6 * k) + 5) L := by rw [show nI (6 * k) + 5 = nI (6 * k + 5) from nI_add _ 5]; exact vp_in_nI (by omega) (by omega)
  obtain ⟨x, sh', st', r', e1, e2, hR'⟩ := L_tried hR (xs (nI (6 * k) + 1).toNatClampNeg) (xs (nI (6 * k) + 2).toNatClampNeg) (xs (nI (6 * k) + 3).toNatClampNeg) (xs (nI (6 * k) + 4).toNatClampNeg)
  refine lv_aload_n hx hb dL_law_751 rfl (lv_at hl 1 rfl) ?_
  refine lv_aload_n hx hb dL_law_752 rfl (lv_at hl 0 rfl) ?_
  refine lv_iload hx hb dL_law_753 (lv_at hl 4 rfl) ?_
  refine lv_iconst (v := 1) hx hb dL_law_755 (by decide) ?_
  refine lv_iadd hx hb dL_law_756 ?_
  refine va_sld hx hb hX hbl hbA hS hin1 dL_law_757 ?_
  refine lv_aload_n hx hb dL_law_758 rfl (lv_at hl 0 rfl) ?_
  refine lv_iload hx hb dL_law_759 (lv_at hl 4 rfl) ?_
  refine lv_iconst (v := 2) hx hb dL_law_761 (by decide) ?_
  refine lv_iadd hx hb dL_law_762 ?_
  refine va_sld hx hb hX hbl hbA hS hin2 dL_law_763 ?_
  refine lv_aload_n hx hb dL_law_764 rfl (lv_at hl 0 rfl) ?_
  refine lv_iload hx hb dL_law_765 (lv_at hl 4 rfl) ?_
  refine lv_iconst (v := 3) hx hb dL_law_767 (by decide) ?_
  refine lv_iadd hx hb dL_law_768 ?_
  refine va_sld hx hb hX hbl hbA hS hin3 dL_law_769 ?_
  refine lv_aload_n hx hb dL_law_770 rfl (lv_at hl 0 rfl) ?_
  refine lv_iload hx hb dL_law_771 (lv_at hl 4 rfl) ?_
  refine lv_iconst (v := 4) hx hb dL_law_773 (by decide) ?_
  refine lv_iadd hx hb dL_law_774 ?_
  refine va_sld hx hb hX hbl hbA hS hin4 dL_law_775 ?_
  refine q_Vi C (rc := (RX4, TX4, 12)) (q0 := 25) (ci := 4) (ws' := wLW G oa f qm (sR st r) (wZ G q da qc qh qt qn qs qo V sr ta sc sh' tb sn ss so)) (wr := wL G oa 1 f ++ wM G qm (sR st r)) (wc := wZ G q da qc qh qt qn qs qo V sr ta sc sh tb sn ss so) (wc' := wZ G q da qc qh qt qn qs qo V sr ta sc sh' tb sn ss so) (c_X4_tried (im := imO V) (pa := paO V) (yy := wV G V 14) (x := (x, sh')) e1) gL_law_X4_tried rfl ⟨rfl, rfl⟩ hdX4_tried ⟨(Nat.le_of_ble_eq_true rfl), (Nat.le_of_ble_eq_true rfl)⟩ rfl hP hD hS rfl rfl pm_abc pm_abc2 hl.1 (Nat.le_of_ble_eq_true rfl) hc1 rfl dL_law_776 (fun H locs hP hS => ?_)
  have hD : va_D A (wLW G oa f qm (sR st r) (wZ G q da qc qh qt qn qs qo V sr ta sc sh' tb sn ss so)) := dd_LW hD
  refine lv_aload_n hx hb dL_law_779 rfl (lv_at hl 2 rfl) ?_
  refine lv_aload_n hx hb dL_law_780 rfl (lv_at hl 0 rfl) ?_
  refine lv_iload hx hb dL_law_781 (lv_at hl 4 rfl) ?_
  refine lv_iconst (v := 1) hx hb dL_law_783 (by decide) ?_
  refine lv_iadd hx hb dL_law_784 ?_
  refine va_sld hx hb hX hbl hbA hS hin1 dL_law_785 ?_
  refine lv_aload_n hx hb dL_law_786 rfl (lv_at hl 0 rfl) ?_
  refine lv_iload hx hb dL_law_787 (lv_at hl 4 rfl) ?_
  refine lv_iconst (v := 2) hx hb dL_law_789 (by decide) ?_
  refine lv_iadd hx hb dL_law_790 ?_
  refine va_sld hx hb hX hbl hbA hS hin2 dL_law_791 ?_
  refine lv_aload_n hx hb dL_law_792 rfl (lv_at hl 0 rfl) ?_
  refine lv_iload hx hb dL_law_793 (lv_at hl 4 rfl) ?_
  refine lv_iconst (v := 3) hx hb dL_law_795 (by decide) ?_
  refine lv_iadd hx hb dL_law_796 ?_
  refine va_sld hx hb hX hbl hbA hS hin3 dL_law_797 ?_
  refine lv_aload_n hx hb dL_law_798 rfl (lv_at hl 0 rfl) ?_
  refine lv_iload hx hb dL_law_799 (lv_at hl 4 rfl) ?_
  refine lv_iconst (v := 4) hx hb dL_law_801 (by decide) ?_
  refine lv_iadd hx hb dL_law_802 ?_
  refine va_sld hx hb hX hbl hbA hS hin4 dL_law_803 ?_
  refine q_Vi C (rc := (RX5, TX5, 42)) (q0 := 1) (ci := 5) (ws' := wLW G oa f qm (sR st' r') (wZ G q da qc qh qt qn qs qo V sr ta sc sh' tb sn ss so)) (wr := wL G oa 1 f ++ wZ G q da qc qh qt qn qs qo V sr ta sc sh' tb sn ss so) (wc := wM G qm (sR st r)) (wc' := wM G qm (sR st' r')) (c_X5_tried (x := (x, sR st' r')) e2) gL_law_X5_tried rfl ⟨rfl, rfl⟩ hdX5_tried ⟨(Nat.le_of_ble_eq_true rfl), (Nat.le_of_ble_eq_true rfl)⟩ rfl hP hD hS rfl rfl pm_mid pm_mid' hl.1 (Nat.le_of_ble_eq_true rfl) hc1 rfl dL_law_804 (fun H locs hP hS => ?_)
  have hD : va_D A (wLW G oa f qm (sR st' r') (wZ G q da qc qh qt qn qs qo V sr ta sc sh' tb sn ss so)) := dd_LW hD
  refine lv_icmp_eq (tgt := 1126) hx hb dL_law_807 (by decide) (fun _ => ?_) (fun c9 => absurd rfl c9)
  exact W.widen (by omega) (by omega) (K H locs ls ⟨f, V, sr, ta, sc, sh', tb, sn, ss, so, st', r', hR', hP, hD, hS⟩ hl)
set_option maxHeartbeats 400000 in
set_option maxRecDepth 100000 in
theorem law_rounds (C0 : LC p l s m meth c G A b L k kc ks xs x00) (hLP : LWP G A s q da qc qh qt qn qs qo qm oa H locs) (hl : lv_has ls 7 (lvL b q qm oa k)) (K : KL p l e s m below meth c Q G A b k kc ks q da qc qh qt qn qs qo qm oa) : W p l e room_1 s m #[Value.ref b] below meth c H locs kc ks Q (F0 m 812 ls []) := by
  obtain ⟨C, hX, hbl, hbA, hk, hL, hkc, hks, h00, hfl⟩ := C0
  obtain ⟨f, V, sr, ta, sc, sh, tb, sn, ss, so, st, r, hR, hP, hD, hS⟩ := hLP
  have hx := C.1
  have hb := C.2.1
  have hc1 : kc ≤ room_1.cells ∧ ks ≤ room_1.slots := ⟨(show kc ≤ 601024 by omega), (show ks ≤ 7293033 by omega)⟩
  have hc2 : kc + 11 ≤ room_1.cells ∧ ks + 1661 ≤ room_1.slots := ⟨(show kc + 11 ≤ 601024 by omega), (show ks + 1661 ≤ 7293033 by omega)⟩
  have hin1 : vp_in (nI (6 * k) + 1) L := by rw [nI_1]; exact vp_in_nI (by omega) (by omega)
  have hin2 : vp_in (nI (6 * k) + 2) L := by rw [show nI (6 * k) + 2 = nI (6 * k + 2) from nI_add _ 2]; exact vp_in_nI (by omega) (by omega)
  have hin3 : vp_in (nI (6 * k) + 3) L := by rw [show nI (6 * k) + 3 = nI (6 * k + 3) from nI_add _ 3]; exact vp_in_nI (by omega) (by omega)
  have hin4 : vp_in (nI (6 * k) + 4) L := by rw [show nI (6 * k) + 4 = nI (6 * k + 4) from nI_add _ 4]; exact vp_in_nI (by omega) (by omega)
  have hin5 : vp_in (nI (6 * k) + 5) L := by rw [show nI (6 * k) + 5 = nI (6 * k + 5) from nI_add _ 5]; exact vp_in_nI (by omega) (by omega)
  obtain ⟨x, sh', st', r', e1, e2, hR'⟩ := L_rounds hR 
  refine lv_aload_n hx hb dL_law_812 rfl (lv_at hl 1 rfl) ?_
  refine q_Vi C (rc := (RX4, TX4, 12)) (q0 := 25) (ci := 4) (ws' := wLW G oa f qm (sR st r) (wZ G q da qc qh qt qn qs qo V sr ta sc sh' tb sn ss so)) (wr := wL G oa 1 f ++ wM G qm (sR st r)) (wc := wZ G q da qc qh qt qn qs qo V sr ta sc sh tb sn ss so) (wc' := wZ G q da qc qh qt qn qs qo V sr ta sc sh' tb sn ss so) (c_X4_rounds (im := imO V) (pa := paO V) (yy := wV G V 14) (x := (x, sh')) e1) gL_law_X4_rounds rfl ⟨rfl, rfl⟩ hdX4_rounds ⟨(Nat.le_of_ble_eq_true rfl), (Nat.le_of_ble_eq_true rfl)⟩ rfl hP hD hS rfl rfl pm_abc pm_abc2 hl.1 (Nat.le_of_ble_eq_true rfl) hc1 rfl dL_law_813 (fun H locs hP hS => ?_)
  have hD : va_D A (wLW G oa f qm (sR st r) (wZ G q da qc qh qt qn qs qo V sr ta sc sh' tb sn ss so)) := dd_LW hD
  refine lv_aload_n hx hb dL_law_816 rfl (lv_at hl 2 rfl) ?_
  refine q_Vi C (rc := (RX5, TX5, 42)) (q0 := 1) (ci := 5) (ws' := wLW G oa f qm (sR st' r') (wZ G q da qc qh qt qn qs qo V sr ta sc sh' tb sn ss so)) (wr := wL G oa 1 f ++ wZ G q da qc qh qt qn qs qo V sr ta sc sh' tb sn ss so) (wc := wM G qm (sR st r)) (wc' := wM G qm (sR st' r')) (c_X5_rounds (x := (x, sR st' r')) e2) gL_law_X5_rounds rfl ⟨rfl, rfl⟩ hdX5_rounds ⟨(Nat.le_of_ble_eq_true rfl), (Nat.le_of_ble_eq_true rfl)⟩ rfl hP hD hS rfl rfl pm_mid pm_mid' hl.1 (Nat.le_of_ble_eq_true rfl) hc1 rfl dL_law_817 (fun H locs hP hS => ?_)
  have hD : va_D A (wLW G oa f qm (sR st' r') (wZ G q da qc qh qt qn qs qo V sr ta sc sh' tb sn ss so)) := dd_LW hD
  refine lv_icmp_eq (tgt := 1126) hx hb dL_law_820 (by decide) (fun _ => ?_) (fun c9 => absurd rfl c9)
  exact W.widen (by omega) (by omega) (K H locs ls ⟨f, V, sr, ta, sc, sh', tb, sn, ss, so, st', r', hR', hP, hD, hS⟩ hl)
set_option maxHeartbeats 400000 in
set_option maxRecDepth 100000 in
theorem law_alike (C0 : LC p l s m meth c G A b L k kc ks xs x00) (hLP : LWP G A s q da qc qh qt qn qs qo qm oa H locs) (hl : lv_has ls 7 (lvL b q qm oa k)) (K : KL p l e s m below meth c Q G A b k kc ks q da qc qh qt qn qs qo qm oa) : W p l e room_1 s m #[Value.ref b] below meth c H locs kc ks Q (F0 m 825 ls []) := by
  obtain ⟨C, hX, hbl, hbA, hk, hL, hkc, hks, h00, hfl⟩ := C0
  obtain ⟨f, V, sr, ta, sc, sh, tb, sn, ss, so, st, r, hR, hP, hD, hS⟩ := hLP
  have hx := C.1
  have hb := C.2.1
  have hc1 : kc ≤ room_1.cells ∧ ks ≤ room_1.slots := ⟨(show kc ≤ 601024 by omega), (show ks ≤ 7293033 by omega)⟩
  have hc2 : kc + 11 ≤ room_1.cells ∧ ks + 1661 ≤ room_1.slots := ⟨(show kc + 11 ≤ 601024 by omega), (show ks + 1661 ≤ 7293033 by omega)⟩
  have hin1 : vp_in (nI (6 * k) + 1) L := by rw [nI_1]; exact vp_in_nI (by omega) (by omega)
  have hin2 : vp_in (nI (6 * k) + 2) L := by rw [show nI (6 * k) + 2 = nI (6 * k + 2) from nI_add _ 2]; exact vp_in_nI (by omega) (by omega)
  have hin3 : vp_in (nI (6 * k) + 3) L := by rw [show nI (6 * k) + 3 = nI (6 * k + 3) from nI_add _ 3]; exact vp_in_nI (by omega) (by omega)
  have hin4 : vp_in (nI (6 * k) + 4) L := by rw [show nI (6 * k) + 4 = nI (6 * k + 4) from nI_add _ 4]; exact vp_in_nI (by omega) (by omega)
  have hin5 : vp_in (nI (6 * k) + 5) L := by rw [show nI (6 * k) + 5 = nI (6 * k + 5) from nI_add _ 5]; exact vp_in_nI (by omega) (by omega)
  obtain ⟨x, sh', ss', so', st', r', e1, e2, hR'⟩ := L_alike hR ss so (xs (nI (6 * k) + 1).toNatClampNeg) (xs (nI (6 * k) + 2).toNatClampNeg) (xs (nI (6 * k) + 3).toNatClampNeg) (xs (nI (6 * k) + 4).toNatClampNeg)
  refine lv_aload_n hx hb dL_law_825 rfl (lv_at hl 1 rfl) ?_
  refine lv_aload_n hx hb dL_law_826 rfl (lv_at hl 0 rfl) ?_
  refine lv_iload hx hb dL_law_827 (lv_at hl 4 rfl) ?_
  refine lv_iconst (v := 1) hx hb dL_law_829 (by decide) ?_
  refine lv_iadd hx hb dL_law_830 ?_
  refine va_sld hx hb hX hbl hbA hS hin1 dL_law_831 ?_
  refine lv_aload_n hx hb dL_law_832 rfl (lv_at hl 0 rfl) ?_
  refine lv_iload hx hb dL_law_833 (lv_at hl 4 rfl) ?_
  refine lv_iconst (v := 2) hx hb dL_law_835 (by decide) ?_
  refine lv_iadd hx hb dL_law_836 ?_
  refine va_sld hx hb hX hbl hbA hS hin2 dL_law_837 ?_
  refine lv_aload_n hx hb dL_law_838 rfl (lv_at hl 0 rfl) ?_
  refine lv_iload hx hb dL_law_839 (lv_at hl 4 rfl) ?_
  refine lv_iconst (v := 3) hx hb dL_law_841 (by decide) ?_
  refine lv_iadd hx hb dL_law_842 ?_
  refine va_sld hx hb hX hbl hbA hS hin3 dL_law_843 ?_
  refine lv_aload_n hx hb dL_law_844 rfl (lv_at hl 0 rfl) ?_
  refine lv_iload hx hb dL_law_845 (lv_at hl 4 rfl) ?_
  refine lv_iconst (v := 4) hx hb dL_law_847 (by decide) ?_
  refine lv_iadd hx hb dL_law_848 ?_
  refine va_sld hx hb hX hbl hbA hS hin4 dL_law_849 ?_
  refine q_Vi C (rc := (RX4, TX4, 12)) (q0 := 25) (ci := 4) (ws' := wLW G oa f qm (sR st r) (wZ G q da qc qh qt qn qs qo V sr ta sc sh' tb sn ss' so')) (wr := wL G oa 1 f ++ wM G qm (sR st r)) (wc := wZ G q da qc qh qt qn qs qo V sr ta sc sh tb sn ss so) (wc' := wZ G q da qc qh qt qn qs qo V sr ta sc sh' tb sn ss' so') (c_X4_alike (im := imO V) (pa := paO V) (yy := wV G V 14) (x := (x, sh', ss', so')) e1) gL_law_X4_alike rfl ⟨rfl, rfl⟩ hdX4_alike ⟨(Nat.le_of_ble_eq_true rfl), (Nat.le_of_ble_eq_true rfl)⟩ rfl hP hD hS rfl rfl pm_abc pm_abc2 hl.1 (Nat.le_of_ble_eq_true rfl) hc1 rfl dL_law_850 (fun H locs hP hS => ?_)
  have hD : va_D A (wLW G oa f qm (sR st r) (wZ G q da qc qh qt qn qs qo V sr ta sc sh' tb sn ss' so')) := dd_LW hD
  refine lv_aload_n hx hb dL_law_853 rfl (lv_at hl 2 rfl) ?_
  refine lv_aload_n hx hb dL_law_854 rfl (lv_at hl 0 rfl) ?_
  refine lv_iload hx hb dL_law_855 (lv_at hl 4 rfl) ?_
  refine lv_iconst (v := 1) hx hb dL_law_857 (by decide) ?_
  refine lv_iadd hx hb dL_law_858 ?_
  refine va_sld hx hb hX hbl hbA hS hin1 dL_law_859 ?_
  refine lv_aload_n hx hb dL_law_860 rfl (lv_at hl 0 rfl) ?_
  refine lv_iload hx hb dL_law_861 (lv_at hl 4 rfl) ?_
  refine lv_iconst (v := 2) hx hb dL_law_863 (by decide) ?_
  refine lv_iadd hx hb dL_law_864 ?_
  refine va_sld hx hb hX hbl hbA hS hin2 dL_law_865 ?_
  refine lv_aload_n hx hb dL_law_866 rfl (lv_at hl 0 rfl) ?_
  refine lv_iload hx hb dL_law_867 (lv_at hl 4 rfl) ?_
  refine lv_iconst (v := 3) hx hb dL_law_869 (by decide) ?_
  refine lv_iadd hx hb dL_law_870 ?_
  refine va_sld hx hb hX hbl hbA hS hin3 dL_law_871 ?_
  refine lv_aload_n hx hb dL_law_872 rfl (lv_at hl 0 rfl) ?_
  refine lv_iload hx hb dL_law_873 (lv_at hl 4 rfl) ?_
  refine lv_iconst (v := 4) hx hb dL_law_875 (by decide) ?_
  refine lv_iadd hx hb dL_law_876 ?_
  refine va_sld hx hb hX hbl hbA hS hin4 dL_law_877 ?_
  refine q_Vi C (rc := (RX5, TX5, 42)) (q0 := 1) (ci := 5) (ws' := wLW G oa f qm (sR st' r') (wZ G q da qc qh qt qn qs qo V sr ta sc sh' tb sn ss' so')) (wr := wL G oa 1 f ++ wZ G q da qc qh qt qn qs qo V sr ta sc sh' tb sn ss' so') (wc := wM G qm (sR st r)) (wc' := wM G qm (sR st' r')) (c_X5_alike (x := (x, sR st' r')) e2) gL_law_X5_alike rfl ⟨rfl, rfl⟩ hdX5_alike ⟨(Nat.le_of_ble_eq_true rfl), (Nat.le_of_ble_eq_true rfl)⟩ rfl hP hD hS rfl rfl pm_mid pm_mid' hl.1 (Nat.le_of_ble_eq_true rfl) hc1 rfl dL_law_878 (fun H locs hP hS => ?_)
  have hD : va_D A (wLW G oa f qm (sR st' r') (wZ G q da qc qh qt qn qs qo V sr ta sc sh' tb sn ss' so')) := dd_LW hD
  refine lv_icmp_eq (tgt := 1126) hx hb dL_law_881 (by decide) (fun _ => ?_) (fun c9 => absurd rfl c9)
  exact W.widen (by omega) (by omega) (K H locs ls ⟨f, V, sr, ta, sc, sh', tb, sn, ss', so', st', r', hR', hP, hD, hS⟩ hl)
end LAW
