section LAW
variable {p : Program} {l : Launch} {e : Env} {s : State} {m : MethodId} {below : List Frame} {meth : Method} {c : Code} {H : Heap} {locs : List Loc} {Q : State → Prop} {G : Gx} {A : Nat → Prop} {ls : Array Slot} {b L k kc ks : Nat} {xs : Nat → Int32} {q : Nat → Nat} {da : Nat} {qc qh qt qn qs qo qm : Nat → Nat} {oa : Nat} {x00 : NSt}
set_option maxHeartbeats 400000 in
set_option maxRecDepth 100000 in
theorem law_number (C0 : LC p l s m meth c G A b L k kc ks xs x00) (hLP : LWP G A s q da qc qh qt qn qs qo qm oa H locs) (hl : lv_has ls 7 (lvL b q qm oa k)) (K : KL p l e s m below meth c Q G A b k kc ks q da qc qh qt qn qs qo qm oa) : W p l e room_1 s m #[Value.ref b] below meth c H locs kc ks Q (F0 m 490 ls []) := by
  obtain ⟨C, hX, hbl, hbA, hk, hL, hkc, hks, h00, hfl⟩ := C0
  obtain ⟨f, V, sr, ta, sc, sh, tb, sn, ss, so, st, r, hR, hP, hD, hS⟩ := hLP
  have hx := C.1
  have hb := C.2.1
  have hc1 : kc ≤ room_1.cells ∧ ks ≤ room_1.slots := ⟨(show kc ≤ 601024 by omega), (show ks ≤ 7293033 by omega)⟩
  have hc2 : kc + 11 ≤ room_1.cells ∧ ks + 1661 ≤ room_1.slots := ⟨(show kc + 11 ≤ 601024 by omega), (show ks + 1661 ≤ 7293033 by omega)⟩
  have hin1 : vp_in (nI (6 * k) + 1) L := by rw [nI_1]; exact vp_in_nI (by omega) (by omega)
  have hin2 : vp_in (nI (6 * k) + 2) L := by rw [show nI (6 * k) + 2 = nI (6 * k + 2) from nI_add _ 2]; exact vp_in_nI (by omega) (by omega)
  have hin3 : vp_in (nI (6 * k) + 3) L := by rw [show nI (6 * k) + 3 = nI (6 * k + 3) from nI_add _ 3]; exact vp_in_nI (by omega) (by omega)
  have hin4 : vp_in (nI (6 * k) + 4) L := by rw [show nI (6 * k) + 4 = nI (6 * k + 4) from nI_add _ 4]; exact vp_in_nI (by omega) (by omega)
  have hin5 : vp_in (nI (6 * k) + 5) L := by rw [show nI (6 * k) + 5 = nI (6 * k + 5) from nI_add _ 5]; exact vp_in_nI (by omega) (by omega)
  have hc6 : kc + 1 ≤ room_1.cells ∧ ks + 6 ≤ room_1.slots := ⟨(show kc + 1 ≤ 601024 by omega), (show ks + 6 ≤ 7293033 by omega)⟩
  obtain ⟨z, y, f', st', hz, e2, h0, hf0, hR'⟩ : ∃ (z y : Int32) (f' : Nat → Int64) (st' : OSt), ((n_hasRoot sc (xs (nI (6 * k) + 1).toNatClampNeg) = some 0 ∧ z = 1 ∧ f' = f) ∨ (n_hasRoot sc (xs (nI (6 * k) + 1).toNatClampNeg) = some 1 ∧ ∃ x : Int32, n_numberAt sc (1000 + (xs (nI (6 * k) + 1).toNatClampNeg)) = some x ∧ z = 0 ∧ f' = vp_updL f 0 x.toInt64)) ∧ m_number_ (sR st r) (xs (nI (6 * k) + 1).toNatClampNeg) = some (y, sR st' r) ∧ st'.1 0 = z ∧ (z = 0 → f' 0 = y.toInt64) ∧ RI V sr ta sc sh sn st' r := by
    rcases L_number hR (xs (nI (6 * k) + 1).toNatClampNeg) with ⟨u1, u2⟩ | ⟨u1, x, u2, u3⟩
    · exact ⟨1, 0, f, sI st 0 1, Or.inl ⟨u1, rfl, rfl⟩, u2, rfl, fun w => absurd w (by decide), hR.same (KP.i1 st)⟩
    · exact ⟨0, x, vp_updL f 0 x.toInt64, sI st 0 0, Or.inr ⟨u1, x, u2, rfl, rfl⟩, u3, rfl, fun _ => rfl, hR.same (KP.i0 st)⟩
  refine lv_aload_n hx hb dL_law_490 rfl (lv_at hl 1 rfl) ?_
  refine lv_aload_n hx hb dL_law_491 rfl (lv_at hl 0 rfl) ?_
  refine lv_iload hx hb dL_law_492 (lv_at hl 4 rfl) ?_
  refine lv_iconst (v := 1) hx hb dL_law_494 (by decide) ?_
  refine lv_iadd hx hb dL_law_495 ?_
  refine va_sld hx hb hX hbl hbA hS hin1 dL_law_496 ?_
  refine lv_aload_n hx hb dL_law_497 rfl (lv_at hl 3 rfl) ?_
  refine q_SW C (wr := wM G qm (sR st r)) (wc := wL G oa 1 f ++ wZ G q da qc qh qt qn qs qo V sr ta sc sh tb sn ss so) (c_L_number hfl hz) gL_law_L_number rfl ⟨rfl, rfl⟩ hdL_number ⟨(Nat.le_of_ble_eq_true rfl), (Nat.le_of_ble_eq_true rfl)⟩ rfl hP hD hS pm_swp hl.1 (Nat.le_of_ble_eq_true rfl) hc6 rfl dL_law_498 (fun r9 w9 H locs hBB hP hD hS => ?_)
  obtain ⟨rfl, rfl⟩ := hBB
  have hP : va_P G.1 vwCl (wLW G oa f' qm (sR st r) (wZ G q da qc qh qt qn qs qo V sr ta sc sh tb sn ss so)) H := hP.perm pm_swp.symm
  have hD : va_D A (wLW G oa f' qm (sR st r) (wZ G q da qc qh qt qn qs qo V sr ta sc sh tb sn ss so)) := hD.perm pm_swp.symm
  show W p l e room_1 s m #[Value.ref b] below meth c H locs (kc + 1) (ks + 6) Q (F0 m 501 ls [.int z])
  refine lv_istore (lv' := [(5, .int z), (0, .ref b), (1, .ref (q 12)), (2, .ref (qm 42)), (3, .ref oa), (4, .int (nI (6 * k)))]) hx hb dL_law_501 hl (by decide) rfl (fun ls hl => ?_)
  refine lv_aload_n hx hb dL_law_503 rfl (lv_at hl 3 rfl) ?_
  refine lv_aload_n hx hb dL_law_504 rfl (lv_at hl 1 rfl) ?_
  refine lv_iload hx hb dL_law_505 (lv_at hl 5 rfl) ?_
  refine lv_iconst (v := 1) hx hb dL_law_507 (by decide) ?_
  refine lv_iadd hx hb dL_law_508 ?_
  refine va_sld hx hb hX hbl hbA hS hin1 dL_law_509 ?_
  refine q_Vi C (rc := (RX5, TX5, 42)) (q0 := 1) (ci := 5) (ws' := wLW G oa f' qm (sR st' r) (wZ G q da qc qh qt qn qs qo V sr ta sc sh tb sn ss so)) (wr := wL G oa 1 f' ++ wZ G q da qc qh qt qn qs qo V sr ta sc sh tb sn ss so) (wc := wM G qm (sR st r)) (wc' := wM G qm (sR st' r)) (c_X5_number_ (x := (y, sR st' r)) e2) gL_law_X5_number_ rfl ⟨rfl, rfl⟩ hdX5_number_ ⟨(Nat.le_of_ble_eq_true rfl), (Nat.le_of_ble_eq_true rfl)⟩ rfl hP hD hS rfl rfl pm_mid pm_mid' hl.1 (Nat.le_of_ble_eq_true rfl) hc6 rfl dL_law_510 (fun H locs hP hS => ?_)
  have hD : va_D A (wLW G oa f' qm (sR st' r) (wZ G q da qc qh qt qn qs qo V sr ta sc sh tb sn ss so)) := dd_LW hD
  refine lv_istore (lv' := [(6, .int y), (5, .int z), (0, .ref b), (1, .ref (q 12)), (2, .ref (qm 42)), (3, .ref oa), (4, .int (nI (6 * k)))]) hx hb dL_law_513 hl (by decide) rfl (fun ls hl => ?_)
  refine lv_aload_n hx hb dL_law_515 rfl (lv_at hl 4 rfl) ?_
  refine q_Vi C (rc := (RX5, TX5, 42)) (q0 := 1) (ci := 5) (ws' := wLW G oa f' qm (sR st' r) (wZ G q da qc qh qt qn qs qo V sr ta sc sh tb sn ss so)) (wr := wL G oa 1 f' ++ wZ G q da qc qh qt qn qs qo V sr ta sc sh tb sn ss so) (wc := wM G qm (sR st' r)) (wc' := wM G qm (sR st' r)) (c_X5_thrown (x := z) (by show some (st'.1 0) = some z; rw [h0])) gL_law_X5_thrown rfl ⟨rfl, rfl⟩ hdX5_thrown ⟨(Nat.le_of_ble_eq_true rfl), (Nat.le_of_ble_eq_true rfl)⟩ rfl hP hD hS rfl rfl pm_mid pm_mid' hl.1 (Nat.le_of_ble_eq_true rfl) hc6 rfl dL_law_516 (fun H locs hP hS => ?_)
  have hD : va_D A (wLW G oa f' qm (sR st' r) (wZ G q da qc qh qt qn qs qo V sr ta sc sh tb sn ss so)) := dd_LW hD
  refine lv_iload hx hb dL_law_519 (lv_at hl 1 rfl) ?_
  refine lv_icmp_eq (tgt := 526) hx hb dL_law_521 (by decide) (fun _ => ?_) (fun c9 => absurd rfl c9)
  refine lv_iload hx hb dL_law_526 (lv_at hl 1 rfl) ?_
  have goK : W p l e room_1 s m #[Value.ref b] below meth c H locs (kc + 1) (ks + 6) Q (F0 m 543 ls []) := by
    refine lv_goto (tgt := 1126) hx hb dL_law_543 (by decide) ?_
    exact W.widen (by omega) (by omega) (K H locs ls ⟨f', V, sr, ta, sc, sh, tb, sn, ss, so, st', r, hR', hP, hD, hS⟩ (lv_sub hl [2, 3, 4, 5, 6] rfl))
  refine lv_if_ne (tgt := 543) hx hb dL_law_528 (by decide) (fun _ => goK) (fun c1 => ?_)
  have z0 : z = 0 := c1
  refine lv_aload_n hx hb dL_law_531 rfl (lv_at hl 5 rfl) ?_
  refine lv_iconst (v := 0) hx hb dL_law_532 (by decide) ?_
  refine q_lald C hP (q0 := 0) rfl (j := 0) (by decide) vp01 dL_law_533 ?_
  refine lv_iload hx hb dL_law_534 (lv_at hl 0 rfl) ?_
  refine lv_i2l hx hb dL_law_536 rfl ?_
  refine W.lcmp hx hb dL_law_537 ?_
  rw [hf0 z0, lg_cmp_self]
  refine lv_if_eq (tgt := 543) hx hb dL_law_538 (by decide) (fun _ => goK) (fun c9 => absurd rfl c9)
set_option maxHeartbeats 400000 in
set_option maxRecDepth 100000 in
theorem law_list (C0 : LC p l s m meth c G A b L k kc ks xs x00) (hLP : LWP G A s q da qc qh qt qn qs qo qm oa H locs) (hl : lv_has ls 7 (lvL b q qm oa k)) (K : KL p l e s m below meth c Q G A b k kc ks q da qc qh qt qn qs qo qm oa) : W p l e room_1 s m #[Value.ref b] below meth c H locs kc ks Q (F0 m 546 ls []) := by
  obtain ⟨C, hX, hbl, hbA, hk, hL, hkc, hks, h00, hfl⟩ := C0
  obtain ⟨f, V, sr, ta, sc, sh, tb, sn, ss, so, st, r, hR, hP, hD, hS⟩ := hLP
  have hx := C.1
  have hb := C.2.1
  have hc1 : kc ≤ room_1.cells ∧ ks ≤ room_1.slots := ⟨(show kc ≤ 601024 by omega), (show ks ≤ 7293033 by omega)⟩
  have hc2 : kc + 11 ≤ room_1.cells ∧ ks + 1661 ≤ room_1.slots := ⟨(show kc + 11 ≤ 601024 by omega), (show ks + 1661 ≤ 7293033 by omega)⟩
  have hin1 : vp_in (nI (6 * k) + 1) L := by rw [nI_1]; exact vp_in_nI (by omega) (by omega)
  have hin2 : vp_in (nI (6 * k) + 2) L := by rw [show nI (6 * k) + 2 = nI (6 * k + 2) from nI_add _ 2]; exact vp_in_nI (by omega) (by omega)
  have hin3 : vp_in (nI (6 * k) + 3) L := by rw [show nI (6 * k) + 3 = nI (6 * k + 3) from nI_add _ 3]; exact vp_in_nI (by omega) (by omega)
  have hin4 : vp_in (nI (6 * k) + 4) L := by rw [show nI (6 * k) + 4 = nI (6 * k + 4) from nI_add _ 4]; exact vp_in_nI (by omega) (by omega)
  have hin5 : vp_in (nI (6 * k) + 5) L := by rw [show nI (6 * k) + 5 = nI (6 * k + 5) from nI_add _ 5]; exact vp_in_nI (by omega) (by omega)
  have hc6 : kc + 1 ≤ room_1.cells ∧ ks + 6 ≤ room_1.slots := ⟨(show kc + 1 ≤ 601024 by omega), (show ks + 6 ≤ 7293033 by omega)⟩
  obtain ⟨z, y, f', st', hz, e2, h0, hf0, hR'⟩ : ∃ (z y : Int32) (f' : Nat → Int64) (st' : OSt), ((n_hasRoot sc (xs (nI (6 * k) + 1).toNatClampNeg) = some 0 ∧ z = 1 ∧ f' = f) ∨ (n_hasRoot sc (xs (nI (6 * k) + 1).toNatClampNeg) = some 1 ∧ ∃ x : Int32, n_listAt sc (1000 + (xs (nI (6 * k) + 1).toNatClampNeg)) (xs (nI (6 * k) + 2).toNatClampNeg) = some x ∧ z = 0 ∧ f' = vp_updL f 0 x.toInt64)) ∧ m_list_ (sR st r) (xs (nI (6 * k) + 1).toNatClampNeg) (xs (nI (6 * k) + 2).toNatClampNeg) = some (y, sR st' r) ∧ st'.1 0 = z ∧ (z = 0 → f' 0 = y.toInt64) ∧ RI V sr ta sc sh sn st' r := by
    rcases L_list hR (xs (nI (6 * k) + 1).toNatClampNeg) (xs (nI (6 * k) + 2).toNatClampNeg) with ⟨u1, u2⟩ | ⟨u1, x, u2, u3⟩
    · exact ⟨1, 0, f, sI st 0 1, Or.inl ⟨u1, rfl, rfl⟩, u2, rfl, fun w => absurd w (by decide), hR.same (KP.i1 st)⟩
    · exact ⟨0, x, vp_updL f 0 x.toInt64, sI st 0 0, Or.inr ⟨u1, x, u2, rfl, rfl⟩, u3, rfl, fun _ => rfl, hR.same (KP.i0 st)⟩
  refine lv_aload_n hx hb dL_law_546 rfl (lv_at hl 1 rfl) ?_
  refine lv_aload_n hx hb dL_law_547 rfl (lv_at hl 0 rfl) ?_
  refine lv_iload hx hb dL_law_548 (lv_at hl 4 rfl) ?_
  refine lv_iconst (v := 1) hx hb dL_law_550 (by decide) ?_
  refine lv_iadd hx hb dL_law_551 ?_
  refine va_sld hx hb hX hbl hbA hS hin1 dL_law_552 ?_
  refine lv_aload_n hx hb dL_law_553 rfl (lv_at hl 0 rfl) ?_
  refine lv_iload hx hb dL_law_554 (lv_at hl 4 rfl) ?_
  refine lv_iconst (v := 2) hx hb dL_law_556 (by decide) ?_
  refine lv_iadd hx hb dL_law_557 ?_
  refine va_sld hx hb hX hbl hbA hS hin2 dL_law_558 ?_
  refine lv_aload_n hx hb dL_law_559 rfl (lv_at hl 3 rfl) ?_
  refine q_SW C (wr := wM G qm (sR st r)) (wc := wL G oa 1 f ++ wZ G q da qc qh qt qn qs qo V sr ta sc sh tb sn ss so) (c_L_list hfl hz) gL_law_L_list rfl ⟨rfl, rfl⟩ hdL_list ⟨(Nat.le_of_ble_eq_true rfl), (Nat.le_of_ble_eq_true rfl)⟩ rfl hP hD hS pm_swp hl.1 (Nat.le_of_ble_eq_true rfl) hc6 rfl dL_law_560 (fun r9 w9 H locs hBB hP hD hS => ?_)
  obtain ⟨rfl, rfl⟩ := hBB
  have hP : va_P G.1 vwCl (wLW G oa f' qm (sR st r) (wZ G q da qc qh qt qn qs qo V sr ta sc sh tb sn ss so)) H := hP.perm pm_swp.symm
  have hD : va_D A (wLW G oa f' qm (sR st r) (wZ G q da qc qh qt qn qs qo V sr ta sc sh tb sn ss so)) := hD.perm pm_swp.symm
  show W p l e room_1 s m #[Value.ref b] below meth c H locs (kc + 1) (ks + 6) Q (F0 m 563 ls [.int z])
  refine lv_istore (lv' := [(5, .int z), (0, .ref b), (1, .ref (q 12)), (2, .ref (qm 42)), (3, .ref oa), (4, .int (nI (6 * k)))]) hx hb dL_law_563 hl (by decide) rfl (fun ls hl => ?_)
  refine lv_aload_n hx hb dL_law_565 rfl (lv_at hl 3 rfl) ?_
  refine lv_aload_n hx hb dL_law_566 rfl (lv_at hl 1 rfl) ?_
  refine lv_iload hx hb dL_law_567 (lv_at hl 5 rfl) ?_
  refine lv_iconst (v := 1) hx hb dL_law_569 (by decide) ?_
  refine lv_iadd hx hb dL_law_570 ?_
  refine va_sld hx hb hX hbl hbA hS hin1 dL_law_571 ?_
  refine lv_aload_n hx hb dL_law_572 rfl (lv_at hl 1 rfl) ?_
  refine lv_iload hx hb dL_law_573 (lv_at hl 5 rfl) ?_
  refine lv_iconst (v := 2) hx hb dL_law_575 (by decide) ?_
  refine lv_iadd hx hb dL_law_576 ?_
  refine va_sld hx hb hX hbl hbA hS hin2 dL_law_577 ?_
  refine q_Vi C (rc := (RX5, TX5, 42)) (q0 := 1) (ci := 5) (ws' := wLW G oa f' qm (sR st' r) (wZ G q da qc qh qt qn qs qo V sr ta sc sh tb sn ss so)) (wr := wL G oa 1 f' ++ wZ G q da qc qh qt qn qs qo V sr ta sc sh tb sn ss so) (wc := wM G qm (sR st r)) (wc' := wM G qm (sR st' r)) (c_X5_list_ (x := (y, sR st' r)) e2) gL_law_X5_list_ rfl ⟨rfl, rfl⟩ hdX5_list_ ⟨(Nat.le_of_ble_eq_true rfl), (Nat.le_of_ble_eq_true rfl)⟩ rfl hP hD hS rfl rfl pm_mid pm_mid' hl.1 (Nat.le_of_ble_eq_true rfl) hc6 rfl dL_law_578 (fun H locs hP hS => ?_)
  have hD : va_D A (wLW G oa f' qm (sR st' r) (wZ G q da qc qh qt qn qs qo V sr ta sc sh tb sn ss so)) := dd_LW hD
  refine lv_istore (lv' := [(6, .int y), (5, .int z), (0, .ref b), (1, .ref (q 12)), (2, .ref (qm 42)), (3, .ref oa), (4, .int (nI (6 * k)))]) hx hb dL_law_581 hl (by decide) rfl (fun ls hl => ?_)
  refine lv_aload_n hx hb dL_law_583 rfl (lv_at hl 4 rfl) ?_
  refine q_Vi C (rc := (RX5, TX5, 42)) (q0 := 1) (ci := 5) (ws' := wLW G oa f' qm (sR st' r) (wZ G q da qc qh qt qn qs qo V sr ta sc sh tb sn ss so)) (wr := wL G oa 1 f' ++ wZ G q da qc qh qt qn qs qo V sr ta sc sh tb sn ss so) (wc := wM G qm (sR st' r)) (wc' := wM G qm (sR st' r)) (c_X5_thrown (x := z) (by show some (st'.1 0) = some z; rw [h0])) gL_law_X5_thrown rfl ⟨rfl, rfl⟩ hdX5_thrown ⟨(Nat.le_of_ble_eq_true rfl), (Nat.le_of_ble_eq_true rfl)⟩ rfl hP hD hS rfl rfl pm_mid pm_mid' hl.1 (Nat.le_of_ble_eq_true rfl) hc6 rfl dL_law_584 (fun H locs hP hS => ?_)
  have hD : va_D A (wLW G oa f' qm (sR st' r) (wZ G q da qc qh qt qn qs qo V sr ta sc sh tb sn ss so)) := dd_LW hD
  refine lv_iload hx hb dL_law_587 (lv_at hl 1 rfl) ?_
  refine lv_icmp_eq (tgt := 594) hx hb dL_law_589 (by decide) (fun _ => ?_) (fun c9 => absurd rfl c9)
  refine lv_iload hx hb dL_law_594 (lv_at hl 1 rfl) ?_
  have goK : W p l e room_1 s m #[Value.ref b] below meth c H locs (kc + 1) (ks + 6) Q (F0 m 611 ls []) := by
    refine lv_goto (tgt := 1126) hx hb dL_law_611 (by decide) ?_
    exact W.widen (by omega) (by omega) (K H locs ls ⟨f', V, sr, ta, sc, sh, tb, sn, ss, so, st', r, hR', hP, hD, hS⟩ (lv_sub hl [2, 3, 4, 5, 6] rfl))
  refine lv_if_ne (tgt := 611) hx hb dL_law_596 (by decide) (fun _ => goK) (fun c1 => ?_)
  have z0 : z = 0 := c1
  refine lv_aload_n hx hb dL_law_599 rfl (lv_at hl 5 rfl) ?_
  refine lv_iconst (v := 0) hx hb dL_law_600 (by decide) ?_
  refine q_lald C hP (q0 := 0) rfl (j := 0) (by decide) vp01 dL_law_601 ?_
  refine lv_iload hx hb dL_law_602 (lv_at hl 0 rfl) ?_
  refine lv_i2l hx hb dL_law_604 rfl ?_
  refine W.lcmp hx hb dL_law_605 ?_
  rw [hf0 z0, lg_cmp_self]
  refine lv_if_eq (tgt := 611) hx hb dL_law_606 (by decide) (fun _ => goK) (fun c9 => absurd rfl c9)
end LAW
