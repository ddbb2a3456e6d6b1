section LAW
variable {p : Program} {l : Launch} {e : Env} {s : State} {m : MethodId} {below : List Frame} {meth : Method} {c : Code} {H : Heap} {locs : List Loc} {Q : State → Prop} {G : Gx} {A : Nat → Prop} {ls : Array Slot} {b L k kc ks : Nat} {xs : Nat → Int32} {q : Nat → Nat} {da : Nat} {qc qh qt qn qs qo qm : Nat → Nat} {oa : Nat} {x00 : NSt}
set_option maxHeartbeats 400000 in
set_option maxRecDepth 100000 in
theorem law_image (C0 : LC p l s m meth c G A b L k kc ks xs x00) (hLP : LWP G A s q da qc qh qt qn qs qo qm oa H locs) (hl : lv_has ls 7 (lvL b q qm oa k)) (K : KL p l e s m below meth c Q G A b k kc ks q da qc qh qt qn qs qo qm oa) : W p l e room_1 s m #[Value.ref b] below meth c H locs kc ks Q (F0 m 1073 ls []) := by
  obtain ⟨C, hX, hbl, hbA, hk, hL, hkc, hks, h00, hfl⟩ := C0
  obtain ⟨f, V, sr, ta, sc, sh, tb, sn, ss, so, st, r, hR, hP, hD, hS⟩ := hLP
  have hx := C.1
  have hb := C.2.1
  have hc1 : kc ≤ room_1.cells ∧ ks ≤ room_1.slots := ⟨(show kc ≤ 601024 by omega), (show ks ≤ 7293033 by omega)⟩
  have hc2 : kc + 11 ≤ room_1.cells ∧ ks + 1661 ≤ room_1.slots := ⟨(show kc + 11 ≤ 601024 by omega), (show ks + 1661 ≤ 7293033 by omega)⟩
  have hin1 : vp_in (nI (6 * k) + 1) L := by rw [nI_1]; exact vp_in_nI (by omega) (by omega)
  have hin2 : vp_in (nI (6 * k) + 2) L := by rw [show nI (6 * k) + 2 = nI (6 * k + 2) from nI_add _ 2]; exact vp_in_nI (by omega) (by omega)
  have hin3 : vp_in (nI (6 * k) + 3) L := by rw [show nI (6 * k) + 3 = nI (6 * k + 3) from nI_add _ 3]; exact vp_in_nI (by omega) (by omega)
  have hin4 : vp_in (nI (6 * k) + 4) L := by rw [show nI (6 * k) + 4 = nI (6 * k + 4) from nI_add _ 4]; exact vp_in_nI (by omega) (by omega)
  have hin5 : vp_in (nI (6 * k) + 5) L := by rw [show nI (6 * k) + 5 = nI (6 * k + 5) from nI_add _ 5]; exact vp_in_nI (by omega) (by omega)
  by_cases hv : (xs (nI (6 * k) + 2).toNatClampNeg) = 0
  · skip
    refine lv_aload_n hx hb dL_law_1073 rfl (lv_at hl 1 rfl) ?_
    refine lv_aload_n hx hb dL_law_1074 rfl (lv_at hl 0 rfl) ?_
    refine lv_iload hx hb dL_law_1075 (lv_at hl 4 rfl) ?_
    refine lv_iconst (v := 1) hx hb dL_law_1077 (by decide) ?_
    refine lv_iadd hx hb dL_law_1078 ?_
    refine va_sld hx hb hX hbl hbA hS hin1 dL_law_1079 ?_
    refine lv_aload_n hx hb dL_law_1080 rfl (lv_at hl 0 rfl) ?_
    refine lv_iload hx hb dL_law_1081 (lv_at hl 4 rfl) ?_
    refine lv_iconst (v := 2) hx hb dL_law_1083 (by decide) ?_
    refine lv_iadd hx hb dL_law_1084 ?_
    refine va_sld hx hb hX hbl hbA hS hin2 dL_law_1085 ?_
    refine lv_if_eq (tgt := 1093) hx hb dL_law_1086 (by decide) (fun _ => ?_) (fun c9 => absurd hv c9)
    refine lv_iconst (v := 0) hx hb dL_law_1093 (by decide) ?_
    rcases L_image h00 hR (xs (nI (6 * k) + 1).toNatClampNeg) 0 with ⟨h9, e2⟩ | ⟨j9, j2, ej, h9, h8, e2⟩ | ⟨j9, i9, q9, s9, x9, st', r', j2, ej, h9, i14, h8, h7, h6, e2, hR'⟩ | ⟨j9, st', j2, ej, h9, e2, hj⟩
    · skip
      refine q_VG C (rc := (RX4, TX4, 12)) (q0 := 25) (ci := 4) (wr := wL G oa 1 f ++ wM G qm (sR st r)) (wc := wZ G q da qc qh qt qn qs qo V sr ta sc sh tb sn ss so) (c_X4_image0 h9) gL_law_X4_image rfl ⟨rfl, rfl⟩ hdX4_image ⟨(Nat.le_of_ble_eq_true rfl), (Nat.le_of_ble_eq_true rfl)⟩ rfl hP hD hS rfl rfl pm_abc hl.1 (Nat.le_of_ble_eq_true rfl) hc2 rfl dL_law_1094 (fun r9 w9 H locs hBB hP hD hS => ?_)
      obtain ⟨rfl, rfl⟩ := hBB
      have hP : va_P G.1 vwCl (wLW G oa f qm (sR st r) (wZ G q da qc qh qt qn qs qo V sr ta sc sh tb sn ss so)) H := hP.perm pm_abc2
      have hD : va_D A (wLW G oa f qm (sR st r) (wZ G q da qc qh qt qn qs qo V sr ta sc sh tb sn ss so)) := hD.perm pm_abc2
      show W p l e room_1 s m #[Value.ref b] below meth c H locs (kc + 11) (ks + 1661) Q (F0 m 1097 ls [.int 0])
      refine lv_aload_n hx hb dL_law_1097 rfl (lv_at hl 2 rfl) ?_
      refine lv_aload_n hx hb dL_law_1098 rfl (lv_at hl 0 rfl) ?_
      refine lv_iload hx hb dL_law_1099 (lv_at hl 4 rfl) ?_
      refine lv_iconst (v := 1) hx hb dL_law_1101 (by decide) ?_
      refine lv_iadd hx hb dL_law_1102 ?_
      refine va_sld hx hb hX hbl hbA hS hin1 dL_law_1103 ?_
      refine lv_aload_n hx hb dL_law_1104 rfl (lv_at hl 0 rfl) ?_
      refine lv_iload hx hb dL_law_1105 (lv_at hl 4 rfl) ?_
      refine lv_iconst (v := 2) hx hb dL_law_1107 (by decide) ?_
      refine lv_iadd hx hb dL_law_1108 ?_
      refine va_sld hx hb hX hbl hbA hS hin2 dL_law_1109 ?_
      refine lv_if_eq (tgt := 1117) hx hb dL_law_1110 (by decide) (fun _ => ?_) (fun c9 => absurd hv c9)
      refine lv_iconst (v := 0) hx hb dL_law_1117 (by decide) ?_
      refine q_Vi C (rc := (RX5, TX5, 42)) (q0 := 1) (ci := 5) (ws' := wLW G oa f qm (sR (sI st 0 0) r) (wZ G q da qc qh qt qn qs qo V sr ta sc sh tb sn ss so)) (wr := wL G oa 1 f ++ wZ G q da qc qh qt qn qs qo V sr ta sc sh tb sn ss so) (wc := wM G qm (sR st r)) (wc' := wM G qm (sR (sI st 0 0) r)) (c_X5_image (x := (0, sR (sI st 0 0) r)) e2) gL_law_X5_image rfl ⟨rfl, rfl⟩ hdX5_image ⟨(Nat.le_of_ble_eq_true rfl), (Nat.le_of_ble_eq_true rfl)⟩ rfl hP hD hS rfl rfl pm_mid pm_mid' hl.1 (Nat.le_of_ble_eq_true rfl) hc2 rfl dL_law_1118 (fun H locs hP hS => ?_)
      have hD : va_D A (wLW G oa f qm (sR (sI st 0 0) r) (wZ G q da qc qh qt qn qs qo V sr ta sc sh tb sn ss so)) := dd_LW hD
      refine lv_icmp_eq (tgt := 1126) hx hb dL_law_1121 (by decide) (fun _ => ?_) (fun c9 => absurd rfl c9)
      exact W.widen (by omega) (by omega) (K H locs ls ⟨f, V, sr, ta, sc, sh, tb, sn, ss, so, sI st 0 0, r, hR.same (KP.i0 st), hP, hD, hS⟩ hl)
    · exact absurd rfl h9
    · exact absurd rfl h9
    · rw [ej]
      refine q_VG C (rc := (RX4, TX4, 12)) (q0 := 25) (ci := 4) (wr := wL G oa 1 f ++ wM G qm (sR st r)) (wc := wZ G q da qc qh qt qn qs qo V sr ta sc sh tb sn ss so) (c_X4_imageS j2 h9 h00 (fun s0 hv => hR.bec h00 s0 hv)) gL_law_X4_image rfl ⟨rfl, rfl⟩ hdX4_image ⟨(Nat.le_of_ble_eq_true rfl), (Nat.le_of_ble_eq_true rfl)⟩ rfl hP hD hS rfl rfl pm_abc hl.1 (Nat.le_of_ble_eq_true rfl) hc2 rfl dL_law_1094 (fun r9 w9 H locs hBB hP hD hS => ?_)
      obtain ⟨rfl, q9, s0, s9, v1, v2, rfl⟩ := hBB
      have hR' := hj q9 s0 s9 v1 v2
      have hP : va_P G.1 vwCl (wLW G oa f qm (sR st r) (wZ G q da qc qh qt qn qs qo (vup V j9 (some (q9, s9))) (sA sr 8 (upd (sr.2 8) j9 1)) ta sc sh tb sn ss so)) H := hP.perm pm_abc2
      have hD : va_D A (wLW G oa f qm (sR st r) (wZ G q da qc qh qt qn qs qo (vup V j9 (some (q9, s9))) (sA sr 8 (upd (sr.2 8) j9 1)) ta sc sh tb sn ss so)) := hD.perm pm_abc2
      show W p l e room_1 s m #[Value.ref b] below meth c H locs (kc + 11) (ks + 1661) Q (F0 m 1097 ls [.int 1])
      refine lv_aload_n hx hb dL_law_1097 rfl (lv_at hl 2 rfl) ?_
      refine lv_aload_n hx hb dL_law_1098 rfl (lv_at hl 0 rfl) ?_
      refine lv_iload hx hb dL_law_1099 (lv_at hl 4 rfl) ?_
      refine lv_iconst (v := 1) hx hb dL_law_1101 (by decide) ?_
      refine lv_iadd hx hb dL_law_1102 ?_
      refine va_sld hx hb hX hbl hbA hS hin1 dL_law_1103 ?_
      refine lv_aload_n hx hb dL_law_1104 rfl (lv_at hl 0 rfl) ?_
      refine lv_iload hx hb dL_law_1105 (lv_at hl 4 rfl) ?_
      refine lv_iconst (v := 2) hx hb dL_law_1107 (by decide) ?_
      refine lv_iadd hx hb dL_law_1108 ?_
      refine va_sld hx hb hX hbl hbA hS hin2 dL_law_1109 ?_
      refine lv_if_eq (tgt := 1117) hx hb dL_law_1110 (by decide) (fun _ => ?_) (fun c9 => absurd hv c9)
      refine lv_iconst (v := 0) hx hb dL_law_1117 (by decide) ?_
      refine q_Vi C (rc := (RX5, TX5, 42)) (q0 := 1) (ci := 5) (ws' := wLW G oa f qm (sR st' r) (wZ G q da qc qh qt qn qs qo (vup V j9 (some (q9, s9))) (sA sr 8 (upd (sr.2 8) j9 1)) ta sc sh tb sn ss so)) (wr := wL G oa 1 f ++ wZ G q da qc qh qt qn qs qo (vup V j9 (some (q9, s9))) (sA sr 8 (upd (sr.2 8) j9 1)) ta sc sh tb sn ss so) (wc := wM G qm (sR st r)) (wc' := wM G qm (sR st' r)) (c_X5_image (x := (1, sR st' r)) e2) gL_law_X5_image rfl ⟨rfl, rfl⟩ hdX5_image ⟨(Nat.le_of_ble_eq_true rfl), (Nat.le_of_ble_eq_true rfl)⟩ rfl hP hD hS rfl rfl pm_mid pm_mid' hl.1 (Nat.le_of_ble_eq_true rfl) hc2 rfl dL_law_1118 (fun H locs hP hS => ?_)
      have hD : va_D A (wLW G oa f qm (sR st' r) (wZ G q da qc qh qt qn qs qo (vup V j9 (some (q9, s9))) (sA sr 8 (upd (sr.2 8) j9 1)) ta sc sh tb sn ss so)) := dd_LW hD
      refine lv_icmp_eq (tgt := 1126) hx hb dL_law_1121 (by decide) (fun _ => ?_) (fun c9 => absurd rfl c9)
      exact W.widen (by omega) (by omega) (K H locs ls ⟨f, (vup V j9 (some (q9, s9))), (sA sr 8 (upd (sr.2 8) j9 1)), ta, sc, sh, tb, sn, ss, so, st', r, hR', hP, hD, hS⟩ hl)
  · skip
    refine lv_aload_n hx hb dL_law_1073 rfl (lv_at hl 1 rfl) ?_
    refine lv_aload_n hx hb dL_law_1074 rfl (lv_at hl 0 rfl) ?_
    refine lv_iload hx hb dL_law_1075 (lv_at hl 4 rfl) ?_
    refine lv_iconst (v := 1) hx hb dL_law_1077 (by decide) ?_
    refine lv_iadd hx hb dL_law_1078 ?_
    refine va_sld hx hb hX hbl hbA hS hin1 dL_law_1079 ?_
    refine lv_aload_n hx hb dL_law_1080 rfl (lv_at hl 0 rfl) ?_
    refine lv_iload hx hb dL_law_1081 (lv_at hl 4 rfl) ?_
    refine lv_iconst (v := 2) hx hb dL_law_1083 (by decide) ?_
    refine lv_iadd hx hb dL_law_1084 ?_
    refine va_sld hx hb hX hbl hbA hS hin2 dL_law_1085 ?_
    refine lv_if_eq (tgt := 1093) hx hb dL_law_1086 (by decide) (fun c9 => absurd c9 hv) (fun _ => ?_)
    refine lv_iconst (v := 1) hx hb dL_law_1089 (by decide) ?_
    refine lv_goto (tgt := 1094) hx hb dL_law_1090 (by decide) ?_
    rcases L_image h00 hR (xs (nI (6 * k) + 1).toNatClampNeg) 1 with ⟨h9, e2⟩ | ⟨j9, j2, ej, h9, h8, e2⟩ | ⟨j9, i9, q9, s9, x9, st', r', j2, ej, h9, i14, h8, h7, h6, e2, hR'⟩ | ⟨j9, st', j2, ej, h9, e2, hj⟩
    · skip
      refine q_VG C (rc := (RX4, TX4, 12)) (q0 := 25) (ci := 4) (wr := wL G oa 1 f ++ wM G qm (sR st r)) (wc := wZ G q da qc qh qt qn qs qo V sr ta sc sh tb sn ss so) (c_X4_image0 h9) gL_law_X4_image rfl ⟨rfl, rfl⟩ hdX4_image ⟨(Nat.le_of_ble_eq_true rfl), (Nat.le_of_ble_eq_true rfl)⟩ rfl hP hD hS rfl rfl pm_abc hl.1 (Nat.le_of_ble_eq_true rfl) hc2 rfl dL_law_1094 (fun r9 w9 H locs hBB hP hD hS => ?_)
      obtain ⟨rfl, rfl⟩ := hBB
      have hP : va_P G.1 vwCl (wLW G oa f qm (sR st r) (wZ G q da qc qh qt qn qs qo V sr ta sc sh tb sn ss so)) H := hP.perm pm_abc2
      have hD : va_D A (wLW G oa f qm (sR st r) (wZ G q da qc qh qt qn qs qo V sr ta sc sh tb sn ss so)) := hD.perm pm_abc2
      show W p l e room_1 s m #[Value.ref b] below meth c H locs (kc + 11) (ks + 1661) Q (F0 m 1097 ls [.int 0])
      refine lv_aload_n hx hb dL_law_1097 rfl (lv_at hl 2 rfl) ?_
      refine lv_aload_n hx hb dL_law_1098 rfl (lv_at hl 0 rfl) ?_
      refine lv_iload hx hb dL_law_1099 (lv_at hl 4 rfl) ?_
      refine lv_iconst (v := 1) hx hb dL_law_1101 (by decide) ?_
      refine lv_iadd hx hb dL_law_1102 ?_
      refine va_sld hx hb hX hbl hbA hS hin1 dL_law_1103 ?_
      refine lv_aload_n hx hb dL_law_1104 rfl (lv_at hl 0 rfl) ?_
      refine lv_iload hx hb dL_law_1105 (lv_at hl 4 rfl) ?_
      refine lv_iconst (v := 2) hx hb dL_law_1107 (by decide) ?_
      refine lv_iadd hx hb dL_law_1108 ?_
      refine va_sld hx hb hX hbl hbA hS hin2 dL_law_1109 ?_
      refine lv_if_eq (tgt := 1117) hx hb dL_law_1110 (by decide) (fun c9 => absurd c9 hv) (fun _ => ?_)
      refine lv_iconst (v := 1) hx hb dL_law_1113 (by decide) ?_
      refine lv_goto (tgt := 1118) hx hb dL_law_1114 (by decide) ?_
      refine q_Vi C (rc := (RX5, TX5, 42)) (q0 := 1) (ci := 5) (ws' := wLW G oa f qm (sR (sI st 0 0) r) (wZ G q da qc qh qt qn qs qo V sr ta sc sh tb sn ss so)) (wr := wL G oa 1 f ++ wZ G q da qc qh qt qn qs qo V sr ta sc sh tb sn ss so) (wc := wM G qm (sR st r)) (wc' := wM G qm (sR (sI st 0 0) r)) (c_X5_image (x := (0, sR (sI st 0 0) r)) e2) gL_law_X5_image rfl ⟨rfl, rfl⟩ hdX5_image ⟨(Nat.le_of_ble_eq_true rfl), (Nat.le_of_ble_eq_true rfl)⟩ rfl hP hD hS rfl rfl pm_mid pm_mid' hl.1 (Nat.le_of_ble_eq_true rfl) hc2 rfl dL_law_1118 (fun H locs hP hS => ?_)
      have hD : va_D A (wLW G oa f qm (sR (sI st 0 0) r) (wZ G q da qc qh qt qn qs qo V sr ta sc sh tb sn ss so)) := dd_LW hD
      refine lv_icmp_eq (tgt := 1126) hx hb dL_law_1121 (by decide) (fun _ => ?_) (fun c9 => absurd rfl c9)
      exact W.widen (by omega) (by omega) (K H locs ls ⟨f, V, sr, ta, sc, sh, tb, sn, ss, so, sI st 0 0, r, hR.same (KP.i0 st), hP, hD, hS⟩ hl)
    · rw [ej]
      refine q_VG C (rc := (RX4, TX4, 12)) (q0 := 25) (ci := 4) (wr := wL G oa 1 f ++ wM G qm (sR st r)) (wc := wZ G q da qc qh qt qn qs qo V sr ta sc sh tb sn ss so) (c_X4_imageB0 j2 h9 h8) gL_law_X4_image rfl ⟨rfl, rfl⟩ hdX4_image ⟨(Nat.le_of_ble_eq_true rfl), (Nat.le_of_ble_eq_true rfl)⟩ rfl hP hD hS rfl rfl pm_abc hl.1 (Nat.le_of_ble_eq_true rfl) hc2 rfl dL_law_1094 (fun r9 w9 H locs hBB hP hD hS => ?_)
      obtain ⟨rfl, rfl⟩ := hBB
      have hP : va_P G.1 vwCl (wLW G oa f qm (sR st r) (wZ G q da qc qh qt qn qs qo V sr ta sc sh tb sn ss so)) H := hP.perm pm_abc2
      have hD : va_D A (wLW G oa f qm (sR st r) (wZ G q da qc qh qt qn qs qo V sr ta sc sh tb sn ss so)) := hD.perm pm_abc2
      show W p l e room_1 s m #[Value.ref b] below meth c H locs (kc + 11) (ks + 1661) Q (F0 m 1097 ls [.int 0])
      refine lv_aload_n hx hb dL_law_1097 rfl (lv_at hl 2 rfl) ?_
      refine lv_aload_n hx hb dL_law_1098 rfl (lv_at hl 0 rfl) ?_
      refine lv_iload hx hb dL_law_1099 (lv_at hl 4 rfl) ?_
      refine lv_iconst (v := 1) hx hb dL_law_1101 (by decide) ?_
      refine lv_iadd hx hb dL_law_1102 ?_
      refine va_sld hx hb hX hbl hbA hS hin1 dL_law_1103 ?_
      refine lv_aload_n hx hb dL_law_1104 rfl (lv_at hl 0 rfl) ?_
      refine lv_iload hx hb dL_law_1105 (lv_at hl 4 rfl) ?_
      refine lv_iconst (v := 2) hx hb dL_law_1107 (by decide) ?_
      refine lv_iadd hx hb dL_law_1108 ?_
      refine va_sld hx hb hX hbl hbA hS hin2 dL_law_1109 ?_
      refine lv_if_eq (tgt := 1117) hx hb dL_law_1110 (by decide) (fun c9 => absurd c9 hv) (fun _ => ?_)
      refine lv_iconst (v := 1) hx hb dL_law_1113 (by decide) ?_
      refine lv_goto (tgt := 1118) hx hb dL_law_1114 (by decide) ?_
      refine q_Vi C (rc := (RX5, TX5, 42)) (q0 := 1) (ci := 5) (ws' := wLW G oa f qm (sR (sI st 0 0) r) (wZ G q da qc qh qt qn qs qo V sr ta sc sh tb sn ss so)) (wr := wL G oa 1 f ++ wZ G q da qc qh qt qn qs qo V sr ta sc sh tb sn ss so) (wc := wM G qm (sR st r)) (wc' := wM G qm (sR (sI st 0 0) r)) (c_X5_image (x := (0, sR (sI st 0 0) r)) e2) gL_law_X5_image rfl ⟨rfl, rfl⟩ hdX5_image ⟨(Nat.le_of_ble_eq_true rfl), (Nat.le_of_ble_eq_true rfl)⟩ rfl hP hD hS rfl rfl pm_mid pm_mid' hl.1 (Nat.le_of_ble_eq_true rfl) hc2 rfl dL_law_1118 (fun H locs hP hS => ?_)
      have hD : va_D A (wLW G oa f qm (sR (sI st 0 0) r) (wZ G q da qc qh qt qn qs qo V sr ta sc sh tb sn ss so)) := dd_LW hD
      refine lv_icmp_eq (tgt := 1126) hx hb dL_law_1121 (by decide) (fun _ => ?_) (fun c9 => absurd rfl c9)
      exact W.widen (by omega) (by omega) (K H locs ls ⟨f, V, sr, ta, sc, sh, tb, sn, ss, so, sI st 0 0, r, hR.same (KP.i0 st), hP, hD, hS⟩ hl)
    · rw [ej]
      refine q_VG C (rc := (RX4, TX4, 12)) (q0 := 25) (ci := 4) (wr := wL G oa 1 f ++ wM G qm (sR st r)) (wc := wZ G q da qc qh qt qn qs qo V sr ta sc sh tb sn ss so) (c_X4_imageB1 j2 h9 i14 h8 h7 h6) gL_law_X4_image rfl ⟨rfl, rfl⟩ hdX4_image ⟨(Nat.le_of_ble_eq_true rfl), (Nat.le_of_ble_eq_true rfl)⟩ rfl hP hD hS rfl rfl pm_abc hl.1 (Nat.le_of_ble_eq_true rfl) hc2 rfl dL_law_1094 (fun r9 w9 H locs hBB hP hD hS => ?_)
      obtain ⟨rfl, rfl⟩ := hBB
      have hP : va_P G.1 vwCl (wLW G oa f qm (sR st r) (wZ G q da qc qh qt qn qs qo V (sI (sI sr 10 0) 11 0) ta x9 sh tb sn ss so)) H := hP.perm pm_abc2
      have hD : va_D A (wLW G oa f qm (sR st r) (wZ G q da qc qh qt qn qs qo V (sI (sI sr 10 0) 11 0) ta x9 sh tb sn ss so)) := hD.perm pm_abc2
      show W p l e room_1 s m #[Value.ref b] below meth c H locs (kc + 11) (ks + 1661) Q (F0 m 1097 ls [.int 1])
      refine lv_aload_n hx hb dL_law_1097 rfl (lv_at hl 2 rfl) ?_
      refine lv_aload_n hx hb dL_law_1098 rfl (lv_at hl 0 rfl) ?_
      refine lv_iload hx hb dL_law_1099 (lv_at hl 4 rfl) ?_
      refine lv_iconst (v := 1) hx hb dL_law_1101 (by decide) ?_
      refine lv_iadd hx hb dL_law_1102 ?_
      refine va_sld hx hb hX hbl hbA hS hin1 dL_law_1103 ?_
      refine lv_aload_n hx hb dL_law_1104 rfl (lv_at hl 0 rfl) ?_
      refine lv_iload hx hb dL_law_1105 (lv_at hl 4 rfl) ?_
      refine lv_iconst (v := 2) hx hb dL_law_1107 (by decide) ?_
      refine lv_iadd hx hb dL_law_1108 ?_
      refine va_sld hx hb hX hbl hbA hS hin2 dL_law_1109 ?_
      refine lv_if_eq (tgt := 1117) hx hb dL_law_1110 (by decide) (fun c9 => absurd c9 hv) (fun _ => ?_)
      refine lv_iconst (v := 1) hx hb dL_law_1113 (by decide) ?_
      refine lv_goto (tgt := 1118) hx hb dL_law_1114 (by decide) ?_
      refine q_Vi C (rc := (RX5, TX5, 42)) (q0 := 1) (ci := 5) (ws' := wLW G oa f qm (sR st' r') (wZ G q da qc qh qt qn qs qo V (sI (sI sr 10 0) 11 0) ta x9 sh tb sn ss so)) (wr := wL G oa 1 f ++ wZ G q da qc qh qt qn qs qo V (sI (sI sr 10 0) 11 0) ta x9 sh tb sn ss so) (wc := wM G qm (sR st r)) (wc' := wM G qm (sR st' r')) (c_X5_image (x := (1, sR st' r')) e2) gL_law_X5_image rfl ⟨rfl, rfl⟩ hdX5_image ⟨(Nat.le_of_ble_eq_true rfl), (Nat.le_of_ble_eq_true rfl)⟩ rfl hP hD hS rfl rfl pm_mid pm_mid' hl.1 (Nat.le_of_ble_eq_true rfl) hc2 rfl dL_law_1118 (fun H locs hP hS => ?_)
      have hD : va_D A (wLW G oa f qm (sR st' r') (wZ G q da qc qh qt qn qs qo V (sI (sI sr 10 0) 11 0) ta x9 sh tb sn ss so)) := dd_LW hD
      refine lv_icmp_eq (tgt := 1126) hx hb dL_law_1121 (by decide) (fun _ => ?_) (fun c9 => absurd rfl c9)
      exact W.widen (by omega) (by omega) (K H locs ls ⟨f, V, (sI (sI sr 10 0) 11 0), ta, x9, sh, tb, sn, ss, so, st', r', hR', hP, hD, hS⟩ hl)
    · exact absurd h9 (by decide)
end LAW
