section LAW
variable {p : Program} {l : Launch} {e : Env} {s : State} {m : MethodId} {below : List Frame} {meth : Method} {c : Code} {H : Heap} {locs : List Loc} {Q : State → Prop} {G : Gx} {A : Nat → Prop} {ls : Array Slot} {b L k kc ks : Nat} {xs : Nat → Int32} {q : Nat → Nat} {da : Nat} {qc qh qt qn qs qo qm : Nat → Nat} {oa : Nat} {x00 : NSt}
set_option maxHeartbeats 400000 in
set_option maxRecDepth 100000 in
theorem law_likeImage (C0 : LC p l s m meth c G A b L k kc ks xs x00) (hLP : LWP G A s q da qc qh qt qn qs qo qm oa H locs) (hl : lv_has ls 7 (lvL b q qm oa k)) (K : KL p l e s m below meth c Q G A b k kc ks q da qc qh qt qn qs qo qm oa) : W p l e room_1 s m #[Value.ref b] below meth c H locs kc ks Q (F0 m 886 ls []) := by
  obtain ⟨C, hX, hbl, hbA, hk, hL, hkc, hks, h00, hfl⟩ := C0
  obtain ⟨f, V, sr, ta, sc, sh, tb, sn, ss, so, st, r, hR, hP, hD, hS⟩ := hLP
  have hx := C.1
  have hb := C.2.1
  have hc1 : kc ≤ room_1.cells ∧ ks ≤ room_1.slots := ⟨(show kc ≤ 601024 by omega), (show ks ≤ 7293033 by omega)⟩
  have hc2 : kc + 11 ≤ room_1.cells ∧ ks + 1661 ≤ room_1.slots := ⟨(show kc + 11 ≤ 601024 by omega), (show ks + 1661 ≤ 7293033 by omega)⟩
  have hin1 : vp_in (nI (6 * k) + 1) L := by rw [nI_1]; exact vp_in_nI (by omega) (by omega)
  have hin2 : vp_in (nI (6 * k) + 2) L := by rw [show nI (6 * k) + 2 = nI (6 * k + 2) from nI_add _ 2]; exact vp_in_nI (by omega) (by omega)
  have hin3 : vp_in (nI (6 * k) + 3) L := by rw [show nI (6 * k) + 3 = nI (6 * k + 3) from nI_add _ 3]; exact vp_in_nI (by omega) (by omega)
  have hin4 : vp_in (nI (6 * k) + 4) L := by rw [show nI (6 * k) + 4 = nI (6 * k + 4) from nI_add _ 4]; exact vp_in_nI (by omega) (by omega)
  have hin5 : vp_in (nI (6 * k) + 5) L := by rw [show nI (6 * k) + 5 = nI (6 * k + 5) from nI_add _ 5]; exact vp_in_nI (by omega) (by omega)
  rcases L_likeImage hR ss so (xs (nI (6 * k) + 1).toNatClampNeg) with ⟨h11, e2⟩ | ⟨i9, q9, s9, s1, s2, b9, st', r', u1, u2, u3, u4, u5, u6, e2, hR'⟩
  · skip
    refine lv_aload_n hx hb dL_law_886 rfl (lv_at hl 1 rfl) ?_
    refine lv_aload_n hx hb dL_law_887 rfl (lv_at hl 0 rfl) ?_
    refine lv_iload hx hb dL_law_888 (lv_at hl 4 rfl) ?_
    refine lv_iconst (v := 1) hx hb dL_law_890 (by decide) ?_
    refine lv_iadd hx hb dL_law_891 ?_
    refine va_sld hx hb hX hbl hbA hS hin1 dL_law_892 ?_
    refine q_Vi C (rc := (RX4, TX4, 12)) (q0 := 25) (ci := 4) (ws' := wLW G oa f qm (sR st r) (wZ G q da qc qh qt qn qs qo V sr ta sc sh tb sn ss so)) (wr := wL G oa 1 f ++ wM G qm (sR st r)) (wc := wZ G q da qc qh qt qn qs qo V sr ta sc sh tb sn ss so) (wc' := wZ G q da qc qh qt qn qs qo V sr ta sc sh tb sn ss so) (c_X4_likeImage0 h11) gL_law_X4_likeImage rfl ⟨rfl, rfl⟩ hdX4_likeImage ⟨(Nat.le_of_ble_eq_true rfl), (Nat.le_of_ble_eq_true rfl)⟩ rfl hP hD hS rfl rfl pm_abc pm_abc2 hl.1 (Nat.le_of_ble_eq_true rfl) hc1 rfl dL_law_893 (fun H locs hP hS => ?_)
    have hD : va_D A (wLW G oa f qm (sR st r) (wZ G q da qc qh qt qn qs qo V sr ta sc sh tb sn ss so)) := dd_LW hD
    refine lv_aload_n hx hb dL_law_896 rfl (lv_at hl 2 rfl) ?_
    refine lv_aload_n hx hb dL_law_897 rfl (lv_at hl 0 rfl) ?_
    refine lv_iload hx hb dL_law_898 (lv_at hl 4 rfl) ?_
    refine lv_iconst (v := 1) hx hb dL_law_900 (by decide) ?_
    refine lv_iadd hx hb dL_law_901 ?_
    refine va_sld hx hb hX hbl hbA hS hin1 dL_law_902 ?_
    refine q_Vi C (rc := (RX5, TX5, 42)) (q0 := 1) (ci := 5) (ws' := wLW G oa f qm (sR (sI st 0 0) r) (wZ G q da qc qh qt qn qs qo V sr ta sc sh tb sn ss so)) (wr := wL G oa 1 f ++ wZ G q da qc qh qt qn qs qo V sr ta sc sh tb sn ss so) (wc := wM G qm (sR st r)) (wc' := wM G qm (sR (sI st 0 0) r)) (c_X5_likeImage (x := ((-1), sR (sI st 0 0) r)) e2) gL_law_X5_likeImage rfl ⟨rfl, rfl⟩ hdX5_likeImage ⟨(Nat.le_of_ble_eq_true rfl), (Nat.le_of_ble_eq_true rfl)⟩ rfl hP hD hS rfl rfl pm_mid pm_mid' hl.1 (Nat.le_of_ble_eq_true rfl) hc1 rfl dL_law_903 (fun H locs hP hS => ?_)
    have hD : va_D A (wLW G oa f qm (sR (sI st 0 0) r) (wZ G q da qc qh qt qn qs qo V sr ta sc sh tb sn ss so)) := dd_LW hD
    refine lv_icmp_eq (tgt := 1126) hx hb dL_law_906 (by decide) (fun _ => ?_) (fun c9 => absurd rfl c9)
    exact W.widen (by omega) (by omega) (K H locs ls ⟨f, V, sr, ta, sc, sh, tb, sn, ss, so, sI st 0 0, r, hR.same (KP.i0 st), hP, hD, hS⟩ hl)
  · skip
    refine lv_aload_n hx hb dL_law_886 rfl (lv_at hl 1 rfl) ?_
    refine lv_aload_n hx hb dL_law_887 rfl (lv_at hl 0 rfl) ?_
    refine lv_iload hx hb dL_law_888 (lv_at hl 4 rfl) ?_
    refine lv_iconst (v := 1) hx hb dL_law_890 (by decide) ?_
    refine lv_iadd hx hb dL_law_891 ?_
    refine va_sld hx hb hX hbl hbA hS hin1 dL_law_892 ?_
    refine q_Vi C (rc := (RX4, TX4, 12)) (q0 := 25) (ci := 4) (ws' := wLW G oa f qm (sR st r) (wZ G q da qc qh qt qn qs qo V sr ta sc sh tb sn s1 s2)) (wr := wL G oa 1 f ++ wM G qm (sR st r)) (wc := wZ G q da qc qh qt qn qs qo V sr ta sc sh tb sn ss so) (wc' := wZ G q da qc qh qt qn qs qo V sr ta sc sh tb sn s1 s2) (c_X4_likeImage1 u1 u2 u3 u4 u5 u6) gL_law_X4_likeImage rfl ⟨rfl, rfl⟩ hdX4_likeImage ⟨(Nat.le_of_ble_eq_true rfl), (Nat.le_of_ble_eq_true rfl)⟩ rfl hP hD hS rfl rfl pm_abc pm_abc2 hl.1 (Nat.le_of_ble_eq_true rfl) hc1 rfl dL_law_893 (fun H locs hP hS => ?_)
    have hD : va_D A (wLW G oa f qm (sR st r) (wZ G q da qc qh qt qn qs qo V sr ta sc sh tb sn s1 s2)) := dd_LW hD
    refine lv_aload_n hx hb dL_law_896 rfl (lv_at hl 2 rfl) ?_
    refine lv_aload_n hx hb dL_law_897 rfl (lv_at hl 0 rfl) ?_
    refine lv_iload hx hb dL_law_898 (lv_at hl 4 rfl) ?_
    refine lv_iconst (v := 1) hx hb dL_law_900 (by decide) ?_
    refine lv_iadd hx hb dL_law_901 ?_
    refine va_sld hx hb hX hbl hbA hS hin1 dL_law_902 ?_
    refine q_Vi C (rc := (RX5, TX5, 42)) (q0 := 1) (ci := 5) (ws' := wLW G oa f qm (sR st' r') (wZ G q da qc qh qt qn qs qo V sr ta sc sh tb sn s1 s2)) (wr := wL G oa 1 f ++ wZ G q da qc qh qt qn qs qo V sr ta sc sh tb sn s1 s2) (wc := wM G qm (sR st r)) (wc' := wM G qm (sR st' r')) (c_X5_likeImage (x := (((if b9 = 0 then 0 else 1)), sR st' r')) e2) gL_law_X5_likeImage rfl ⟨rfl, rfl⟩ hdX5_likeImage ⟨(Nat.le_of_ble_eq_true rfl), (Nat.le_of_ble_eq_true rfl)⟩ rfl hP hD hS rfl rfl pm_mid pm_mid' hl.1 (Nat.le_of_ble_eq_true rfl) hc1 rfl dL_law_903 (fun H locs hP hS => ?_)
    have hD : va_D A (wLW G oa f qm (sR st' r') (wZ G q da qc qh qt qn qs qo V sr ta sc sh tb sn s1 s2)) := dd_LW hD
    refine lv_icmp_eq (tgt := 1126) hx hb dL_law_906 (by decide) (fun _ => ?_) (fun c9 => absurd rfl c9)
    exact W.widen (by omega) (by omega) (K H locs ls ⟨f, V, sr, ta, sc, sh, tb, sn, s1, s2, st', r', hR', hP, hD, hS⟩ hl)
set_option maxHeartbeats 400000 in
set_option maxRecDepth 100000 in
theorem law_put (C0 : LC p l s m meth c G A b L k kc ks xs x00) (hLP : LWP G A s q da qc qh qt qn qs qo qm oa H locs) (hl : lv_has ls 7 (lvL b q qm oa k)) (K : KL p l e s m below meth c Q G A b k kc ks q da qc qh qt qn qs qo qm oa) : W p l e room_1 s m #[Value.ref b] below meth c H locs kc ks Q (F0 m 911 ls []) := by
  obtain ⟨C, hX, hbl, hbA, hk, hL, hkc, hks, h00, hfl⟩ := C0
  obtain ⟨f, V, sr, ta, sc, sh, tb, sn, ss, so, st, r, hR, hP, hD, hS⟩ := hLP
  have hx := C.1
  have hb := C.2.1
  have hc1 : kc ≤ room_1.cells ∧ ks ≤ room_1.slots := ⟨(show kc ≤ 601024 by omega), (show ks ≤ 7293033 by omega)⟩
  have hc2 : kc + 11 ≤ room_1.cells ∧ ks + 1661 ≤ room_1.slots := ⟨(show kc + 11 ≤ 601024 by omega), (show ks + 1661 ≤ 7293033 by omega)⟩
  have hin1 : vp_in (nI (6 * k) + 1) L := by rw [nI_1]; exact vp_in_nI (by omega) (by omega)
  have hin2 : vp_in (nI (6 * k) + 2) L := by rw [show nI (6 * k) + 2 = nI (6 * k + 2) from nI_add _ 2]; exact vp_in_nI (by omega) (by omega)
  have hin3 : vp_in (nI (6 * k) + 3) L := by rw [show nI (6 * k) + 3 = nI (6 * k + 3) from nI_add _ 3]; exact vp_in_nI (by omega) (by omega)
  have hin4 : vp_in (nI (6 * k) + 4) L := by rw [show nI (6 * k) + 4 = nI (6 * k + 4) from nI_add _ 4]; exact vp_in_nI (by omega) (by omega)
  have hin5 : vp_in (nI (6 * k) + 5) L := by rw [show nI (6 * k) + 5 = nI (6 * k + 5) from nI_add _ 5]; exact vp_in_nI (by omega) (by omega)
  obtain ⟨g, x, sc', st', r', e1, e2, hj⟩ := L_put h00 hR (xs (nI (6 * k) + 1).toNatClampNeg) (xs (nI (6 * k) + 2).toNatClampNeg)
  refine lv_aload_n hx hb dL_law_911 rfl (lv_at hl 1 rfl) ?_
  refine lv_aload_n hx hb dL_law_912 rfl (lv_at hl 0 rfl) ?_
  refine lv_iload hx hb dL_law_913 (lv_at hl 4 rfl) ?_
  refine lv_iconst (v := 1) hx hb dL_law_915 (by decide) ?_
  refine lv_iadd hx hb dL_law_916 ?_
  refine va_sld hx hb hX hbl hbA hS hin1 dL_law_917 ?_
  refine lv_aload_n hx hb dL_law_918 rfl (lv_at hl 0 rfl) ?_
  refine lv_iload hx hb dL_law_919 (lv_at hl 4 rfl) ?_
  refine lv_iconst (v := 2) hx hb dL_law_921 (by decide) ?_
  refine lv_iadd hx hb dL_law_922 ?_
  refine va_sld hx hb hX hbl hbA hS hin2 dL_law_923 ?_
  refine q_VG C (rc := (RX4, TX4, 12)) (q0 := 25) (ci := 4) (wr := wL G oa 1 f ++ wM G qm (sR st r)) (wc := wZ G q da qc qh qt qn qs qo V sr ta sc sh tb sn ss so) (c_X4_put (x := (g, x, sc')) (hR.rh h00) e1) gL_law_X4_put rfl ⟨rfl, rfl⟩ hdX4_put ⟨(Nat.le_of_ble_eq_true rfl), (Nat.le_of_ble_eq_true rfl)⟩ rfl hP hD hS rfl rfl pm_abc hl.1 (Nat.le_of_ble_eq_true rfl) hc2 rfl dL_law_924 (fun r9 w9 H locs hBB hP hD hS => ?_)
  obtain ⟨rfl, V', sr', hz, rfl⟩ := hBB
  have hR' := hj V' sr' hz
  have hP : va_P G.1 vwCl (wLW G oa f qm (sR st r) (wZ G q da qc qh qt qn qs qo V' sr' ta sc' sh tb sn ss so)) H := hP.perm pm_abc2
  have hD : va_D A (wLW G oa f qm (sR st r) (wZ G q da qc qh qt qn qs qo V' sr' ta sc' sh tb sn ss so)) := hD.perm pm_abc2
  show W p l e room_1 s m #[Value.ref b] below meth c H locs (kc + 11) (ks + 1661) Q (F0 m 927 ls [.int x])
  refine lv_aload_n hx hb dL_law_927 rfl (lv_at hl 2 rfl) ?_
  refine lv_aload_n hx hb dL_law_928 rfl (lv_at hl 0 rfl) ?_
  refine lv_iload hx hb dL_law_929 (lv_at hl 4 rfl) ?_
  refine lv_iconst (v := 1) hx hb dL_law_931 (by decide) ?_
  refine lv_iadd hx hb dL_law_932 ?_
  refine va_sld hx hb hX hbl hbA hS hin1 dL_law_933 ?_
  refine lv_aload_n hx hb dL_law_934 rfl (lv_at hl 0 rfl) ?_
  refine lv_iload hx hb dL_law_935 (lv_at hl 4 rfl) ?_
  refine lv_iconst (v := 2) hx hb dL_law_937 (by decide) ?_
  refine lv_iadd hx hb dL_law_938 ?_
  refine va_sld hx hb hX hbl hbA hS hin2 dL_law_939 ?_
  refine q_Vi C (rc := (RX5, TX5, 42)) (q0 := 1) (ci := 5) (ws' := wLW G oa f qm (sR st' r') (wZ G q da qc qh qt qn qs qo V' sr' ta sc' sh tb sn ss so)) (wr := wL G oa 1 f ++ wZ G q da qc qh qt qn qs qo V' sr' ta sc' sh tb sn ss so) (wc := wM G qm (sR st r)) (wc' := wM G qm (sR st' r')) (c_X5_put (x := (x, sR st' r')) e2) gL_law_X5_put rfl ⟨rfl, rfl⟩ hdX5_put ⟨(Nat.le_of_ble_eq_true rfl), (Nat.le_of_ble_eq_true rfl)⟩ rfl hP hD hS rfl rfl pm_mid pm_mid' hl.1 (Nat.le_of_ble_eq_true rfl) hc2 rfl dL_law_940 (fun H locs hP hS => ?_)
  have hD : va_D A (wLW G oa f qm (sR st' r') (wZ G q da qc qh qt qn qs qo V' sr' ta sc' sh tb sn ss so)) := dd_LW hD
  refine lv_icmp_eq (tgt := 1126) hx hb dL_law_943 (by decide) (fun _ => ?_) (fun c9 => absurd rfl c9)
  exact W.widen (by omega) (by omega) (K H locs ls ⟨f, V', sr', ta, sc', sh, tb, sn, ss, so, st', r', hR', hP, hD, hS⟩ hl)
set_option maxHeartbeats 400000 in
set_option maxRecDepth 100000 in
theorem law_split (C0 : LC p l s m meth c G A b L k kc ks xs x00) (hLP : LWP G A s q da qc qh qt qn qs qo qm oa H locs) (hl : lv_has ls 7 (lvL b q qm oa k)) (K : KL p l e s m below meth c Q G A b k kc ks q da qc qh qt qn qs qo qm oa) : W p l e room_1 s m #[Value.ref b] below meth c H locs kc ks Q (F0 m 948 ls []) := by
  obtain ⟨C, hX, hbl, hbA, hk, hL, hkc, hks, h00, hfl⟩ := C0
  obtain ⟨f, V, sr, ta, sc, sh, tb, sn, ss, so, st, r, hR, hP, hD, hS⟩ := hLP
  have hx := C.1
  have hb := C.2.1
  have hc1 : kc ≤ room_1.cells ∧ ks ≤ room_1.slots := ⟨(show kc ≤ 601024 by omega), (show ks ≤ 7293033 by omega)⟩
  have hc2 : kc + 11 ≤ room_1.cells ∧ ks + 1661 ≤ room_1.slots := ⟨(show kc + 11 ≤ 601024 by omega), (show ks + 1661 ≤ 7293033 by omega)⟩
  have hin1 : vp_in (nI (6 * k) + 1) L := by rw [nI_1]; exact vp_in_nI (by omega) (by omega)
  have hin2 : vp_in (nI (6 * k) + 2) L := by rw [show nI (6 * k) + 2 = nI (6 * k + 2) from nI_add _ 2]; exact vp_in_nI (by omega) (by omega)
  have hin3 : vp_in (nI (6 * k) + 3) L := by rw [show nI (6 * k) + 3 = nI (6 * k + 3) from nI_add _ 3]; exact vp_in_nI (by omega) (by omega)
  have hin4 : vp_in (nI (6 * k) + 4) L := by rw [show nI (6 * k) + 4 = nI (6 * k + 4) from nI_add _ 4]; exact vp_in_nI (by omega) (by omega)
  have hin5 : vp_in (nI (6 * k) + 5) L := by rw [show nI (6 * k) + 5 = nI (6 * k + 5) from nI_add _ 5]; exact vp_in_nI (by omega) (by omega)
  obtain ⟨g, x, sc', st', r', e1, e2, hj⟩ := L_split h00 hR (xs (nI (6 * k) + 1).toNatClampNeg)
  refine lv_aload_n hx hb dL_law_948 rfl (lv_at hl 1 rfl) ?_
  refine lv_aload_n hx hb dL_law_949 rfl (lv_at hl 0 rfl) ?_
  refine lv_iload hx hb dL_law_950 (lv_at hl 4 rfl) ?_
  refine lv_iconst (v := 1) hx hb dL_law_952 (by decide) ?_
  refine lv_iadd hx hb dL_law_953 ?_
  refine va_sld hx hb hX hbl hbA hS hin1 dL_law_954 ?_
  refine q_VG C (rc := (RX4, TX4, 12)) (q0 := 25) (ci := 4) (wr := wL G oa 1 f ++ wM G qm (sR st r)) (wc := wZ G q da qc qh qt qn qs qo V sr ta sc sh tb sn ss so) (c_X4_split (x := (g, x, sc')) (hR.rh h00) e1) gL_law_X4_split rfl ⟨rfl, rfl⟩ hdX4_split ⟨(Nat.le_of_ble_eq_true rfl), (Nat.le_of_ble_eq_true rfl)⟩ rfl hP hD hS rfl rfl pm_abc hl.1 (Nat.le_of_ble_eq_true rfl) hc2 rfl dL_law_955 (fun r9 w9 H locs hBB hP hD hS => ?_)
  obtain ⟨rfl, V', sr', hz, rfl⟩ := hBB
  have hR' := hj V' sr' hz
  have hP : va_P G.1 vwCl (wLW G oa f qm (sR st r) (wZ G q da qc qh qt qn qs qo V' sr' ta sc' sh tb sn ss so)) H := hP.perm pm_abc2
  have hD : va_D A (wLW G oa f qm (sR st r) (wZ G q da qc qh qt qn qs qo V' sr' ta sc' sh tb sn ss so)) := hD.perm pm_abc2
  show W p l e room_1 s m #[Value.ref b] below meth c H locs (kc + 11) (ks + 1661) Q (F0 m 958 ls [.int x])
  refine lv_aload_n hx hb dL_law_958 rfl (lv_at hl 2 rfl) ?_
  refine lv_aload_n hx hb dL_law_959 rfl (lv_at hl 0 rfl) ?_
  refine lv_iload hx hb dL_law_960 (lv_at hl 4 rfl) ?_
  refine lv_iconst (v := 1) hx hb dL_law_962 (by decide) ?_
  refine lv_iadd hx hb dL_law_963 ?_
  refine va_sld hx hb hX hbl hbA hS hin1 dL_law_964 ?_
  refine q_Vi C (rc := (RX5, TX5, 42)) (q0 := 1) (ci := 5) (ws' := wLW G oa f qm (sR st' r') (wZ G q da qc qh qt qn qs qo V' sr' ta sc' sh tb sn ss so)) (wr := wL G oa 1 f ++ wZ G q da qc qh qt qn qs qo V' sr' ta sc' sh tb sn ss so) (wc := wM G qm (sR st r)) (wc' := wM G qm (sR st' r')) (c_X5_split (x := (x, sR st' r')) e2) gL_law_X5_split rfl ⟨rfl, rfl⟩ hdX5_split ⟨(Nat.le_of_ble_eq_true rfl), (Nat.le_of_ble_eq_true rfl)⟩ rfl hP hD hS rfl rfl pm_mid pm_mid' hl.1 (Nat.le_of_ble_eq_true rfl) hc2 rfl dL_law_965 (fun H locs hP hS => ?_)
  have hD : va_D A (wLW G oa f qm (sR st' r') (wZ G q da qc qh qt qn qs qo V' sr' ta sc' sh tb sn ss so)) := dd_LW hD
  refine lv_icmp_eq (tgt := 1126) hx hb dL_law_968 (by decide) (fun _ => ?_) (fun c9 => absurd rfl c9)
  exact W.widen (by omega) (by omega) (K H locs ls ⟨f, V', sr', ta, sc', sh, tb, sn, ss, so, st', r', hR', hP, hD, hS⟩ hl)
set_option maxHeartbeats 400000 in
set_option maxRecDepth 100000 in
theorem law_twice (C0 : LC p l s m meth c G A b L k kc ks xs x00) (hLP : LWP G A s q da qc qh qt qn qs qo qm oa H locs) (hl : lv_has ls 7 (lvL b q qm oa k)) (K : KL p l e s m below meth c Q G A b k kc ks q da qc qh qt qn qs qo qm oa) : W p l e room_1 s m #[Value.ref b] below meth c H locs kc ks Q (F0 m 973 ls []) := by
  obtain ⟨C, hX, hbl, hbA, hk, hL, hkc, hks, h00, hfl⟩ := C0
  obtain ⟨f, V, sr, ta, sc, sh, tb, sn, ss, so, st, r, hR, hP, hD, hS⟩ := hLP
  have hx := C.1
  have hb := C.2.1
  have hc1 : kc ≤ room_1.cells ∧ ks ≤ room_1.slots := ⟨(show kc ≤ 601024 by omega), (show ks ≤ 7293033 by omega)⟩
  have hc2 : kc + 11 ≤ room_1.cells ∧ ks + 1661 ≤ room_1.slots := ⟨(show kc + 11 ≤ 601024 by omega), (show ks + 1661 ≤ 7293033 by omega)⟩
  have hin1 : vp_in (nI (6 * k) + 1) L := by rw [nI_1]; exact vp_in_nI (by omega) (by omega)
  have hin2 : vp_in (nI (6 * k) + 2) L := by rw [show nI (6 * k) + 2 = nI (6 * k + 2) from nI_add _ 2]; exact vp_in_nI (by omega) (by omega)
  have hin3 : vp_in (nI (6 * k) + 3) L := by rw [show nI (6 * k) + 3 = nI (6 * k + 3) from nI_add _ 3]; exact vp_in_nI (by omega) (by omega)
  have hin4 : vp_in (nI (6 * k) + 4) L := by rw [show nI (6 * k) + 4 = nI (6 * k + 4) from nI_add _ 4]; exact vp_in_nI (by omega) (by omega)
  have hin5 : vp_in (nI (6 * k) + 5) L := by rw [show nI (6 * k) + 5 = nI (6 * k + 5) from nI_add _ 5]; exact vp_in_nI (by omega) (by omega)
  obtain ⟨g, x, sc', st', r', e1, e2, hj⟩ := L_twice h00 hR (xs (nI (6 * k) + 1).toNatClampNeg)
  refine lv_aload_n hx hb dL_law_973 rfl (lv_at hl 1 rfl) ?_
  refine lv_aload_n hx hb dL_law_974 rfl (lv_at hl 0 rfl) ?_
  refine lv_iload hx hb dL_law_975 (lv_at hl 4 rfl) ?_
  refine lv_iconst (v := 1) hx hb dL_law_977 (by decide) ?_
  refine lv_iadd hx hb dL_law_978 ?_
  refine va_sld hx hb hX hbl hbA hS hin1 dL_law_979 ?_
  refine q_VG C (rc := (RX4, TX4, 12)) (q0 := 25) (ci := 4) (wr := wL G oa 1 f ++ wM G qm (sR st r)) (wc := wZ G q da qc qh qt qn qs qo V sr ta sc sh tb sn ss so) (c_X4_twice (x := (g, x, sc')) (hR.rh h00) e1) gL_law_X4_twice rfl ⟨rfl, rfl⟩ hdX4_twice ⟨(Nat.le_of_ble_eq_true rfl), (Nat.le_of_ble_eq_true rfl)⟩ rfl hP hD hS rfl rfl pm_abc hl.1 (Nat.le_of_ble_eq_true rfl) hc2 rfl dL_law_980 (fun r9 w9 H locs hBB hP hD hS => ?_)
  obtain ⟨rfl, V', sr', hz, rfl⟩ := hBB
  have hR' := hj V' sr' hz
  have hP : va_P G.1 vwCl (wLW G oa f qm (sR st r) (wZ G q da qc qh qt qn qs qo V' sr' ta sc' sh tb sn ss so)) H := hP.perm pm_abc2
  have hD : va_D A (wLW G oa f qm (sR st r) (wZ G q da qc qh qt qn qs qo V' sr' ta sc' sh tb sn ss so)) := hD.perm pm_abc2
  show W p l e room_1 s m #[Value.ref b] below meth c H locs (kc + 11) (ks + 1661) Q (F0 m 983 ls [.int x])
  refine lv_aload_n hx hb dL_law_983 rfl (lv_at hl 2 rfl) ?_
  refine lv_aload_n hx hb dL_law_984 rfl (lv_at hl 0 rfl) ?_
  refine lv_iload hx hb dL_law_985 (lv_at hl 4 rfl) ?_
  refine lv_iconst (v := 1) hx hb dL_law_987 (by decide) ?_
  refine lv_iadd hx hb dL_law_988 ?_
  refine va_sld hx hb hX hbl hbA hS hin1 dL_law_989 ?_
  refine q_Vi C (rc := (RX5, TX5, 42)) (q0 := 1) (ci := 5) (ws' := wLW G oa f qm (sR st' r') (wZ G q da qc qh qt qn qs qo V' sr' ta sc' sh tb sn ss so)) (wr := wL G oa 1 f ++ wZ G q da qc qh qt qn qs qo V' sr' ta sc' sh tb sn ss so) (wc := wM G qm (sR st r)) (wc' := wM G qm (sR st' r')) (c_X5_twice (x := (x, sR st' r')) e2) gL_law_X5_twice rfl ⟨rfl, rfl⟩ hdX5_twice ⟨(Nat.le_of_ble_eq_true rfl), (Nat.le_of_ble_eq_true rfl)⟩ rfl hP hD hS rfl rfl pm_mid pm_mid' hl.1 (Nat.le_of_ble_eq_true rfl) hc2 rfl dL_law_990 (fun H locs hP hS => ?_)
  have hD : va_D A (wLW G oa f qm (sR st' r') (wZ G q da qc qh qt qn qs qo V' sr' ta sc' sh tb sn ss so)) := dd_LW hD
  refine lv_icmp_eq (tgt := 1126) hx hb dL_law_993 (by decide) (fun _ => ?_) (fun c9 => absurd rfl c9)
  exact W.widen (by omega) (by omega) (K H locs ls ⟨f, V', sr', ta, sc', sh, tb, sn, ss, so, st', r', hR', hP, hD, hS⟩ hl)
set_option maxHeartbeats 400000 in
set_option maxRecDepth 100000 in
theorem law_drop (C0 : LC p l s m meth c G A b L k kc ks xs x00) (hLP : LWP G A s q da qc qh qt qn qs qo qm oa H locs) (hl : lv_has ls 7 (lvL b q qm oa k)) (K : KL p l e s m below meth c Q G A b k kc ks q da qc qh qt qn qs qo qm oa) : W p l e room_1 s m #[Value.ref b] below meth c H locs kc ks Q (F0 m 998 ls []) := by
  obtain ⟨C, hX, hbl, hbA, hk, hL, hkc, hks, h00, hfl⟩ := C0
  obtain ⟨f, V, sr, ta, sc, sh, tb, sn, ss, so, st, r, hR, hP, hD, hS⟩ := hLP
  have hx := C.1
  have hb := C.2.1
  have hc1 : kc ≤ room_1.cells ∧ ks ≤ room_1.slots := ⟨(show kc ≤ 601024 by omega), (show ks ≤ 7293033 by omega)⟩
  have hc2 : kc + 11 ≤ room_1.cells ∧ ks + 1661 ≤ room_1.slots := ⟨(show kc + 11 ≤ 601024 by omega), (show ks + 1661 ≤ 7293033 by omega)⟩
  have hin1 : vp_in (nI (6 * k) + 1) L := by rw [nI_1]; exact vp_in_nI (by omega) (by omega)
  have hin2 : vp_in (nI (6 * k) + 2) L := by rw [show nI (6 * k) + 2 = nI (6 * k + 2) from nI_add _ 2]; exact vp_in_nI (by omega) (by omega)
  have hin3 : vp_in (nI (6 * k) + 3) L := by rw [show nI (6 * k) + 3 = nI (6 * k + 3) from nI_add _ 3]; exact vp_in_nI (by omega) (by omega)
  have hin4 : vp_in (nI (6 * k) + 4) L := by rw [show nI (6 * k) + 4 = nI (6 * k + 4) from nI_add _ 4]; exact vp_in_nI (by omega) (by omega)
  have hin5 : vp_in (nI (6 * k) + 5) L := by rw [show nI (6 * k) + 5 = nI (6 * k + 5) from nI_add _ 5]; exact vp_in_nI (by omega) (by omega)
  obtain ⟨g, x, sc', st', r', e1, e2, hj⟩ := L_drop h00 hR (xs (nI (6 * k) + 1).toNatClampNeg)
  refine lv_aload_n hx hb dL_law_998 rfl (lv_at hl 1 rfl) ?_
  refine lv_aload_n hx hb dL_law_999 rfl (lv_at hl 0 rfl) ?_
  refine lv_iload hx hb dL_law_1000 (lv_at hl 4 rfl) ?_
  refine lv_iconst (v := 1) hx hb dL_law_1002 (by decide) ?_
  refine lv_iadd hx hb dL_law_1003 ?_
  refine va_sld hx hb hX hbl hbA hS hin1 dL_law_1004 ?_
  refine q_VG C (rc := (RX4, TX4, 12)) (q0 := 25) (ci := 4) (wr := wL G oa 1 f ++ wM G qm (sR st r)) (wc := wZ G q da qc qh qt qn qs qo V sr ta sc sh tb sn ss so) (c_X4_drop (x := (g, x, sc')) (hR.rh h00) e1) gL_law_X4_drop rfl ⟨rfl, rfl⟩ hdX4_drop ⟨(Nat.le_of_ble_eq_true rfl), (Nat.le_of_ble_eq_true rfl)⟩ rfl hP hD hS rfl rfl pm_abc hl.1 (Nat.le_of_ble_eq_true rfl) hc2 rfl dL_law_1005 (fun r9 w9 H locs hBB hP hD hS => ?_)
  obtain ⟨rfl, V', sr', hz, rfl⟩ := hBB
  have hR' := hj V' sr' hz
  have hP : va_P G.1 vwCl (wLW G oa f qm (sR st r) (wZ G q da qc qh qt qn qs qo V' sr' ta sc' sh tb sn ss so)) H := hP.perm pm_abc2
  have hD : va_D A (wLW G oa f qm (sR st r) (wZ G q da qc qh qt qn qs qo V' sr' ta sc' sh tb sn ss so)) := hD.perm pm_abc2
  show W p l e room_1 s m #[Value.ref b] below meth c H locs (kc + 11) (ks + 1661) Q (F0 m 1008 ls [.int x])
  refine lv_aload_n hx hb dL_law_1008 rfl (lv_at hl 2 rfl) ?_
  refine lv_aload_n hx hb dL_law_1009 rfl (lv_at hl 0 rfl) ?_
  refine lv_iload hx hb dL_law_1010 (lv_at hl 4 rfl) ?_
  refine lv_iconst (v := 1) hx hb dL_law_1012 (by decide) ?_
  refine lv_iadd hx hb dL_law_1013 ?_
  refine va_sld hx hb hX hbl hbA hS hin1 dL_law_1014 ?_
  refine q_Vi C (rc := (RX5, TX5, 42)) (q0 := 1) (ci := 5) (ws' := wLW G oa f qm (sR st' r') (wZ G q da qc qh qt qn qs qo V' sr' ta sc' sh tb sn ss so)) (wr := wL G oa 1 f ++ wZ G q da qc qh qt qn qs qo V' sr' ta sc' sh tb sn ss so) (wc := wM G qm (sR st r)) (wc' := wM G qm (sR st' r')) (c_X5_drop (x := (x, sR st' r')) e2) gL_law_X5_drop rfl ⟨rfl, rfl⟩ hdX5_drop ⟨(Nat.le_of_ble_eq_true rfl), (Nat.le_of_ble_eq_true rfl)⟩ rfl hP hD hS rfl rfl pm_mid pm_mid' hl.1 (Nat.le_of_ble_eq_true rfl) hc2 rfl dL_law_1015 (fun H locs hP hS => ?_)
  have hD : va_D A (wLW G oa f qm (sR st' r') (wZ G q da qc qh qt qn qs qo V' sr' ta sc' sh tb sn ss so)) := dd_LW hD
  refine lv_icmp_eq (tgt := 1126) hx hb dL_law_1018 (by decide) (fun _ => ?_) (fun c9 => absurd rfl c9)
  exact W.widen (by omega) (by omega) (K H locs ls ⟨f, V', sr', ta, sc', sh, tb, sn, ss, so, st', r', hR', hP, hD, hS⟩ hl)
set_option maxHeartbeats 400000 in
set_option maxRecDepth 100000 in
theorem law_join (C0 : LC p l s m meth c G A b L k kc ks xs x00) (hLP : LWP G A s q da qc qh qt qn qs qo qm oa H locs) (hl : lv_has ls 7 (lvL b q qm oa k)) (K : KL p l e s m below meth c Q G A b k kc ks q da qc qh qt qn qs qo qm oa) : W p l e room_1 s m #[Value.ref b] below meth c H locs kc ks Q (F0 m 1023 ls []) := by
  obtain ⟨C, hX, hbl, hbA, hk, hL, hkc, hks, h00, hfl⟩ := C0
  obtain ⟨f, V, sr, ta, sc, sh, tb, sn, ss, so, st, r, hR, hP, hD, hS⟩ := hLP
  have hx := C.1
  have hb := C.2.1
  have hc1 : kc ≤ room_1.cells ∧ ks ≤ room_1.slots := ⟨(show kc ≤ 601024 by omega), (show ks ≤ 7293033 by omega)⟩
  have hc2 : kc + 11 ≤ room_1.cells ∧ ks + 1661 ≤ room_1.slots := ⟨(show kc + 11 ≤ 601024 by omega), (show ks + 1661 ≤ 7293033 by omega)⟩
  have hin1 : vp_in (nI (6 * k) + 1) L := by rw [nI_1]; exact vp_in_nI (by omega) (by omega)
  have hin2 : vp_in (nI (6 * k) + 2) L := by rw [show nI (6 * k) + 2 = nI (6 * k + 2) from nI_add _ 2]; exact vp_in_nI (by omega) (by omega)
  have hin3 : vp_in (nI (6 * k) + 3) L := by rw [show nI (6 * k) + 3 = nI (6 * k + 3) from nI_add _ 3]; exact vp_in_nI (by omega) (by omega)
  have hin4 : vp_in (nI (6 * k) + 4) L := by rw [show nI (6 * k) + 4 = nI (6 * k + 4) from nI_add _ 4]; exact vp_in_nI (by omega) (by omega)
  have hin5 : vp_in (nI (6 * k) + 5) L := by rw [show nI (6 * k) + 5 = nI (6 * k + 5) from nI_add _ 5]; exact vp_in_nI (by omega) (by omega)
  obtain ⟨g, x, sc', st', r', e1, e2, hj⟩ := L_join h00 hR (xs (nI (6 * k) + 1).toNatClampNeg) (xs (nI (6 * k) + 2).toNatClampNeg)
  refine lv_aload_n hx hb dL_law_1023 rfl (lv_at hl 1 rfl) ?_
  refine lv_aload_n hx hb dL_law_1024 rfl (lv_at hl 0 rfl) ?_
  refine lv_iload hx hb dL_law_1025 (lv_at hl 4 rfl) ?_
  refine lv_iconst (v := 1) hx hb dL_law_1027 (by decide) ?_
  refine lv_iadd hx hb dL_law_1028 ?_
  refine va_sld hx hb hX hbl hbA hS hin1 dL_law_1029 ?_
  refine lv_aload_n hx hb dL_law_1030 rfl (lv_at hl 0 rfl) ?_
  refine lv_iload hx hb dL_law_1031 (lv_at hl 4 rfl) ?_
  refine lv_iconst (v := 2) hx hb dL_law_1033 (by decide) ?_
  refine lv_iadd hx hb dL_law_1034 ?_
  refine va_sld hx hb hX hbl hbA hS hin2 dL_law_1035 ?_
  refine q_VG C (rc := (RX4, TX4, 12)) (q0 := 25) (ci := 4) (wr := wL G oa 1 f ++ wM G qm (sR st r)) (wc := wZ G q da qc qh qt qn qs qo V sr ta sc sh tb sn ss so) (c_X4_join (x := (g, x, sc')) (hR.rh h00) e1) gL_law_X4_join rfl ⟨rfl, rfl⟩ hdX4_join ⟨(Nat.le_of_ble_eq_true rfl), (Nat.le_of_ble_eq_true rfl)⟩ rfl hP hD hS rfl rfl pm_abc hl.1 (Nat.le_of_ble_eq_true rfl) hc2 rfl dL_law_1036 (fun r9 w9 H locs hBB hP hD hS => ?_)
  obtain ⟨rfl, V', sr', hz, rfl⟩ := hBB
  have hR' := hj V' sr' hz
  have hP : va_P G.1 vwCl (wLW G oa f qm (sR st r) (wZ G q da qc qh qt qn qs qo V' sr' ta sc' sh tb sn ss so)) H := hP.perm pm_abc2
  have hD : va_D A (wLW G oa f qm (sR st r) (wZ G q da qc qh qt qn qs qo V' sr' ta sc' sh tb sn ss so)) := hD.perm pm_abc2
  show W p l e room_1 s m #[Value.ref b] below meth c H locs (kc + 11) (ks + 1661) Q (F0 m 1039 ls [.int x])
  refine lv_aload_n hx hb dL_law_1039 rfl (lv_at hl 2 rfl) ?_
  refine lv_aload_n hx hb dL_law_1040 rfl (lv_at hl 0 rfl) ?_
  refine lv_iload hx hb dL_law_1041 (lv_at hl 4 rfl) ?_
  refine lv_iconst (v := 1) hx hb dL_law_1043 (by decide) ?_
  refine lv_iadd hx hb dL_law_1044 ?_
  refine va_sld hx hb hX hbl hbA hS hin1 dL_law_1045 ?_
  refine lv_aload_n hx hb dL_law_1046 rfl (lv_at hl 0 rfl) ?_
  refine lv_iload hx hb dL_law_1047 (lv_at hl 4 rfl) ?_
  refine lv_iconst (v := 2) hx hb dL_law_1049 (by decide) ?_
  refine lv_iadd hx hb dL_law_1050 ?_
  refine va_sld hx hb hX hbl hbA hS hin2 dL_law_1051 ?_
  refine q_Vi C (rc := (RX5, TX5, 42)) (q0 := 1) (ci := 5) (ws' := wLW G oa f qm (sR st' r') (wZ G q da qc qh qt qn qs qo V' sr' ta sc' sh tb sn ss so)) (wr := wL G oa 1 f ++ wZ G q da qc qh qt qn qs qo V' sr' ta sc' sh tb sn ss so) (wc := wM G qm (sR st r)) (wc' := wM G qm (sR st' r')) (c_X5_join (x := (x, sR st' r')) e2) gL_law_X5_join rfl ⟨rfl, rfl⟩ hdX5_join ⟨(Nat.le_of_ble_eq_true rfl), (Nat.le_of_ble_eq_true rfl)⟩ rfl hP hD hS rfl rfl pm_mid pm_mid' hl.1 (Nat.le_of_ble_eq_true rfl) hc2 rfl dL_law_1052 (fun H locs hP hS => ?_)
  have hD : va_D A (wLW G oa f qm (sR st' r') (wZ G q da qc qh qt qn qs qo V' sr' ta sc' sh tb sn ss so)) := dd_LW hD
  refine lv_icmp_eq (tgt := 1126) hx hb dL_law_1055 (by decide) (fun _ => ?_) (fun c9 => absurd rfl c9)
  exact W.widen (by omega) (by omega) (K H locs ls ⟨f, V', sr', ta, sc', sh, tb, sn, ss, so, st', r', hR', hP, hD, hS⟩ hl)
set_option maxHeartbeats 400000 in
set_option maxRecDepth 100000 in
theorem law_undo (C0 : LC p l s m meth c G A b L k kc ks xs x00) (hLP : LWP G A s q da qc qh qt qn qs qo qm oa H locs) (hl : lv_has ls 7 (lvL b q qm oa k)) (K : KL p l e s m below meth c Q G A b k kc ks q da qc qh qt qn qs qo qm oa) : W p l e room_1 s m #[Value.ref b] below meth c H locs kc ks Q (F0 m 1060 ls []) := by
  obtain ⟨C, hX, hbl, hbA, hk, hL, hkc, hks, h00, hfl⟩ := C0
  obtain ⟨f, V, sr, ta, sc, sh, tb, sn, ss, so, st, r, hR, hP, hD, hS⟩ := hLP
  have hx := C.1
  have hb := C.2.1
  have hc1 : kc ≤ room_1.cells ∧ ks ≤ room_1.slots := ⟨(show kc ≤ 601024 by omega), (show ks ≤ 7293033 by omega)⟩
  have hc2 : kc + 11 ≤ room_1.cells ∧ ks + 1661 ≤ room_1.slots := ⟨(show kc + 11 ≤ 601024 by omega), (show ks + 1661 ≤ 7293033 by omega)⟩
  have hin1 : vp_in (nI (6 * k) + 1) L := by rw [nI_1]; exact vp_in_nI (by omega) (by omega)
  have hin2 : vp_in (nI (6 * k) + 2) L := by rw [show nI (6 * k) + 2 = nI (6 * k + 2) from nI_add _ 2]; exact vp_in_nI (by omega) (by omega)
  have hin3 : vp_in (nI (6 * k) + 3) L := by rw [show nI (6 * k) + 3 = nI (6 * k + 3) from nI_add _ 3]; exact vp_in_nI (by omega) (by omega)
  have hin4 : vp_in (nI (6 * k) + 4) L := by rw [show nI (6 * k) + 4 = nI (6 * k + 4) from nI_add _ 4]; exact vp_in_nI (by omega) (by omega)
  have hin5 : vp_in (nI (6 * k) + 5) L := by rw [show nI (6 * k) + 5 = nI (6 * k + 5) from nI_add _ 5]; exact vp_in_nI (by omega) (by omega)
  rcases L_undo hR with ⟨h11, e2⟩ | ⟨f9, k9, q9, s9, x9, st', r', u1, u2, u3, u4, u5, u6, e2, hR'⟩
  · skip
    refine lv_aload_n hx hb dL_law_1060 rfl (lv_at hl 1 rfl) ?_
    refine q_Vi C (rc := (RX4, TX4, 12)) (q0 := 25) (ci := 4) (ws' := wLW G oa f qm (sR st r) (wZ G q da qc qh qt qn qs qo V sr ta sc sh tb sn ss so)) (wr := wL G oa 1 f ++ wM G qm (sR st r)) (wc := wZ G q da qc qh qt qn qs qo V sr ta sc sh tb sn ss so) (wc' := wZ G q da qc qh qt qn qs qo V sr ta sc sh tb sn ss so) (c_X4_undo0 h11) gL_law_X4_undo rfl ⟨rfl, rfl⟩ hdX4_undo ⟨(Nat.le_of_ble_eq_true rfl), (Nat.le_of_ble_eq_true rfl)⟩ rfl hP hD hS rfl rfl pm_abc pm_abc2 hl.1 (Nat.le_of_ble_eq_true rfl) hc1 rfl dL_law_1061 (fun H locs hP hS => ?_)
    have hD : va_D A (wLW G oa f qm (sR st r) (wZ G q da qc qh qt qn qs qo V sr ta sc sh tb sn ss so)) := dd_LW hD
    refine lv_aload_n hx hb dL_law_1064 rfl (lv_at hl 2 rfl) ?_
    refine q_Vi C (rc := (RX5, TX5, 42)) (q0 := 1) (ci := 5) (ws' := wLW G oa f qm (sR (sI st 0 0) r) (wZ G q da qc qh qt qn qs qo V sr ta sc sh tb sn ss so)) (wr := wL G oa 1 f ++ wZ G q da qc qh qt qn qs qo V sr ta sc sh tb sn ss so) (wc := wM G qm (sR st r)) (wc' := wM G qm (sR (sI st 0 0) r)) (c_X5_undo (x := ((-1), sR (sI st 0 0) r)) e2) gL_law_X5_undo rfl ⟨rfl, rfl⟩ hdX5_undo ⟨(Nat.le_of_ble_eq_true rfl), (Nat.le_of_ble_eq_true rfl)⟩ rfl hP hD hS rfl rfl pm_mid pm_mid' hl.1 (Nat.le_of_ble_eq_true rfl) hc1 rfl dL_law_1065 (fun H locs hP hS => ?_)
    have hD : va_D A (wLW G oa f qm (sR (sI st 0 0) r) (wZ G q da qc qh qt qn qs qo V sr ta sc sh tb sn ss so)) := dd_LW hD
    refine lv_icmp_eq (tgt := 1126) hx hb dL_law_1068 (by decide) (fun _ => ?_) (fun c9 => absurd rfl c9)
    exact W.widen (by omega) (by omega) (K H locs ls ⟨f, V, sr, ta, sc, sh, tb, sn, ss, so, sI st 0 0, r, hR.same (KP.i0 st), hP, hD, hS⟩ hl)
  · skip
    refine lv_aload_n hx hb dL_law_1060 rfl (lv_at hl 1 rfl) ?_
    refine q_Vi C (rc := (RX4, TX4, 12)) (q0 := 25) (ci := 4) (ws' := wLW G oa f qm (sR st r) (wZ G q da qc qh qt qn qs qo V (sI sr 11 (nI k9)) ta x9 sh tb sn ss so)) (wr := wL G oa 1 f ++ wM G qm (sR st r)) (wc := wZ G q da qc qh qt qn qs qo V sr ta sc sh tb sn ss so) (wc' := wZ G q da qc qh qt qn qs qo V (sI sr 11 (nI k9)) ta x9 sh tb sn ss so) (c_X4_undo1 u1 u2 u3 u4 u5 u6) gL_law_X4_undo rfl ⟨rfl, rfl⟩ hdX4_undo ⟨(Nat.le_of_ble_eq_true rfl), (Nat.le_of_ble_eq_true rfl)⟩ rfl hP hD hS rfl rfl pm_abc pm_abc2 hl.1 (Nat.le_of_ble_eq_true rfl) hc1 rfl dL_law_1061 (fun H locs hP hS => ?_)
    have hD : va_D A (wLW G oa f qm (sR st r) (wZ G q da qc qh qt qn qs qo V (sI sr 11 (nI k9)) ta x9 sh tb sn ss so)) := dd_LW hD
    refine lv_aload_n hx hb dL_law_1064 rfl (lv_at hl 2 rfl) ?_
    refine q_Vi C (rc := (RX5, TX5, 42)) (q0 := 1) (ci := 5) (ws' := wLW G oa f qm (sR st' r') (wZ G q da qc qh qt qn qs qo V (sI sr 11 (nI k9)) ta x9 sh tb sn ss so)) (wr := wL G oa 1 f ++ wZ G q da qc qh qt qn qs qo V (sI sr 11 (nI k9)) ta x9 sh tb sn ss so) (wc := wM G qm (sR st r)) (wc' := wM G qm (sR st' r')) (c_X5_undo (x := ((nI k9), sR st' r')) e2) gL_law_X5_undo rfl ⟨rfl, rfl⟩ hdX5_undo ⟨(Nat.le_of_ble_eq_true rfl), (Nat.le_of_ble_eq_true rfl)⟩ rfl hP hD hS rfl rfl pm_mid pm_mid' hl.1 (Nat.le_of_ble_eq_true rfl) hc1 rfl dL_law_1065 (fun H locs hP hS => ?_)
    have hD : va_D A (wLW G oa f qm (sR st' r') (wZ G q da qc qh qt qn qs qo V (sI sr 11 (nI k9)) ta x9 sh tb sn ss so)) := dd_LW hD
    refine lv_icmp_eq (tgt := 1126) hx hb dL_law_1068 (by decide) (fun _ => ?_) (fun c9 => absurd rfl c9)
    exact W.widen (by omega) (by omega) (K H locs ls ⟨f, V, (sI sr 11 (nI k9)), ta, x9, sh, tb, sn, ss, so, st', r', hR', hP, hD, hS⟩ hl)
end LAW
