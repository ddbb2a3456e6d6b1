/-! images laid, laid back -/
theorem wdX4_image_m15 : (Cond.methodLink RX4 15 yX0_init) ∈ wsX4_image := List.mem_of_getElem? (i := 51) rfl
theorem wdX4_image_i15 : (Cond.instanceMethod yX0_init) ∈ wsX4_image := List.mem_of_getElem? (i := 52) rfl
set_option maxHeartbeats 4000000 in
set_option maxRecDepth 100000 in
theorem c_X4_image0 {l : Launch} {G : Gx} {q : Nat → Nat} {da : Nat} {qc qh qt qn qs qo : Nat → Nat} {V : VS} {sr : OSt} {ta : Nat → Int32} {sc sh : NSt} {tb : Nat × OSt} {sn : NSt} {ss so : OSt} {a1 a2 : Int32} (h : a1 < 0 ∨ 2 ≤ a1) : QG l G yX4_image wsX4_image rmX4_image 11 1661 [.ref (q 12), .int a1, .int a2] (wZ G q da qc qh qt qn qs qo V sr ta sc sh tb sn ss so) (fun r w' => r = some (.int 0) ∧ w' = wZ G q da qc qh qt qn qs qo V sr ta sc sh tb sn ss so) := by
  refine QG.of (cc := cX4_image) (maxL := 3) (ret := (some .boolean)) (by decide) rfl (Nat.le_of_ble_eq_true rfl) ?_
  intro p e s m below meth c A ls hmn C hD hP hS hl
  have hx := C.1
  have hb := C.2.1
  have hl : lv_has ls 3 [(0, .ref (q 12)), (1, .int a1), (2, .int a2)] := hl
  refine lv_iload_n hx hb dX4_image_0 rfl (lv_at hl 1 rfl) ?_
  refine lv_if_lt (tgt := 9) hx hb dX4_image_1 (by decide) (fun c1 => ?_) (fun c1 => ?_)
  · refine lv_iconst (v := 0) hx hb dX4_image_9 (by decide) ?_
    exact q_Gi C ⟨rfl, rfl⟩ hP hD hS (Nat.le_of_ble_eq_true rfl) (Nat.le_of_ble_eq_true rfl) rfl (gb_nar (Or.inl rfl)) dX4_image_10
  · refine lv_iload_n hx hb dX4_image_4 rfl (lv_at hl 1 rfl) ?_
    refine lv_iconst (v := 2) hx hb dX4_image_5 (by decide) ?_
    refine lv_icmp_lt (tgt := 11) hx hb dX4_image_6 (by decide) (fun c2 => ?_) (fun c2 => ?_)
    · exfalso
      rcases h with h | h
      · exact c1 h
      · obtain ⟨j, hj, rfl⟩ := ge_j c1
        rw [i2, n_lt hj (by omega)] at c2
        rw [i2, n_le (by omega) hj] at h
        omega
    · refine lv_iconst (v := 0) hx hb dX4_image_9 (by decide) ?_
      exact q_Gi C ⟨rfl, rfl⟩ hP hD hS (Nat.le_of_ble_eq_true rfl) (Nat.le_of_ble_eq_true rfl) rfl (gb_nar (Or.inl rfl)) dX4_image_10
set_option maxHeartbeats 4000000 in
set_option maxRecDepth 100000 in
theorem c_X4_imageB0 {l : Launch} {G : Gx} {q : Nat → Nat} {da : Nat} {qc qh qt qn qs qo : Nat → Nat} {V : VS} {sr : OSt} {ta : Nat → Int32} {sc sh : NSt} {tb : Nat × OSt} {sn : NSt} {ss so : OSt} {j : Nat} {a2 : Int32} (j2 : j < 2) (h2 : ¬ a2 = 0) (h : iA V sr (nI j) = none) : QG l G yX4_image wsX4_image rmX4_image 11 1661 [.ref (q 12), .int (nI j), .int a2] (wZ G q da qc qh qt qn qs qo V sr ta sc sh tb sn ss so) (fun r w' => r = some (.int 0) ∧ w' = wZ G q da qc qh qt qn qs qo V sr ta sc sh tb sn ss so) := by
  refine QG.of (cc := cX4_image) (maxL := 3) (ret := (some .boolean)) (by decide) rfl (Nat.le_of_ble_eq_true rfl) ?_
  intro p e s m below meth c A ls hmn C hD hP hS hl
  have hx := C.1
  have hb := C.2.1
  have hl : lv_has ls 3 [(0, .ref (q 12)), (1, .int (nI j)), (2, .int a2)] := hl
  refine lv_iload_n hx hb dX4_image_0 rfl (lv_at hl 1 rfl) ?_
  refine lv_if_lt (tgt := 9) hx hb dX4_image_1 (by decide) (fun c1 => absurd c1 (nI_pos (by omega))) (fun c1 => ?_)
  refine lv_iload_n hx hb dX4_image_4 rfl (lv_at hl 1 rfl) ?_
  refine lv_iconst (v := 2) hx hb dX4_image_5 (by decide) ?_
  refine lv_icmp_lt (tgt := 11) hx hb dX4_image_6 (by decide) (fun c2 => ?_) (fun c2 => absurd (show nI j < (2 : Int32) from nI_lt (b := 2) j2 (by omega)) c2)
  refine lv_iload_n hx hb dX4_image_11 rfl (lv_at hl 2 rfl) ?_
  refine lv_if_eq (tgt := 21) hx hb dX4_image_12 (by decide) (fun c3 => absurd c3 h2) (fun c3 => ?_)
  refine lv_aload_n hx hb dX4_image_15 rfl (lv_at hl 0 rfl) ?_
  refine lv_iload_n hx hb dX4_image_16 rfl (lv_at hl 1 rfl) ?_
  refine q_Vi C (rc := (RX4, TX4, 12)) (q0 := 0) (ci := 4) (ws' := wZ G q da qc qh qt qn qs qo V sr ta sc sh tb sn ss so) (wr := []) (c_X4_layBack0 (V := V) (q := q) h) gX4_image_X4_layBack rfl ⟨rfl, rfl⟩ hdX4_layBack ⟨(Nat.le_of_ble_eq_true rfl), (Nat.le_of_ble_eq_true rfl)⟩ rfl hP hD hS rfl rfl (List.Perm.refl _) (List.Perm.refl _) hl.1 (Nat.le_of_ble_eq_true rfl) ⟨Nat.zero_le _, Nat.zero_le _⟩ rfl dX4_image_17 (fun H locs hP hS => ?_)
  have hD : va_D A (wZ G q da qc qh qt qn qs qo V sr ta sc sh tb sn ss so) := hD.ad rfl
  exact q_Gi C ⟨rfl, rfl⟩ hP hD hS (Nat.le_of_ble_eq_true rfl) (Nat.le_of_ble_eq_true rfl) rfl (gb_nar (Or.inl rfl)) dX4_image_20
set_option maxHeartbeats 4000000 in
set_option maxRecDepth 100000 in
theorem c_X4_imageB1 {l : Launch} {G : Gx} {q : Nat → Nat} {da : Nat} {qc qh qt qn qs qo : Nat → Nat} {V : VS} {sr : OSt} {ta : Nat → Int32} {sc sh : NSt} {tb : Nat × OSt} {sn : NSt} {ss so : OSt} {j : Nat} {a2 : Int32} {i : Nat} {q' : Nat → Nat} {s' x : NSt} (j2 : j < 2) (h2 : ¬ a2 = 0) (hi : i < 14) (h : iA V sr (nI j) = some (q' 15)) (hv : V i = some (q', s')) (hbe : n_become sc s' = some x) : QG l G yX4_image wsX4_image rmX4_image 11 1661 [.ref (q 12), .int (nI j), .int a2] (wZ G q da qc qh qt qn qs qo V sr ta sc sh tb sn ss so) (fun r w' => r = some (.int 1) ∧ w' = wZ G q da qc qh qt qn qs qo V (sI (sI sr 10 0) 11 0) ta x sh tb sn ss so) := by
  refine QG.of (cc := cX4_image) (maxL := 3) (ret := (some .boolean)) (by decide) rfl (Nat.le_of_ble_eq_true rfl) ?_
  intro p e s m below meth c A ls hmn C hD hP hS hl
  have hx := C.1
  have hb := C.2.1
  have hl : lv_has ls 3 [(0, .ref (q 12)), (1, .int (nI j)), (2, .int a2)] := hl
  refine lv_iload_n hx hb dX4_image_0 rfl (lv_at hl 1 rfl) ?_
  refine lv_if_lt (tgt := 9) hx hb dX4_image_1 (by decide) (fun c1 => absurd c1 (nI_pos (by omega))) (fun c1 => ?_)
  refine lv_iload_n hx hb dX4_image_4 rfl (lv_at hl 1 rfl) ?_
  refine lv_iconst (v := 2) hx hb dX4_image_5 (by decide) ?_
  refine lv_icmp_lt (tgt := 11) hx hb dX4_image_6 (by decide) (fun c2 => ?_) (fun c2 => absurd (show nI j < (2 : Int32) from nI_lt (b := 2) j2 (by omega)) c2)
  refine lv_iload_n hx hb dX4_image_11 rfl (lv_at hl 2 rfl) ?_
  refine lv_if_eq (tgt := 21) hx hb dX4_image_12 (by decide) (fun c3 => absurd c3 h2) (fun c3 => ?_)
  refine lv_aload_n hx hb dX4_image_15 rfl (lv_at hl 0 rfl) ?_
  refine lv_iload_n hx hb dX4_image_16 rfl (lv_at hl 1 rfl) ?_
  refine q_Vi C (rc := (RX4, TX4, 12)) (q0 := 0) (ci := 4) (ws' := wZ G q da qc qh qt qn qs qo V (sI (sI sr 10 0) 11 0) ta x sh tb sn ss so) (wr := []) (c_X4_layBack1 (V := V) (q := q) hi h hv hbe) gX4_image_X4_layBack rfl ⟨rfl, rfl⟩ hdX4_layBack ⟨(Nat.le_of_ble_eq_true rfl), (Nat.le_of_ble_eq_true rfl)⟩ rfl hP hD hS rfl rfl (List.Perm.refl _) (List.Perm.refl _) hl.1 (Nat.le_of_ble_eq_true rfl) ⟨Nat.zero_le _, Nat.zero_le _⟩ rfl dX4_image_17 (fun H locs hP hS => ?_)
  have hD : va_D A (wZ G q da qc qh qt qn qs qo V (sI (sI sr 10 0) 11 0) ta x sh tb sn ss so) := hD.ad rfl
  exact q_Gi C ⟨rfl, rfl⟩ hP hD hS (Nat.le_of_ble_eq_true rfl) (Nat.le_of_ble_eq_true rfl) rfl (gb_nar (Or.inr rfl)) dX4_image_20
set_option maxHeartbeats 4000000 in
set_option maxRecDepth 100000 in
theorem t_X4_image_44 {p : Program} {l : Launch} {e : Env} {s : State} {m : MethodId} {args : Array Value} {below : List Frame} {meth : Method} {c : Code} {A : Nat → Prop} {G : Gx} {q : Nat → Nat} {da : Nat} {qc qh qt qn qs qo : Nat → Nat} {V : VS} {sr : OSt} {ta : Nat → Int32} {sc sh : NSt} {tb : Nat × OSt} {sn : NSt} {ss so : OSt} {H : Heap} {locs : List Loc} {ls : Array Slot} {cells slots : Nat} {B : Option Value → va_W → Prop} (C : Cx p s m args meth c G cX4_image wsX4_image RX4 (some .boolean) 3 A) {j : Nat} (j2 : j < 2) {a2 : Int32} {q' : Nat → Nat} {s0 s' : NSt} (hbe : n_become s0 sc = some s') (hD : va_D A (wR G q da qc qh qt qs qo (va_up (imO V) j (some (q' 15))) (paO V) sr ++ (wN G q' s0 ++ (wN G qc sc ++ wX G da qh qt qn qs qo ta sh tb sn ss so (wV G (vup V j none) 14))))) (hP : va_P G.1 vwCl (wR G q da qc qh qt qs qo (va_up (imO V) j (some (q' 15))) (paO V) sr ++ (wN G q' s0 ++ (wN G qc sc ++ wX G da qh qt qn qs qo ta sh tb sn ss so (wV G (vup V j none) 14)))) H) (hS : va_S A s.heap H locs) (hl : lv_has ls 3 [(0, .ref (q 12)), (1, .int (nI j)), (2, .int a2)]) (hcl : cells ≤ 11) (hsl : slots ≤ 1661) (hB : B (some (.int 1)) (wZ G q da qc qh qt qn qs qo (vup V j (some (q', s'))) (sA sr 8 (upd (sr.2 8) j 1)) ta sc sh tb sn ss so)) : W p l e rmX4_image s m args below meth c H locs cells slots (MQ below (qG G A B) args s 11 1661 A) (F0 m 44 ls []) := by
  have hx := C.1
  have hb := C.2.1
  refine lv_aload_n hx hb dX4_image_44 rfl (lv_at hl 0 rfl) ?_
  refine q_get (q0 := 0) C hP rfl rfl hiX4_image_X4 7 (by decide) wdX4_image_1 rfl dX4_image_45 ?_
  refine lv_iload_n hx hb dX4_image_48 rfl (lv_at hl 1 rfl) ?_
  refine q_aldq C hP (q0 := 1) rfl (nc_ (by omega)) (vp_in_nI j2 (by omega)) (v := .ref (q' 15)) (by unfold va_up; rw [if_pos rfl]; rfl) dX4_image_49 ?_
  refine lv_aload_n hx hb dX4_image_50 rfl (lv_at hl 0 rfl) ?_
  refine q_get (q0 := 0) C hP rfl rfl hiX4_image_X4 2 (by decide) wdX4_image_5 rfl dX4_image_51 ?_
  refine q_Vv C (rc := (RX0, TX0, 15)) (q0 := 4) (ci := 0) (ws' := wR G q da qc qh qt qs qo (va_up (imO V) j (some (q' 15))) (paO V) sr ++ (wN G q' s' ++ (wN G qc sc ++ wX G da qh qt qn qs qo ta sh tb sn ss so (wV G (vup V j none) 14)))) (c_X0_become (qn := q') (qn2 := qc) hbe) gX4_image_X0_become rfl ⟨rfl, rfl⟩ hdX0_become ⟨(Nat.le_of_ble_eq_true rfl), (Nat.le_of_ble_eq_true rfl)⟩ rfl hP hD hS rfl rfl pm_bec pm_bec.symm hl.1 (Nat.le_of_ble_eq_true rfl) ⟨hcl, hsl⟩ rfl dX4_image_54 (fun H locs hP hS => ?_)
  have hD : va_D A (wR G q da qc qh qt qs qo (va_up (imO V) j (some (q' 15))) (paO V) sr ++ (wN G q' s' ++ (wN G qc sc ++ wX G da qh qt qn qs qo ta sh tb sn ss so (wV G (vup V j none) 14)))) := hD.ad rfl
  refine lv_aload_n hx hb dX4_image_57 rfl (lv_at hl 0 rfl) ?_
  refine q_get (q0 := 0) C hP rfl rfl hiX4_image_X4 8 (by decide) wdX4_image_6 rfl dX4_image_58 ?_
  refine lv_iload_n hx hb dX4_image_61 rfl (lv_at hl 1 rfl) ?_
  refine lv_iconst (v := 1) hx hb dX4_image_62 (by decide) ?_
  refine q_zast C hP hD hS (q0 := 2) rfl (nc_ (by omega)) rfl (vp_in_nI j2 (by omega)) dX4_image_63 (fun H locs hP hS => ?_)
  have hP : va_P G.1 vwCl (wR G q da qc qh qt qs qo (va_up (imO V) j (some (q' 15))) (paO V) (sA sr 8 (upd (sr.2 8) j 1)) ++ (wN G q' s' ++ (wN G qc sc ++ wX G da qh qt qn qs qo ta sh tb sn ss so (wV G (vup V j none) 14)))) H := by
    rw [nb1] at hP
    exact hP
  have hD : va_D A (wR G q da qc qh qt qs qo (va_up (imO V) j (some (q' 15))) (paO V) (sA sr 8 (upd (sr.2 8) j 1)) ++ (wN G q' s' ++ (wN G qc sc ++ wX G da qh qt qn qs qo ta sh tb sn ss so (wV G (vup V j none) 14)))) := hD.ad rfl
  refine lv_iconst (v := 1) hx hb dX4_image_64 (by decide) ?_
  have pp := wZ_out (G := G) (q := q) (da := da) (qc := qc) (qh := qh) (qt := qt) (qn := qn) (qs := qs) (qo := qo) (V := vup V j (some (q', s'))) (sr := sA sr 8 (upd (sr.2 8) j 1)) (ta := ta) (sc := sc) (sh := sh) (tb := tb) (sn := sn) (ss := ss) (so := so) (i := j) (q' := q') (s' := s') (by omega) vup_s
  rw [imO_vup2 V j2, paO_vup2 V j2, vup_vup] at pp
  exact q_Gi C hB (hP.perm pp.symm) (hD.perm pp.symm) hS hcl hsl rfl (gb_nar (Or.inr rfl)) dX4_image_65
set_option maxHeartbeats 4000000 in
set_option maxRecDepth 100000 in
theorem c_X4_imageS {l : Launch} {G : Gx} {q : Nat → Nat} {da : Nat} {qc qh qt qn qs qo : Nat → Nat} {V : VS} {sr : OSt} {ta : Nat → Int32} {sc sh : NSt} {tb : Nat × OSt} {sn : NSt} {ss so : OSt} {x00 : NSt} {j : Nat} {a2 : Int32} (j2 : j < 2) (h2 : a2 = 0) (h00 : n_clear (n0 0) 200 = some x00) (hbe : ∀ s0, ((∃ q, V j = some (q, s0)) ∨ (V j = none ∧ s0 = x00)) → ∃ s', n_become s0 sc = some s') : QG l G yX4_image wsX4_image rmX4_image 11 1661 [.ref (q 12), .int (nI j), .int a2] (wZ G q da qc qh qt qn qs qo V sr ta sc sh tb sn ss so) (fun r w' => r = some (.int 1) ∧ ∃ (q' : Nat → Nat) (s0 s' : NSt), (V j = some (q', s0) ∨ (V j = none ∧ s0 = x00)) ∧ n_become s0 sc = some s' ∧ w' = wZ G q da qc qh qt qn qs qo (vup V j (some (q', s'))) (sA sr 8 (upd (sr.2 8) j 1)) ta sc sh tb sn ss so) := by
  refine QG.of (cc := cX4_image) (maxL := 3) (ret := (some .boolean)) (by decide) rfl (Nat.le_of_ble_eq_true rfl) ?_
  intro p e s m below meth c A ls hmn C hD hP hS hl
  have hx := C.1
  have hb := C.2.1
  have hl : lv_has ls 3 [(0, .ref (q 12)), (1, .int (nI j)), (2, .int a2)] := hl
  refine lv_iload_n hx hb dX4_image_0 rfl (lv_at hl 1 rfl) ?_
  refine lv_if_lt (tgt := 9) hx hb dX4_image_1 (by decide) (fun c1 => absurd c1 (nI_pos (by omega))) (fun c1 => ?_)
  refine lv_iload_n hx hb dX4_image_4 rfl (lv_at hl 1 rfl) ?_
  refine lv_iconst (v := 2) hx hb dX4_image_5 (by decide) ?_
  refine lv_icmp_lt (tgt := 11) hx hb dX4_image_6 (by decide) (fun c2 => ?_) (fun c2 => absurd (show nI j < (2 : Int32) from nI_lt (b := 2) j2 (by omega)) c2)
  refine lv_iload_n hx hb dX4_image_11 rfl (lv_at hl 2 rfl) ?_
  refine lv_if_eq (tgt := 21) hx hb dX4_image_12 (by decide) (fun c3 => ?_) (fun c3 => absurd h2 c3)
  refine lv_aload_n hx hb dX4_image_21 rfl (lv_at hl 0 rfl) ?_
  refine q_get (q0 := 0) C hP rfl rfl hiX4_image_X4 7 (by decide) wdX4_image_1 rfl dX4_image_22 ?_
  refine lv_iload_n hx hb dX4_image_25 rfl (lv_at hl 1 rfl) ?_
  rcases hv : V j with _ | ⟨q', s0⟩
  · refine q_aldq C hP (q0 := 1) rfl (nc_ (by omega)) (vp_in_nI j2 (by omega)) (v := .null) (by rw [imO_at j2]; unfold vO; rw [hv]; rfl) dX4_image_26 ?_
    refine lv_ifnonnullN hx hb dX4_image_27 ?_
    refine lv_aload_n hx hb dX4_image_30 rfl (lv_at hl 0 rfl) ?_
    refine q_get (q0 := 0) C hP rfl rfl hiX4_image_X4 7 (by decide) wdX4_image_1 rfl dX4_image_31 ?_
    refine lv_iload_n hx hb dX4_image_34 rfl (lv_at hl 1 rfl) ?_
    refine q_new C (ci := 0) (fs := [.null, .null, .null, .null, .null, .null, .int 0, .int 0, .int 0, .int 0, .int 0, .int 0, .int 0, .int 0, .int 0]) hiX4_image_X0 tyX0_ok wdX4_image_2 wdX4_image_3 wdX4_image_4 hP hD hS rfl hfs_X0 (Nat.le_of_ble_eq_true rfl) (Nat.le_of_ble_eq_true rfl) dX4_image_35 (fun b1 H hP hD hS => ?_)
    refine lv_dup hx hb dX4_image_38 rfl ?_
    refine lv_iconst (v := 0) hx hb dX4_image_39 (by decide) ?_
    refine q_I C (wr := wZ G q da qc qh qt qn qs qo V sr ta sc sh tb sn ss so) (wc := [(b1, .inr (0, [.null, .null, .null, .null, .null, .null, .int 0, .int 0, .int 0, .int 0, .int 0, .int 0, .int 0, .int 0, .int 0]))]) (c_X0_init0 h00) gX4_image_X0_init rfl ⟨rfl, rfl⟩ wdX4_image_4 wdX4_image_m15 wdX4_image_i15 rfl hdcX0_init ⟨(Nat.le_of_ble_eq_true rfl), (Nat.le_of_ble_eq_true rfl)⟩ rfl hP hD hS (List.Perm.refl _) hl.1 (Nat.le_of_ble_eq_true rfl) ⟨(Nat.le_of_ble_eq_true rfl), (Nat.le_of_ble_eq_true rfl)⟩ rfl dX4_image_40 (fun r w' H locs hBB hP hD hS => ?_)
    obtain ⟨rfl, q', rfl, rfl⟩ := hBB
    have hP := hP.perm wZ_new
    have hD := hD.perm wZ_new
    have ev : vup V j none = V := vup_id hv
    refine q_astq C hP hD hS (q0 := 1) (qk := 4) (ws' := wR G q da qc qh qt qs qo (va_up (imO V) j (some (q' 15))) (paO V) sr ++ (wN G q' x00 ++ (wN G qc sc ++ wX G da qh qt qn qs qo ta sh tb sn ss so (wV G V 14)))) rfl rfl (nc_ (by omega)) (vp_in_nI j2 (by omega)) rfl dX4_image_43 (fun H locs hP hD hS => ?_)
    obtain ⟨s', hs'⟩ := hbe x00 (Or.inr ⟨hv, rfl⟩)
    exact t_X4_image_44 (V := V) (q' := q') (s0 := x00) C j2 hs' (by rw [ev]; exact hD) (by rw [ev]; exact hP) hS hl (Nat.le_of_ble_eq_true rfl) (Nat.le_of_ble_eq_true rfl) ⟨rfl, q', x00, s', Or.inr ⟨rfl, rfl⟩, hs', rfl⟩
  · have e0 : imO V j = some (q' 15) := by rw [imO_at j2]; unfold vO; rw [hv]; rfl
    refine q_aldq C hP (q0 := 1) rfl (nc_ (by omega)) (vp_in_nI j2 (by omega)) (v := .ref (q' 15)) (by rw [e0]; rfl) dX4_image_26 ?_
    refine lv_ifnonnull (tgt := 44) hx hb dX4_image_27 (by decide) ?_
    obtain ⟨s', hs'⟩ := hbe s0 (Or.inl ⟨q', hv⟩)
    have hP := hP.perm (wZ_out (i := j) (by omega) hv)
    have hD := hD.perm (wZ_out (i := j) (by omega) hv)
    rw [← va_up_id e0] at hP hD
    exact t_X4_image_44 C j2 hs' hD hP hS hl (Nat.le_of_ble_eq_true rfl) (Nat.le_of_ble_eq_true rfl) ⟨rfl, q', s0, s', Or.inl rfl, hs', rfl⟩
