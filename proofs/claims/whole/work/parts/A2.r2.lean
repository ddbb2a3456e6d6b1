/-! methods that remember the state first -/
-- X4_run
theorem hiX4_run_X4 : ∀ w ∈ u_ws RX4 TX4 12, w ∈ wsX4_run := mem_run (i := 192) (by decide +kernel)
theorem wdX4_run_1 : (Cond.fieldLink RX4 18 "CombinatorRing" "current" "LCombinatorRing$Net;") ∈ wsX4_run := List.mem_of_getElem? (i := 1) rfl
def r_run (sc : NSt) (a1 : Int32) (a2 : Int32) (a3 : Int32) : Option (Int32 × Int32 × NSt) := bd (r_isOrder a1) fun x1 => if x1 = 0 then some (0, (-1), sc) else bd (r_isStepLimit a2) fun x3 => if x3 = 0 then some (0, (-1), sc) else bd (n_goOn sc a1 a2 a3) fun x5 => some (1, x5.1, x5.2)
abbrev rmX4_run : Room := { frames := 6, cells := 11, slots := 1661, locals := 146 }
theorem hdX4_run : yX4_run.cls = RX4 ∧ yX4_run.cls ≠ "java/lang/invoke/MethodHandle" ∧ yX4_run.cls ≠ "java/lang/invoke/VarHandle" ∧ (parseMethodDescriptor yX4_run.desc).map (fun d => d.parameters.length) = some 3 := by decide +kernel
set_option maxHeartbeats 4000000 in
set_option maxRecDepth 100000 in
theorem c_X4_run {l : Launch} {G : Gx} {q : Nat → Nat} {da : Nat} {qc qh qt qn qs qo : Nat → Nat} {V : VS} {x00 : NSt} {sr : OSt} {ta : (Nat → Int32)} {sc : NSt} {sh : NSt} {tb : (Nat × OSt)} {sn : NSt} {ss : OSt} {so : OSt} {a1 : Int32} {a2 : Int32} {a3 : Int32} {x : Int32 × Int32 × NSt} (hr : RH x00 V sr sc) (hf : r_run sc a1 a2 a3 = some x) : QG l G yX4_run wsX4_run rmX4_run 11 1661 [.ref (q 12), .int a1, .int a2, .int a3] (wR G q da qc qh qt qs qo (imO V) (paO V) sr ++ (wA G da 500 ta ++ (wN G qc sc ++ (wN G qh sh ++ (wT G qt tb.1 (qn 15) tb.2 ++ (wN G qn sn ++ (wS G qs ss ++ (wS G qo so ++ wV G V 14)))))))) (fun r w' => r = some (.int x.2.1) ∧ ∃ V' sr', ((x.1 = 0 ∧ V' = V ∧ sr' = sr) ∨ (x.1 = 1 ∧ REM x00 V sr sc V' sr')) ∧ w' = wR G q da qc qh qt qs qo (imO V') (paO V') sr' ++ (wA G da 500 ta ++ (wN G qc x.2.2 ++ (wN G qh sh ++ (wT G qt tb.1 (qn 15) tb.2 ++ (wN G qn sn ++ (wS G qs ss ++ (wS G qo so ++ wV G V' 14)))))))) := by
  refine QG.of (cc := cX4_run) (maxL := 4) (ret := (some .int)) (by decide) rfl (Nat.le_of_ble_eq_true rfl) ?_
  intro p e s m below meth c A ls hmn C hD hP hS hl
  have hx := C.1
  have hb := C.2.1
  have hl : lv_has ls 4 [(0, .ref (q 12)), (1, .int a1), (2, .int a2), (3, .int a3)] := hl
  unfold r_run at hf
  refine lv_iload_n hx hb dX4_run_0 rfl (lv_at hl 1 rfl) ?_
  obtain ⟨x1, hx1, hf⟩ := bd_some hf
  refine q_Si C (ws' := wR G q da qc qh qt qs qo (imO V) (paO V) sr ++ (wA G da 500 ta ++ (wN G qc sc ++ (wN G qh sh ++ (wT G qt tb.1 (qn 15) tb.2 ++ (wN G qn sn ++ (wS G qs ss ++ (wS G qo so ++ wV G V 14)))))))) (wr := []) (c_X4_isOrder (w := wR G q da qc qh qt qs qo (imO V) (paO V) sr ++ (wA G da 500 ta ++ (wN G qc sc ++ (wN G qh sh ++ (wT G qt tb.1 (qn 15) tb.2 ++ (wN G qn sn ++ (wS G qs ss ++ (wS G qo so ++ wV G V 14)))))))) hx1) gX4_run_X4_isOrder rfl ⟨rfl, rfl⟩ hdX4_isOrder ⟨(Nat.le_of_ble_eq_true rfl), (Nat.le_of_ble_eq_true rfl)⟩ rfl hP (dd_R hD) hS (List.Perm.refl _) (List.Perm.refl _) hl.1 (Nat.le_of_ble_eq_true rfl) ⟨(Nat.le_of_ble_eq_true rfl), (Nat.le_of_ble_eq_true rfl)⟩ rfl dX4_run_1 (fun H locs hP hS => ?_)
  refine lv_if_eq (tgt := 14) hx hb dX4_run_4 (by decide) (fun c2 => ?_) (fun c2 => ?_)
  · have hf := if_t c2 hf
    refine lv_iconst (v := (-1)) hx hb dX4_run_14 (by decide) ?_
    obtain rfl := Option.some.inj hf
    exact q_Gi C ⟨rfl, _, _, Or.inl ⟨rfl, rfl, rfl⟩, rfl⟩ hP (dd_R hD) hS (Nat.le_of_ble_eq_true rfl) (Nat.le_of_ble_eq_true rfl) rfl rfl dX4_run_15
  · have hf := if_f c2 hf
    refine lv_iload_n hx hb dX4_run_7 rfl (lv_at hl 2 rfl) ?_
    obtain ⟨x3, hx3, hf⟩ := bd_some hf
    refine q_Si C (ws' := wR G q da qc qh qt qs qo (imO V) (paO V) sr ++ (wA G da 500 ta ++ (wN G qc sc ++ (wN G qh sh ++ (wT G qt tb.1 (qn 15) tb.2 ++ (wN G qn sn ++ (wS G qs ss ++ (wS G qo so ++ wV G V 14)))))))) (wr := []) (c_X4_isStepLimit (w := wR G q da qc qh qt qs qo (imO V) (paO V) sr ++ (wA G da 500 ta ++ (wN G qc sc ++ (wN G qh sh ++ (wT G qt tb.1 (qn 15) tb.2 ++ (wN G qn sn ++ (wS G qs ss ++ (wS G qo so ++ wV G V 14)))))))) hx3) gX4_run_X4_isStepLimit rfl ⟨rfl, rfl⟩ hdX4_isStepLimit ⟨(Nat.le_of_ble_eq_true rfl), (Nat.le_of_ble_eq_true rfl)⟩ rfl hP (dd_R hD) hS (List.Perm.refl _) (List.Perm.refl _) hl.1 (Nat.le_of_ble_eq_true rfl) ⟨(Nat.le_of_ble_eq_true rfl), (Nat.le_of_ble_eq_true rfl)⟩ rfl dX4_run_8 (fun H locs hP hS => ?_)
    refine lv_if_ne (tgt := 16) hx hb dX4_run_11 (by decide) (fun c4 => ?_) (fun c4 => ?_)
    · have hf := if_f c4 hf
      refine lv_aload_n hx hb dX4_run_16 rfl (lv_at hl 0 rfl) ?_
      refine q_VG C (rc := (RX4, TX4, 12)) (q0 := 0) (ci := 4) (wr := []) (c_X4_remember (q := q) (da := da) (qc := qc) (qh := qh) (qt := qt) (qn := qn) (qs := qs) (qo := qo) (ta := ta) (sh := sh) (tb := tb) (sn := sn) (ss := ss) (so := so) hr) gX4_run_X4_remember rfl ⟨rfl, rfl⟩ hdX4_remember ⟨(Nat.le_of_ble_eq_true rfl), (Nat.le_of_ble_eq_true rfl)⟩ rfl hP (dd_R hD) hS rfl rfl (List.Perm.refl _) hl.1 (Nat.le_of_ble_eq_true rfl) ⟨(Nat.le_of_ble_eq_true rfl), (Nat.le_of_ble_eq_true rfl)⟩ rfl dX4_run_17 (fun r9 w9 H locs hBB hP hD hS => ?_)
      obtain ⟨rfl, V1, sr1, hrm, rfl⟩ := hBB
      have hP : va_P G.1 vwCl (wR G q da qc qh qt qs qo (imO V1) (paO V1) sr1 ++ (wA G da 500 ta ++ (wN G qc sc ++ (wN G qh sh ++ (wT G qt tb.1 (qn 15) tb.2 ++ (wN G qn sn ++ (wS G qs ss ++ (wS G qo so ++ wV G V1 14)))))))) H := hP
      have hD : va_D A (wR G q da qc qh qt qs qo (imO V1) (paO V1) sr1 ++ (wA G da 500 ta ++ (wN G qc sc ++ (wN G qh sh ++ (wT G qt tb.1 (qn 15) tb.2 ++ (wN G qn sn ++ (wS G qs ss ++ (wS G qo so ++ wV G V1 14)))))))) := hD
      refine lv_aload_n hx hb dX4_run_20 rfl (lv_at hl 0 rfl) ?_
      refine q_get (q0 := 0) C hP rfl rfl hiX4_run_X4 2 (by decide) wdX4_run_1 rfl dX4_run_21 ?_
      refine lv_iload_n hx hb dX4_run_24 rfl (lv_at hl 1 rfl) ?_
      refine lv_iload_n hx hb dX4_run_25 rfl (lv_at hl 2 rfl) ?_
      refine lv_iload_n hx hb dX4_run_26 rfl (lv_at hl 3 rfl) ?_
      obtain ⟨x5, hx5, hf⟩ := bd_some hf
      refine q_Vi C (rc := (RX0, TX0, 15)) (q0 := 5) (ci := 0) (ws' := wR G q da qc qh qt qs qo (imO V1) (paO V1) sr1 ++ (wA G da 500 ta ++ (wN G qc x5.2 ++ (wN G qh sh ++ (wT G qt tb.1 (qn 15) tb.2 ++ (wN G qn sn ++ (wS G qs ss ++ (wS G qo so ++ wV G V1 14)))))))) (c_X0_goOn (qn := qc) hx5) gX4_run_X0_goOn rfl ⟨rfl, rfl⟩ hdX0_goOn ⟨(Nat.le_of_ble_eq_true rfl), (Nat.le_of_ble_eq_true rfl)⟩ rfl hP (dd_R hD) hS rfl rfl pr_2 pr_2.symm hl.1 (Nat.le_of_ble_eq_true rfl) ⟨(Nat.le_of_ble_eq_true rfl), (Nat.le_of_ble_eq_true rfl)⟩ rfl dX4_run_27 (fun H locs hP hS => ?_)
      obtain rfl := Option.some.inj hf
      exact q_Gi C ⟨rfl, _, _, Or.inr ⟨rfl, hrm⟩, rfl⟩ hP (dd_R hD) hS (Nat.le_of_ble_eq_true rfl) (Nat.le_of_ble_eq_true rfl) rfl rfl dX4_run_30
    · have hf := if_t c4 hf
      refine lv_iconst (v := (-1)) hx hb dX4_run_14 (by decide) ?_
      obtain rfl := Option.some.inj hf
      exact q_Gi C ⟨rfl, _, _, Or.inl ⟨rfl, rfl, rfl⟩, rfl⟩ hP (dd_R hD) hS (Nat.le_of_ble_eq_true rfl) (Nat.le_of_ble_eq_true rfl) rfl rfl dX4_run_15

-- X4_round
theorem hiX4_round_X4 : ∀ w ∈ u_ws RX4 TX4 12, w ∈ wsX4_round := mem_run (i := 185) (by decide +kernel)
theorem wdX4_round_1 : (Cond.fieldLink RX4 18 "CombinatorRing" "current" "LCombinatorRing$Net;") ∈ wsX4_round := List.mem_of_getElem? (i := 1) rfl
def r_round (sc : NSt)  : Option (Int32 × Int32 × NSt) := bd (n_goRound sc) fun x1 => some (1, x1.1, x1.2)
abbrev rmX4_round : Room := { frames := 6, cells := 11, slots := 1661, locals := 143 }
theorem hdX4_round : yX4_round.cls = RX4 ∧ yX4_round.cls ≠ "java/lang/invoke/MethodHandle" ∧ yX4_round.cls ≠ "java/lang/invoke/VarHandle" ∧ (parseMethodDescriptor yX4_round.desc).map (fun d => d.parameters.length) = some 0 := by decide +kernel
set_option maxHeartbeats 4000000 in
set_option maxRecDepth 100000 in
theorem c_X4_round {l : Launch} {G : Gx} {q : Nat → Nat} {da : Nat} {qc qh qt qn qs qo : Nat → Nat} {V : VS} {x00 : NSt} {sr : OSt} {ta : (Nat → Int32)} {sc : NSt} {sh : NSt} {tb : (Nat × OSt)} {sn : NSt} {ss : OSt} {so : OSt}  {x : Int32 × Int32 × NSt} (hr : RH x00 V sr sc) (hf : r_round sc = some x) : QG l G yX4_round wsX4_round rmX4_round 11 1661 [.ref (q 12)] (wR G q da qc qh qt qs qo (imO V) (paO V) sr ++ (wA G da 500 ta ++ (wN G qc sc ++ (wN G qh sh ++ (wT G qt tb.1 (qn 15) tb.2 ++ (wN G qn sn ++ (wS G qs ss ++ (wS G qo so ++ wV G V 14)))))))) (fun r w' => r = some (.int x.2.1) ∧ ∃ V' sr', ((x.1 = 0 ∧ V' = V ∧ sr' = sr) ∨ (x.1 = 1 ∧ REM x00 V sr sc V' sr')) ∧ w' = wR G q da qc qh qt qs qo (imO V') (paO V') sr' ++ (wA G da 500 ta ++ (wN G qc x.2.2 ++ (wN G qh sh ++ (wT G qt tb.1 (qn 15) tb.2 ++ (wN G qn sn ++ (wS G qs ss ++ (wS G qo so ++ wV G V' 14)))))))) := by
  refine QG.of (cc := cX4_round) (maxL := 1) (ret := (some .int)) (by decide) rfl (Nat.le_of_ble_eq_true rfl) ?_
  intro p e s m below meth c A ls hmn C hD hP hS hl
  have hx := C.1
  have hb := C.2.1
  have hl : lv_has ls 1 [(0, .ref (q 12))] := hl
  unfold r_round at hf
  refine lv_aload_n hx hb dX4_round_0 rfl (lv_at hl 0 rfl) ?_
  refine q_VG C (rc := (RX4, TX4, 12)) (q0 := 0) (ci := 4) (wr := []) (c_X4_remember (q := q) (da := da) (qc := qc) (qh := qh) (qt := qt) (qn := qn) (qs := qs) (qo := qo) (ta := ta) (sh := sh) (tb := tb) (sn := sn) (ss := ss) (so := so) hr) gX4_round_X4_remember rfl ⟨rfl, rfl⟩ hdX4_remember ⟨(Nat.le_of_ble_eq_true rfl), (Nat.le_of_ble_eq_true rfl)⟩ rfl hP (dd_R hD) hS rfl rfl (List.Perm.refl _) hl.1 (Nat.le_of_ble_eq_true rfl) ⟨(Nat.le_of_ble_eq_true rfl), (Nat.le_of_ble_eq_true rfl)⟩ rfl dX4_round_1 (fun r9 w9 H locs hBB hP hD hS => ?_)
  obtain ⟨rfl, V1, sr1, hrm, rfl⟩ := hBB
  have hP : va_P G.1 vwCl (wR G q da qc qh qt qs qo (imO V1) (paO V1) sr1 ++ (wA G da 500 ta ++ (wN G qc sc ++ (wN G qh sh ++ (wT G qt tb.1 (qn 15) tb.2 ++ (wN G qn sn ++ (wS G qs ss ++ (wS G qo so ++ wV G V1 14)))))))) H := hP
  have hD : va_D A (wR G q da qc qh qt qs qo (imO V1) (paO V1) sr1 ++ (wA G da 500 ta ++ (wN G qc sc ++ (wN G qh sh ++ (wT G qt tb.1 (qn 15) tb.2 ++ (wN G qn sn ++ (wS G qs ss ++ (wS G qo so ++ wV G V1 14)))))))) := hD
  refine lv_aload_n hx hb dX4_round_4 rfl (lv_at hl 0 rfl) ?_
  refine q_get (q0 := 0) C hP rfl rfl hiX4_round_X4 2 (by decide) wdX4_round_1 rfl dX4_round_5 ?_
  obtain ⟨x1, hx1, hf⟩ := bd_some hf
  refine q_Vi C (rc := (RX0, TX0, 15)) (q0 := 5) (ci := 0) (ws' := wR G q da qc qh qt qs qo (imO V1) (paO V1) sr1 ++ (wA G da 500 ta ++ (wN G qc x1.2 ++ (wN G qh sh ++ (wT G qt tb.1 (qn 15) tb.2 ++ (wN G qn sn ++ (wS G qs ss ++ (wS G qo so ++ wV G V1 14)))))))) (c_X0_goRound (qn := qc) hx1) gX4_round_X0_goRound rfl ⟨rfl, rfl⟩ hdX0_goRound ⟨(Nat.le_of_ble_eq_true rfl), (Nat.le_of_ble_eq_true rfl)⟩ rfl hP (dd_R hD) hS rfl rfl pr_2 pr_2.symm hl.1 (Nat.le_of_ble_eq_true rfl) ⟨(Nat.le_of_ble_eq_true rfl), (Nat.le_of_ble_eq_true rfl)⟩ rfl dX4_round_8 (fun H locs hP hS => ?_)
  obtain rfl := Option.some.inj hf
  exact q_Gi C ⟨rfl, _, _, Or.inr ⟨rfl, hrm⟩, rfl⟩ hP (dd_R hD) hS (Nat.le_of_ble_eq_true rfl) (Nat.le_of_ble_eq_true rfl) rfl rfl dX4_round_11

-- X4_reduce
theorem hiX4_reduce_X4 : ∀ w ∈ u_ws RX4 TX4 12, w ∈ wsX4_reduce := mem_run (i := 167) (by decide +kernel)
theorem wdX4_reduce_1 : (Cond.fieldLink RX4 18 "CombinatorRing" "current" "LCombinatorRing$Net;") ∈ wsX4_reduce := List.mem_of_getElem? (i := 1) rfl
theorem hiX4_reduce_X0 : ∀ w ∈ u_ws RX0 TX0 15, w ∈ wsX4_reduce := mem_run (i := 179) (by decide +kernel)
def r_reduce (sc : NSt) (a1 : Int32) : Option (Int32 × Int32 × NSt) := bd (p_has (np sc) a1) fun x1 => if x1 = 0 then some (0, (-1), sc) else bd (n_canGo sc a1) fun x3 => if x3 = 0 then some (0, (-1), sc) else bd (n_rewrite sc a1) fun x5 => some (1, x5.1, x5.2)
abbrev rmX4_reduce : Room := { frames := 5, cells := 11, slots := 1661, locals := 119 }
theorem hdX4_reduce : yX4_reduce.cls = RX4 ∧ yX4_reduce.cls ≠ "java/lang/invoke/MethodHandle" ∧ yX4_reduce.cls ≠ "java/lang/invoke/VarHandle" ∧ (parseMethodDescriptor yX4_reduce.desc).map (fun d => d.parameters.length) = some 1 := by decide +kernel
set_option maxHeartbeats 4000000 in
set_option maxRecDepth 100000 in
theorem c_X4_reduce {l : Launch} {G : Gx} {q : Nat → Nat} {da : Nat} {qc qh qt qn qs qo : Nat → Nat} {V : VS} {x00 : NSt} {sr : OSt} {ta : (Nat → Int32)} {sc : NSt} {sh : NSt} {tb : (Nat × OSt)} {sn : NSt} {ss : OSt} {so : OSt} {a1 : Int32} {x : Int32 × Int32 × NSt} (hr : RH x00 V sr sc) (hf : r_reduce sc a1 = some x) : QG l G yX4_reduce wsX4_reduce rmX4_reduce 11 1661 [.ref (q 12), .int a1] (wR G q da qc qh qt qs qo (imO V) (paO V) sr ++ (wA G da 500 ta ++ (wN G qc sc ++ (wN G qh sh ++ (wT G qt tb.1 (qn 15) tb.2 ++ (wN G qn sn ++ (wS G qs ss ++ (wS G qo so ++ wV G V 14)))))))) (fun r w' => r = some (.int x.2.1) ∧ ∃ V' sr', ((x.1 = 0 ∧ V' = V ∧ sr' = sr) ∨ (x.1 = 1 ∧ REM x00 V sr sc V' sr')) ∧ w' = wR G q da qc qh qt qs qo (imO V') (paO V') sr' ++ (wA G da 500 ta ++ (wN G qc x.2.2 ++ (wN G qh sh ++ (wT G qt tb.1 (qn 15) tb.2 ++ (wN G qn sn ++ (wS G qs ss ++ (wS G qo so ++ wV G V' 14)))))))) := by
  refine QG.of (cc := cX4_reduce) (maxL := 2) (ret := (some .int)) (by decide) rfl (Nat.le_of_ble_eq_true rfl) ?_
  intro p e s m below meth c A ls hmn C hD hP hS hl
  have hx := C.1
  have hb := C.2.1
  have hl : lv_has ls 2 [(0, .ref (q 12)), (1, .int a1)] := hl
  unfold r_reduce at hf
  refine lv_aload_n hx hb dX4_reduce_0 rfl (lv_at hl 0 rfl) ?_
  refine q_get (q0 := 0) C hP rfl rfl hiX4_reduce_X4 2 (by decide) wdX4_reduce_1 rfl dX4_reduce_1 ?_
  refine q_getN (q0 := 5) C hP rfl rfl hiX4_reduce_X0 4 (by decide) (List.mem_of_getElem? (i := 2) rfl) rfl dX4_reduce_4 ?_
  refine lv_iload_n hx hb dX4_reduce_7 rfl (lv_at hl 1 rfl) ?_
  obtain ⟨x1, hx1, hf⟩ := bd_some hf
  refine q_Vi C (rc := (RX1, TX1, 2)) (q0 := 10) (ci := 1) (ws' := wR G q da qc qh qt qs qo (imO V) (paO V) sr ++ (wA G da 500 ta ++ (wN G qc sc ++ (wN G qh sh ++ (wT G qt tb.1 (qn 15) tb.2 ++ (wN G qn sn ++ (wS G qs ss ++ (wS G qo so ++ wV G V 14)))))))) (c_X1_has (qp := qPp qc) hx1) gX4_reduce_X1_has rfl ⟨rfl, rfl⟩ hdX1_has ⟨(Nat.le_of_ble_eq_true rfl), (Nat.le_of_ble_eq_true rfl)⟩ rfl hP (dd_R hD) hS rfl rfl (pm_sub pr_2 pm_NP1) (pm_sub pr_2 pm_NP1).symm hl.1 (Nat.le_of_ble_eq_true rfl) ⟨(Nat.le_of_ble_eq_true rfl), (Nat.le_of_ble_eq_true rfl)⟩ rfl dX4_reduce_8 (fun H locs hP hS => ?_)
  refine lv_if_eq (tgt := 25) hx hb dX4_reduce_11 (by decide) (fun c2 => ?_) (fun c2 => ?_)
  · have hf := if_t c2 hf
    refine lv_iconst (v := (-1)) hx hb dX4_reduce_25 (by decide) ?_
    obtain rfl := Option.some.inj hf
    exact q_Gi C ⟨rfl, _, _, Or.inl ⟨rfl, rfl, rfl⟩, rfl⟩ hP (dd_R hD) hS (Nat.le_of_ble_eq_true rfl) (Nat.le_of_ble_eq_true rfl) rfl rfl dX4_reduce_26
  · have hf := if_f c2 hf
    refine lv_aload_n hx hb dX4_reduce_14 rfl (lv_at hl 0 rfl) ?_
    refine q_get (q0 := 0) C hP rfl rfl hiX4_reduce_X4 2 (by decide) wdX4_reduce_1 rfl dX4_reduce_15 ?_
    refine lv_iload_n hx hb dX4_reduce_18 rfl (lv_at hl 1 rfl) ?_
    obtain ⟨x3, hx3, hf⟩ := bd_some hf
    refine q_Vi C (rc := (RX0, TX0, 15)) (q0 := 5) (ci := 0) (ws' := wR G q da qc qh qt qs qo (imO V) (paO V) sr ++ (wA G da 500 ta ++ (wN G qc sc ++ (wN G qh sh ++ (wT G qt tb.1 (qn 15) tb.2 ++ (wN G qn sn ++ (wS G qs ss ++ (wS G qo so ++ wV G V 14)))))))) (c_X0_canGo (qn := qc) hx3) gX4_reduce_X0_canGo rfl ⟨rfl, rfl⟩ hdX0_canGo ⟨(Nat.le_of_ble_eq_true rfl), (Nat.le_of_ble_eq_true rfl)⟩ rfl hP (dd_R hD) hS rfl rfl pr_2 pr_2.symm hl.1 (Nat.le_of_ble_eq_true rfl) ⟨(Nat.le_of_ble_eq_true rfl), (Nat.le_of_ble_eq_true rfl)⟩ rfl dX4_reduce_19 (fun H locs hP hS => ?_)
    refine lv_if_ne (tgt := 27) hx hb dX4_reduce_22 (by decide) (fun c4 => ?_) (fun c4 => ?_)
    · have hf := if_f c4 hf
      refine lv_aload_n hx hb dX4_reduce_27 rfl (lv_at hl 0 rfl) ?_
      refine q_VG C (rc := (RX4, TX4, 12)) (q0 := 0) (ci := 4) (wr := []) (c_X4_remember (q := q) (da := da) (qc := qc) (qh := qh) (qt := qt) (qn := qn) (qs := qs) (qo := qo) (ta := ta) (sh := sh) (tb := tb) (sn := sn) (ss := ss) (so := so) hr) gX4_reduce_X4_remember rfl ⟨rfl, rfl⟩ hdX4_remember ⟨(Nat.le_of_ble_eq_true rfl), (Nat.le_of_ble_eq_true rfl)⟩ rfl hP (dd_R hD) hS rfl rfl (List.Perm.refl _) hl.1 (Nat.le_of_ble_eq_true rfl) ⟨(Nat.le_of_ble_eq_true rfl), (Nat.le_of_ble_eq_true rfl)⟩ rfl dX4_reduce_28 (fun r9 w9 H locs hBB hP hD hS => ?_)
      obtain ⟨rfl, V1, sr1, hrm, rfl⟩ := hBB
      have hP : va_P G.1 vwCl (wR G q da qc qh qt qs qo (imO V1) (paO V1) sr1 ++ (wA G da 500 ta ++ (wN G qc sc ++ (wN G qh sh ++ (wT G qt tb.1 (qn 15) tb.2 ++ (wN G qn sn ++ (wS G qs ss ++ (wS G qo so ++ wV G V1 14)))))))) H := hP
      have hD : va_D A (wR G q da qc qh qt qs qo (imO V1) (paO V1) sr1 ++ (wA G da 500 ta ++ (wN G qc sc ++ (wN G qh sh ++ (wT G qt tb.1 (qn 15) tb.2 ++ (wN G qn sn ++ (wS G qs ss ++ (wS G qo so ++ wV G V1 14)))))))) := hD
      refine lv_aload_n hx hb dX4_reduce_31 rfl (lv_at hl 0 rfl) ?_
      refine q_get (q0 := 0) C hP rfl rfl hiX4_reduce_X4 2 (by decide) wdX4_reduce_1 rfl dX4_reduce_32 ?_
      refine lv_iload_n hx hb dX4_reduce_35 rfl (lv_at hl 1 rfl) ?_
      obtain ⟨x5, hx5, hf⟩ := bd_some hf
      refine q_Vi C (rc := (RX0, TX0, 15)) (q0 := 5) (ci := 0) (ws' := wR G q da qc qh qt qs qo (imO V1) (paO V1) sr1 ++ (wA G da 500 ta ++ (wN G qc x5.2 ++ (wN G qh sh ++ (wT G qt tb.1 (qn 15) tb.2 ++ (wN G qn sn ++ (wS G qs ss ++ (wS G qo so ++ wV G V1 14)))))))) (c_X0_rewrite (qn := qc) hx5) gX4_reduce_X0_rewrite rfl ⟨rfl, rfl⟩ hdX0_rewrite ⟨(Nat.le_of_ble_eq_true rfl), (Nat.le_of_ble_eq_true rfl)⟩ rfl hP (dd_R hD) hS rfl rfl pr_2 pr_2.symm hl.1 (Nat.le_of_ble_eq_true rfl) ⟨(Nat.le_of_ble_eq_true rfl), (Nat.le_of_ble_eq_true rfl)⟩ rfl dX4_reduce_36 (fun H locs hP hS => ?_)
      obtain rfl := Option.some.inj hf
      exact q_Gi C ⟨rfl, _, _, Or.inr ⟨rfl, hrm⟩, rfl⟩ hP (dd_R hD) hS (Nat.le_of_ble_eq_true rfl) (Nat.le_of_ble_eq_true rfl) rfl rfl dX4_reduce_39
    · have hf := if_t c4 hf
      refine lv_iconst (v := (-1)) hx hb dX4_reduce_25 (by decide) ?_
      obtain rfl := Option.some.inj hf
      exact q_Gi C ⟨rfl, _, _, Or.inl ⟨rfl, rfl, rfl⟩, rfl⟩ hP (dd_R hD) hS (Nat.le_of_ble_eq_true rfl) (Nat.le_of_ble_eq_true rfl) rfl rfl dX4_reduce_26

-- X4_put
theorem hiX4_put_X4 : ∀ w ∈ u_ws RX4 TX4 12, w ∈ wsX4_put := mem_run (i := 130) (by decide +kernel)
theorem wdX4_put_1 : (Cond.fieldLink RX4 18 "CombinatorRing" "current" "LCombinatorRing$Net;") ∈ wsX4_put := List.mem_of_getElem? (i := 1) rfl
theorem hiX4_put_X0 : ∀ w ∈ u_ws RX0 TX0 15, w ∈ wsX4_put := mem_run (i := 142) (by decide +kernel)
def r_put (sc : NSt) (a1 : Int32) (a2 : Int32) : Option (Int32 × Int32 × NSt) := bd (n_hasRoot sc a1) fun x1 => if x1 = 0 then some (0, (-1), sc) else if a2 < 0 then some (0, (-1), sc) else if 20 < a2 then some (0, (-1), sc) else bd (n_numberSize a2) fun x5 => bd (n_hasRoom sc x5) fun x6 => if x6 = 0 then some (0, (-1), sc) else bd (n_makeNumber sc a2) fun x8 => bd (n_endRoot x8.2 a1 x8.1) fun x9 => some (1, (ni x9 7), x9)
abbrev rmX4_put : Room := { frames := 5, cells := 11, slots := 1661, locals := 107 }
theorem hdX4_put : yX4_put.cls = RX4 ∧ yX4_put.cls ≠ "java/lang/invoke/MethodHandle" ∧ yX4_put.cls ≠ "java/lang/invoke/VarHandle" ∧ (parseMethodDescriptor yX4_put.desc).map (fun d => d.parameters.length) = some 2 := by decide +kernel
set_option maxHeartbeats 4000000 in
set_option maxRecDepth 100000 in
theorem c_X4_put {l : Launch} {G : Gx} {q : Nat → Nat} {da : Nat} {qc qh qt qn qs qo : Nat → Nat} {V : VS} {x00 : NSt} {sr : OSt} {ta : (Nat → Int32)} {sc : NSt} {sh : NSt} {tb : (Nat × OSt)} {sn : NSt} {ss : OSt} {so : OSt} {a1 : Int32} {a2 : Int32} {x : Int32 × Int32 × NSt} (hr : RH x00 V sr sc) (hf : r_put sc a1 a2 = some x) : QG l G yX4_put wsX4_put rmX4_put 11 1661 [.ref (q 12), .int a1, .int a2] (wR G q da qc qh qt qs qo (imO V) (paO V) sr ++ (wA G da 500 ta ++ (wN G qc sc ++ (wN G qh sh ++ (wT G qt tb.1 (qn 15) tb.2 ++ (wN G qn sn ++ (wS G qs ss ++ (wS G qo so ++ wV G V 14)))))))) (fun r w' => r = some (.int x.2.1) ∧ ∃ V' sr', ((x.1 = 0 ∧ V' = V ∧ sr' = sr) ∨ (x.1 = 1 ∧ REM x00 V sr sc V' sr')) ∧ w' = wR G q da qc qh qt qs qo (imO V') (paO V') sr' ++ (wA G da 500 ta ++ (wN G qc x.2.2 ++ (wN G qh sh ++ (wT G qt tb.1 (qn 15) tb.2 ++ (wN G qn sn ++ (wS G qs ss ++ (wS G qo so ++ wV G V' 14)))))))) := by
  refine QG.of (cc := cX4_put) (maxL := 3) (ret := (some .int)) (by decide) rfl (Nat.le_of_ble_eq_true rfl) ?_
  intro p e s m below meth c A ls hmn C hD hP hS hl
  have hx := C.1
  have hb := C.2.1
  have hl : lv_has ls 3 [(0, .ref (q 12)), (1, .int a1), (2, .int a2)] := hl
  unfold r_put at hf
  refine lv_aload_n hx hb dX4_put_0 rfl (lv_at hl 0 rfl) ?_
  refine q_get (q0 := 0) C hP rfl rfl hiX4_put_X4 2 (by decide) wdX4_put_1 rfl dX4_put_1 ?_
  refine lv_iload_n hx hb dX4_put_4 rfl (lv_at hl 1 rfl) ?_
  obtain ⟨x1, hx1, hf⟩ := bd_some hf
  refine q_Vi C (rc := (RX0, TX0, 15)) (q0 := 5) (ci := 0) (ws' := wR G q da qc qh qt qs qo (imO V) (paO V) sr ++ (wA G da 500 ta ++ (wN G qc sc ++ (wN G qh sh ++ (wT G qt tb.1 (qn 15) tb.2 ++ (wN G qn sn ++ (wS G qs ss ++ (wS G qo so ++ wV G V 14)))))))) (c_X0_hasRoot (qn := qc) hx1) gX4_put_X0_hasRoot rfl ⟨rfl, rfl⟩ hdX0_hasRoot ⟨(Nat.le_of_ble_eq_true rfl), (Nat.le_of_ble_eq_true rfl)⟩ rfl hP (dd_R hD) hS rfl rfl pr_2 pr_2.symm hl.1 (Nat.le_of_ble_eq_true rfl) ⟨(Nat.le_of_ble_eq_true rfl), (Nat.le_of_ble_eq_true rfl)⟩ rfl dX4_put_5 (fun H locs hP hS => ?_)
  refine lv_if_eq (tgt := 35) hx hb dX4_put_8 (by decide) (fun c2 => ?_) (fun c2 => ?_)
  · have hf := if_t c2 hf
    refine lv_iconst (v := (-1)) hx hb dX4_put_35 (by decide) ?_
    obtain rfl := Option.some.inj hf
    exact q_Gi C ⟨rfl, _, _, Or.inl ⟨rfl, rfl, rfl⟩, rfl⟩ hP (dd_R hD) hS (Nat.le_of_ble_eq_true rfl) (Nat.le_of_ble_eq_true rfl) rfl rfl dX4_put_36
  · have hf := if_f c2 hf
    refine lv_iload_n hx hb dX4_put_11 rfl (lv_at hl 2 rfl) ?_
    refine lv_if_lt (tgt := 35) hx hb dX4_put_12 (by decide) (fun c3 => ?_) (fun c3 => ?_)
    · have hf := if_t c3 hf
      refine lv_iconst (v := (-1)) hx hb dX4_put_35 (by decide) ?_
      obtain rfl := Option.some.inj hf
      exact q_Gi C ⟨rfl, _, _, Or.inl ⟨rfl, rfl, rfl⟩, rfl⟩ hP (dd_R hD) hS (Nat.le_of_ble_eq_true rfl) (Nat.le_of_ble_eq_true rfl) rfl rfl dX4_put_36
    · have hf := if_f c3 hf
      refine lv_iload_n hx hb dX4_put_15 rfl (lv_at hl 2 rfl) ?_
      refine lv_bipush (v := 20) hx hb dX4_put_16 (by decide) ?_
      refine lv_icmp_gt (tgt := 35) hx hb dX4_put_18 (by decide) (fun c4 => ?_) (fun c4 => ?_)
      · have hf := if_t c4 hf
        refine lv_iconst (v := (-1)) hx hb dX4_put_35 (by decide) ?_
        obtain rfl := Option.some.inj hf
        exact q_Gi C ⟨rfl, _, _, Or.inl ⟨rfl, rfl, rfl⟩, rfl⟩ hP (dd_R hD) hS (Nat.le_of_ble_eq_true rfl) (Nat.le_of_ble_eq_true rfl) rfl rfl dX4_put_36
      · have hf := if_f c4 hf
        refine lv_aload_n hx hb dX4_put_21 rfl (lv_at hl 0 rfl) ?_
        refine q_get (q0 := 0) C hP rfl rfl hiX4_put_X4 2 (by decide) wdX4_put_1 rfl dX4_put_22 ?_
        refine lv_iload_n hx hb dX4_put_25 rfl (lv_at hl 2 rfl) ?_
        obtain ⟨x5, hx5, hf⟩ := bd_some hf
        refine q_Si C (ws' := wR G q da qc qh qt qs qo (imO V) (paO V) sr ++ (wA G da 500 ta ++ (wN G qc sc ++ (wN G qh sh ++ (wT G qt tb.1 (qn 15) tb.2 ++ (wN G qn sn ++ (wS G qs ss ++ (wS G qo so ++ wV G V 14)))))))) (wr := []) (c_X0_numberSize (w := wR G q da qc qh qt qs qo (imO V) (paO V) sr ++ (wA G da 500 ta ++ (wN G qc sc ++ (wN G qh sh ++ (wT G qt tb.1 (qn 15) tb.2 ++ (wN G qn sn ++ (wS G qs ss ++ (wS G qo so ++ wV G V 14)))))))) hx5) gX4_put_X0_numberSize rfl ⟨rfl, rfl⟩ hdX0_numberSize ⟨(Nat.le_of_ble_eq_true rfl), (Nat.le_of_ble_eq_true rfl)⟩ rfl hP (dd_R hD) hS (List.Perm.refl _) (List.Perm.refl _) hl.1 (Nat.le_of_ble_eq_true rfl) ⟨(Nat.le_of_ble_eq_true rfl), (Nat.le_of_ble_eq_true rfl)⟩ rfl dX4_put_26 (fun H locs hP hS => ?_)
        obtain ⟨x6, hx6, hf⟩ := bd_some hf
        refine q_Vi C (rc := (RX0, TX0, 15)) (q0 := 5) (ci := 0) (ws' := wR G q da qc qh qt qs qo (imO V) (paO V) sr ++ (wA G da 500 ta ++ (wN G qc sc ++ (wN G qh sh ++ (wT G qt tb.1 (qn 15) tb.2 ++ (wN G qn sn ++ (wS G qs ss ++ (wS G qo so ++ wV G V 14)))))))) (c_X0_hasRoom (qn := qc) hx6) gX4_put_X0_hasRoom rfl ⟨rfl, rfl⟩ hdX0_hasRoom ⟨(Nat.le_of_ble_eq_true rfl), (Nat.le_of_ble_eq_true rfl)⟩ rfl hP (dd_R hD) hS rfl rfl pr_2 pr_2.symm hl.1 (Nat.le_of_ble_eq_true rfl) ⟨(Nat.le_of_ble_eq_true rfl), (Nat.le_of_ble_eq_true rfl)⟩ rfl dX4_put_29 (fun H locs hP hS => ?_)
        refine lv_if_ne (tgt := 37) hx hb dX4_put_32 (by decide) (fun c7 => ?_) (fun c7 => ?_)
        · have hf := if_f c7 hf
          refine lv_aload_n hx hb dX4_put_37 rfl (lv_at hl 0 rfl) ?_
          refine q_VG C (rc := (RX4, TX4, 12)) (q0 := 0) (ci := 4) (wr := []) (c_X4_remember (q := q) (da := da) (qc := qc) (qh := qh) (qt := qt) (qn := qn) (qs := qs) (qo := qo) (ta := ta) (sh := sh) (tb := tb) (sn := sn) (ss := ss) (so := so) hr) gX4_put_X4_remember rfl ⟨rfl, rfl⟩ hdX4_remember ⟨(Nat.le_of_ble_eq_true rfl), (Nat.le_of_ble_eq_true rfl)⟩ rfl hP (dd_R hD) hS rfl rfl (List.Perm.refl _) hl.1 (Nat.le_of_ble_eq_true rfl) ⟨(Nat.le_of_ble_eq_true rfl), (Nat.le_of_ble_eq_true rfl)⟩ rfl dX4_put_38 (fun r9 w9 H locs hBB hP hD hS => ?_)
          obtain ⟨rfl, V1, sr1, hrm, rfl⟩ := hBB
          have hP : va_P G.1 vwCl (wR G q da qc qh qt qs qo (imO V1) (paO V1) sr1 ++ (wA G da 500 ta ++ (wN G qc sc ++ (wN G qh sh ++ (wT G qt tb.1 (qn 15) tb.2 ++ (wN G qn sn ++ (wS G qs ss ++ (wS G qo so ++ wV G V1 14)))))))) H := hP
          have hD : va_D A (wR G q da qc qh qt qs qo (imO V1) (paO V1) sr1 ++ (wA G da 500 ta ++ (wN G qc sc ++ (wN G qh sh ++ (wT G qt tb.1 (qn 15) tb.2 ++ (wN G qn sn ++ (wS G qs ss ++ (wS G qo so ++ wV G V1 14)))))))) := hD
          refine lv_aload_n hx hb dX4_put_41 rfl (lv_at hl 0 rfl) ?_
          refine q_get (q0 := 0) C hP rfl rfl hiX4_put_X4 2 (by decide) wdX4_put_1 rfl dX4_put_42 ?_
          refine lv_iload_n hx hb dX4_put_45 rfl (lv_at hl 1 rfl) ?_
          refine lv_aload_n hx hb dX4_put_46 rfl (lv_at hl 0 rfl) ?_
          refine q_get (q0 := 0) C hP rfl rfl hiX4_put_X4 2 (by decide) wdX4_put_1 rfl dX4_put_47 ?_
          refine lv_iload_n hx hb dX4_put_50 rfl (lv_at hl 2 rfl) ?_
          obtain ⟨x8, hx8, hf⟩ := bd_some hf
          refine q_Vi C (rc := (RX0, TX0, 15)) (q0 := 5) (ci := 0) (ws' := wR G q da qc qh qt qs qo (imO V1) (paO V1) sr1 ++ (wA G da 500 ta ++ (wN G qc x8.2 ++ (wN G qh sh ++ (wT G qt tb.1 (qn 15) tb.2 ++ (wN G qn sn ++ (wS G qs ss ++ (wS G qo so ++ wV G V1 14)))))))) (c_X0_makeNumber (qn := qc) hx8) gX4_put_X0_makeNumber rfl ⟨rfl, rfl⟩ hdX0_makeNumber ⟨(Nat.le_of_ble_eq_true rfl), (Nat.le_of_ble_eq_true rfl)⟩ rfl hP (dd_R hD) hS rfl rfl pr_2 pr_2.symm hl.1 (Nat.le_of_ble_eq_true rfl) ⟨(Nat.le_of_ble_eq_true rfl), (Nat.le_of_ble_eq_true rfl)⟩ rfl dX4_put_51 (fun H locs hP hS => ?_)
          obtain ⟨x9, hx9, hf⟩ := bd_some hf
          refine q_Vv C (rc := (RX0, TX0, 15)) (q0 := 5) (ci := 0) (ws' := wR G q da qc qh qt qs qo (imO V1) (paO V1) sr1 ++ (wA G da 500 ta ++ (wN G qc x9 ++ (wN G qh sh ++ (wT G qt tb.1 (qn 15) tb.2 ++ (wN G qn sn ++ (wS G qs ss ++ (wS G qo so ++ wV G V1 14)))))))) (c_X0_endRoot (qn := qc) hx9) gX4_put_X0_endRoot rfl ⟨rfl, rfl⟩ hdX0_endRoot ⟨(Nat.le_of_ble_eq_true rfl), (Nat.le_of_ble_eq_true rfl)⟩ rfl hP (dd_R hD) hS rfl rfl pr_2 pr_2.symm hl.1 (Nat.le_of_ble_eq_true rfl) ⟨(Nat.le_of_ble_eq_true rfl), (Nat.le_of_ble_eq_true rfl)⟩ rfl dX4_put_54 (fun H locs hP hS => ?_)
          refine lv_aload_n hx hb dX4_put_57 rfl (lv_at hl 0 rfl) ?_
          refine q_get (q0 := 0) C hP rfl rfl hiX4_put_X4 2 (by decide) wdX4_put_1 rfl dX4_put_58 ?_
          refine q_getN (q0 := 5) C hP rfl rfl hiX4_put_X0 7 (by decide) (List.mem_of_getElem? (i := 4) rfl) rfl dX4_put_61 ?_
          obtain rfl := Option.some.inj hf
          exact q_Gi C ⟨rfl, _, _, Or.inr ⟨rfl, hrm⟩, rfl⟩ hP (dd_R hD) hS (Nat.le_of_ble_eq_true rfl) (Nat.le_of_ble_eq_true rfl) rfl rfl dX4_put_64
        · have hf := if_t c7 hf
          refine lv_iconst (v := (-1)) hx hb dX4_put_35 (by decide) ?_
          obtain rfl := Option.some.inj hf
          exact q_Gi C ⟨rfl, _, _, Or.inl ⟨rfl, rfl, rfl⟩, rfl⟩ hP (dd_R hD) hS (Nat.le_of_ble_eq_true rfl) (Nat.le_of_ble_eq_true rfl) rfl rfl dX4_put_36

-- X4_branchRoot
theorem hiX4_branchRoot_X4 : ∀ w ∈ u_ws RX4 TX4 12, w ∈ wsX4_branchRoot := mem_run (i := 127) (by decide +kernel)
theorem wdX4_branchRoot_1 : (Cond.fieldLink RX4 18 "CombinatorRing" "current" "LCombinatorRing$Net;") ∈ wsX4_branchRoot := List.mem_of_getElem? (i := 1) rfl
theorem hiX4_branchRoot_X0 : ∀ w ∈ u_ws RX0 TX0 15, w ∈ wsX4_branchRoot := mem_run (i := 139) (by decide +kernel)
def r_branchRoot (sc : NSt) (a1 : Int32) (a2 : Int32) : Option (Int32 × Int32 × NSt) := bd (n_hasRoot sc a1) fun x1 => if x1 = 0 then some (0, (-1), sc) else bd (n_hasRoom sc 1) fun x3 => if x3 = 0 then some (0, (-1), sc) else if ((ni sc 12) + 2) ≤ 16 then bd (n_make sc a2) fun x6 => bd (n_endRoot x6.2 a1 (3 * x6.1)) fun x7 => bd (n_makeRoot x7 ((3 * x6.1) + 1)) fun x8 => bd (n_makeRoot x8.2 ((3 * x6.1) + 2)) fun x9 => some (1, x8.1, x9.2) else some (0, (-1), sc)
abbrev rmX4_branchRoot : Room := { frames := 5, cells := 11, slots := 1661, locals := 107 }
theorem hdX4_branchRoot : yX4_branchRoot.cls = RX4 ∧ yX4_branchRoot.cls ≠ "java/lang/invoke/MethodHandle" ∧ yX4_branchRoot.cls ≠ "java/lang/invoke/VarHandle" ∧ (parseMethodDescriptor yX4_branchRoot.desc).map (fun d => d.parameters.length) = some 2 := by decide +kernel
set_option maxHeartbeats 4000000 in
set_option maxRecDepth 100000 in
theorem c_X4_branchRoot {l : Launch} {G : Gx} {q : Nat → Nat} {da : Nat} {qc qh qt qn qs qo : Nat → Nat} {V : VS} {x00 : NSt} {sr : OSt} {ta : (Nat → Int32)} {sc : NSt} {sh : NSt} {tb : (Nat × OSt)} {sn : NSt} {ss : OSt} {so : OSt} {a1 : Int32} {a2 : Int32} {x : Int32 × Int32 × NSt} (hr : RH x00 V sr sc) (hf : r_branchRoot sc a1 a2 = some x) : QG l G yX4_branchRoot wsX4_branchRoot rmX4_branchRoot 11 1661 [.ref (q 12), .int a1, .int a2] (wR G q da qc qh qt qs qo (imO V) (paO V) sr ++ (wA G da 500 ta ++ (wN G qc sc ++ (wN G qh sh ++ (wT G qt tb.1 (qn 15) tb.2 ++ (wN G qn sn ++ (wS G qs ss ++ (wS G qo so ++ wV G V 14)))))))) (fun r w' => r = some (.int x.2.1) ∧ ∃ V' sr', ((x.1 = 0 ∧ V' = V ∧ sr' = sr) ∨ (x.1 = 1 ∧ REM x00 V sr sc V' sr')) ∧ w' = wR G q da qc qh qt qs qo (imO V') (paO V') sr' ++ (wA G da 500 ta ++ (wN G qc x.2.2 ++ (wN G qh sh ++ (wT G qt tb.1 (qn 15) tb.2 ++ (wN G qn sn ++ (wS G qs ss ++ (wS G qo so ++ wV G V' 14)))))))) := by
  refine QG.of (cc := cX4_branchRoot) (maxL := 5) (ret := (some .int)) (by decide) rfl (Nat.le_of_ble_eq_true rfl) ?_
  intro p e s m below meth c A ls hmn C hD hP hS hl
  have hx := C.1
  have hb := C.2.1
  have hl : lv_has ls 5 [(0, .ref (q 12)), (1, .int a1), (2, .int a2)] := hl
  unfold r_branchRoot at hf
  refine lv_aload_n hx hb dX4_branchRoot_0 rfl (lv_at hl 0 rfl) ?_
  refine q_get (q0 := 0) C hP rfl rfl hiX4_branchRoot_X4 2 (by decide) wdX4_branchRoot_1 rfl dX4_branchRoot_1 ?_
  refine lv_iload_n hx hb dX4_branchRoot_4 rfl (lv_at hl 1 rfl) ?_
  obtain ⟨x1, hx1, hf⟩ := bd_some hf
  refine q_Vi C (rc := (RX0, TX0, 15)) (q0 := 5) (ci := 0) (ws' := wR G q da qc qh qt qs qo (imO V) (paO V) sr ++ (wA G da 500 ta ++ (wN G qc sc ++ (wN G qh sh ++ (wT G qt tb.1 (qn 15) tb.2 ++ (wN G qn sn ++ (wS G qs ss ++ (wS G qo so ++ wV G V 14)))))))) (c_X0_hasRoot (qn := qc) hx1) gX4_branchRoot_X0_hasRoot rfl ⟨rfl, rfl⟩ hdX0_hasRoot ⟨(Nat.le_of_ble_eq_true rfl), (Nat.le_of_ble_eq_true rfl)⟩ rfl hP (dd_R hD) hS rfl rfl pr_2 pr_2.symm hl.1 (Nat.le_of_ble_eq_true rfl) ⟨(Nat.le_of_ble_eq_true rfl), (Nat.le_of_ble_eq_true rfl)⟩ rfl dX4_branchRoot_5 (fun H locs hP hS => ?_)
  refine lv_if_eq (tgt := 36) hx hb dX4_branchRoot_8 (by decide) (fun c2 => ?_) (fun c2 => ?_)
  · have hf := if_t c2 hf
    refine lv_iconst (v := (-1)) hx hb dX4_branchRoot_36 (by decide) ?_
    obtain rfl := Option.some.inj hf
    exact q_Gi C ⟨rfl, _, _, Or.inl ⟨rfl, rfl, rfl⟩, rfl⟩ hP (dd_R hD) hS (Nat.le_of_ble_eq_true rfl) (Nat.le_of_ble_eq_true rfl) rfl rfl dX4_branchRoot_37
  · have hf := if_f c2 hf
    refine lv_aload_n hx hb dX4_branchRoot_11 rfl (lv_at hl 0 rfl) ?_
    refine q_get (q0 := 0) C hP rfl rfl hiX4_branchRoot_X4 2 (by decide) wdX4_branchRoot_1 rfl dX4_branchRoot_12 ?_
    refine lv_iconst (v := 1) hx hb dX4_branchRoot_15 (by decide) ?_
    obtain ⟨x3, hx3, hf⟩ := bd_some hf
    refine q_Vi C (rc := (RX0, TX0, 15)) (q0 := 5) (ci := 0) (ws' := wR G q da qc qh qt qs qo (imO V) (paO V) sr ++ (wA G da 500 ta ++ (wN G qc sc ++ (wN G qh sh ++ (wT G qt tb.1 (qn 15) tb.2 ++ (wN G qn sn ++ (wS G qs ss ++ (wS G qo so ++ wV G V 14)))))))) (c_X0_hasRoom (qn := qc) hx3) gX4_branchRoot_X0_hasRoom rfl ⟨rfl, rfl⟩ hdX0_hasRoom ⟨(Nat.le_of_ble_eq_true rfl), (Nat.le_of_ble_eq_true rfl)⟩ rfl hP (dd_R hD) hS rfl rfl pr_2 pr_2.symm hl.1 (Nat.le_of_ble_eq_true rfl) ⟨(Nat.le_of_ble_eq_true rfl), (Nat.le_of_ble_eq_true rfl)⟩ rfl dX4_branchRoot_16 (fun H locs hP hS => ?_)
    refine lv_if_eq (tgt := 36) hx hb dX4_branchRoot_19 (by decide) (fun c4 => ?_) (fun c4 => ?_)
    · have hf := if_t c4 hf
      refine lv_iconst (v := (-1)) hx hb dX4_branchRoot_36 (by decide) ?_
      obtain rfl := Option.some.inj hf
      exact q_Gi C ⟨rfl, _, _, Or.inl ⟨rfl, rfl, rfl⟩, rfl⟩ hP (dd_R hD) hS (Nat.le_of_ble_eq_true rfl) (Nat.le_of_ble_eq_true rfl) rfl rfl dX4_branchRoot_37
    · have hf := if_f c4 hf
      refine lv_aload_n hx hb dX4_branchRoot_22 rfl (lv_at hl 0 rfl) ?_
      refine q_get (q0 := 0) C hP rfl rfl hiX4_branchRoot_X4 2 (by decide) wdX4_branchRoot_1 rfl dX4_branchRoot_23 ?_
      refine q_getN (q0 := 5) C hP rfl rfl hiX4_branchRoot_X0 12 (by decide) (List.mem_of_getElem? (i := 9) rfl) rfl dX4_branchRoot_26 ?_
      refine lv_iconst (v := 2) hx hb dX4_branchRoot_29 (by decide) ?_
      refine lv_iadd hx hb dX4_branchRoot_30 ?_
      refine lv_bipush (v := 16) hx hb dX4_branchRoot_31 (by decide) ?_
      refine lv_icmp_le (tgt := 38) hx hb dX4_branchRoot_33 (by decide) (fun c5 => ?_) (fun c5 => ?_)
      · have hf := if_t c5 hf
        refine lv_aload_n hx hb dX4_branchRoot_38 rfl (lv_at hl 0 rfl) ?_
        refine q_VG C (rc := (RX4, TX4, 12)) (q0 := 0) (ci := 4) (wr := []) (c_X4_remember (q := q) (da := da) (qc := qc) (qh := qh) (qt := qt) (qn := qn) (qs := qs) (qo := qo) (ta := ta) (sh := sh) (tb := tb) (sn := sn) (ss := ss) (so := so) hr) gX4_branchRoot_X4_remember rfl ⟨rfl, rfl⟩ hdX4_remember ⟨(Nat.le_of_ble_eq_true rfl), (Nat.le_of_ble_eq_true rfl)⟩ rfl hP (dd_R hD) hS rfl rfl (List.Perm.refl _) hl.1 (Nat.le_of_ble_eq_true rfl) ⟨(Nat.le_of_ble_eq_true rfl), (Nat.le_of_ble_eq_true rfl)⟩ rfl dX4_branchRoot_39 (fun r9 w9 H locs hBB hP hD hS => ?_)
        obtain ⟨rfl, V1, sr1, hrm, rfl⟩ := hBB
        have hP : va_P G.1 vwCl (wR G q da qc qh qt qs qo (imO V1) (paO V1) sr1 ++ (wA G da 500 ta ++ (wN G qc sc ++ (wN G qh sh ++ (wT G qt tb.1 (qn 15) tb.2 ++ (wN G qn sn ++ (wS G qs ss ++ (wS G qo so ++ wV G V1 14)))))))) H := hP
        have hD : va_D A (wR G q da qc qh qt qs qo (imO V1) (paO V1) sr1 ++ (wA G da 500 ta ++ (wN G qc sc ++ (wN G qh sh ++ (wT G qt tb.1 (qn 15) tb.2 ++ (wN G qn sn ++ (wS G qs ss ++ (wS G qo so ++ wV G V1 14)))))))) := hD
        refine lv_iconst (v := 3) hx hb dX4_branchRoot_42 (by decide) ?_
        refine lv_aload_n hx hb dX4_branchRoot_43 rfl (lv_at hl 0 rfl) ?_
        refine q_get (q0 := 0) C hP rfl rfl hiX4_branchRoot_X4 2 (by decide) wdX4_branchRoot_1 rfl dX4_branchRoot_44 ?_
        refine lv_iload_n hx hb dX4_branchRoot_47 rfl (lv_at hl 2 rfl) ?_
        obtain ⟨x6, hx6, hf⟩ := bd_some hf
        refine q_Vi C (rc := (RX0, TX0, 15)) (q0 := 5) (ci := 0) (ws' := wR G q da qc qh qt qs qo (imO V1) (paO V1) sr1 ++ (wA G da 500 ta ++ (wN G qc x6.2 ++ (wN G qh sh ++ (wT G qt tb.1 (qn 15) tb.2 ++ (wN G qn sn ++ (wS G qs ss ++ (wS G qo so ++ wV G V1 14)))))))) (c_X0_make (qn := qc) hx6) gX4_branchRoot_X0_make rfl ⟨rfl, rfl⟩ hdX0_make ⟨(Nat.le_of_ble_eq_true rfl), (Nat.le_of_ble_eq_true rfl)⟩ rfl hP (dd_R hD) hS rfl rfl pr_2 pr_2.symm hl.1 (Nat.le_of_ble_eq_true rfl) ⟨(Nat.le_of_ble_eq_true rfl), (Nat.le_of_ble_eq_true rfl)⟩ rfl dX4_branchRoot_48 (fun H locs hP hS => ?_)
        refine lv_imul hx hb dX4_branchRoot_51 ?_
        refine lv_istore_n (lv' := [(3, .int (3 * x6.1)), (0, .ref (q 12)), (1, .int a1), (2, .int a2)]) hx hb dX4_branchRoot_52 rfl hl (by decide) rfl (fun ls hl => ?_)
        refine lv_aload_n hx hb dX4_branchRoot_53 rfl (lv_at hl 1 rfl) ?_
        refine q_get (q0 := 0) C hP rfl rfl hiX4_branchRoot_X4 2 (by decide) wdX4_branchRoot_1 rfl dX4_branchRoot_54 ?_
        refine lv_iload_n hx hb dX4_branchRoot_57 rfl (lv_at hl 2 rfl) ?_
        refine lv_iload_n hx hb dX4_branchRoot_58 rfl (lv_at hl 0 rfl) ?_
        obtain ⟨x7, hx7, hf⟩ := bd_some hf
        refine q_Vv C (rc := (RX0, TX0, 15)) (q0 := 5) (ci := 0) (ws' := wR G q da qc qh qt qs qo (imO V1) (paO V1) sr1 ++ (wA G da 500 ta ++ (wN G qc x7 ++ (wN G qh sh ++ (wT G qt tb.1 (qn 15) tb.2 ++ (wN G qn sn ++ (wS G qs ss ++ (wS G qo so ++ wV G V1 14)))))))) (c_X0_endRoot (qn := qc) hx7) gX4_branchRoot_X0_endRoot rfl ⟨rfl, rfl⟩ hdX0_endRoot ⟨(Nat.le_of_ble_eq_true rfl), (Nat.le_of_ble_eq_true rfl)⟩ rfl hP (dd_R hD) hS rfl rfl pr_2 pr_2.symm hl.1 (Nat.le_of_ble_eq_true rfl) ⟨(Nat.le_of_ble_eq_true rfl), (Nat.le_of_ble_eq_true rfl)⟩ rfl dX4_branchRoot_59 (fun H locs hP hS => ?_)
        refine lv_aload_n hx hb dX4_branchRoot_62 rfl (lv_at hl 1 rfl) ?_
        refine q_get (q0 := 0) C hP rfl rfl hiX4_branchRoot_X4 2 (by decide) wdX4_branchRoot_1 rfl dX4_branchRoot_63 ?_
        refine lv_iload_n hx hb dX4_branchRoot_66 rfl (lv_at hl 0 rfl) ?_
        refine lv_iconst (v := 1) hx hb dX4_branchRoot_67 (by decide) ?_
        refine lv_iadd hx hb dX4_branchRoot_68 ?_
        obtain ⟨x8, hx8, hf⟩ := bd_some hf
        refine q_Vi C (rc := (RX0, TX0, 15)) (q0 := 5) (ci := 0) (ws' := wR G q da qc qh qt qs qo (imO V1) (paO V1) sr1 ++ (wA G da 500 ta ++ (wN G qc x8.2 ++ (wN G qh sh ++ (wT G qt tb.1 (qn 15) tb.2 ++ (wN G qn sn ++ (wS G qs ss ++ (wS G qo so ++ wV G V1 14)))))))) (c_X0_makeRoot (qn := qc) hx8) gX4_branchRoot_X0_makeRoot rfl ⟨rfl, rfl⟩ hdX0_makeRoot ⟨(Nat.le_of_ble_eq_true rfl), (Nat.le_of_ble_eq_true rfl)⟩ rfl hP (dd_R hD) hS rfl rfl pr_2 pr_2.symm hl.1 (Nat.le_of_ble_eq_true rfl) ⟨(Nat.le_of_ble_eq_true rfl), (Nat.le_of_ble_eq_true rfl)⟩ rfl dX4_branchRoot_69 (fun H locs hP hS => ?_)
        refine lv_istore (lv' := [(4, .int x8.1), (3, .int (3 * x6.1)), (0, .ref (q 12)), (1, .int a1), (2, .int a2)]) hx hb dX4_branchRoot_72 hl (by decide) rfl (fun ls hl => ?_)
        refine lv_aload_n hx hb dX4_branchRoot_74 rfl (lv_at hl 2 rfl) ?_
        refine q_get (q0 := 0) C hP rfl rfl hiX4_branchRoot_X4 2 (by decide) wdX4_branchRoot_1 rfl dX4_branchRoot_75 ?_
        refine lv_iload_n hx hb dX4_branchRoot_78 rfl (lv_at hl 1 rfl) ?_
        refine lv_iconst (v := 2) hx hb dX4_branchRoot_79 (by decide) ?_
        refine lv_iadd hx hb dX4_branchRoot_80 ?_
        obtain ⟨x9, hx9, hf⟩ := bd_some hf
        refine q_Vi C (rc := (RX0, TX0, 15)) (q0 := 5) (ci := 0) (ws' := wR G q da qc qh qt qs qo (imO V1) (paO V1) sr1 ++ (wA G da 500 ta ++ (wN G qc x9.2 ++ (wN G qh sh ++ (wT G qt tb.1 (qn 15) tb.2 ++ (wN G qn sn ++ (wS G qs ss ++ (wS G qo so ++ wV G V1 14)))))))) (c_X0_makeRoot (qn := qc) hx9) gX4_branchRoot_X0_makeRoot rfl ⟨rfl, rfl⟩ hdX0_makeRoot ⟨(Nat.le_of_ble_eq_true rfl), (Nat.le_of_ble_eq_true rfl)⟩ rfl hP (dd_R hD) hS rfl rfl pr_2 pr_2.symm hl.1 (Nat.le_of_ble_eq_true rfl) ⟨(Nat.le_of_ble_eq_true rfl), (Nat.le_of_ble_eq_true rfl)⟩ rfl dX4_branchRoot_81 (fun H locs hP hS => ?_)
        refine lv_pop hx hb dX4_branchRoot_84 rfl ?_
        refine lv_iload hx hb dX4_branchRoot_85 (lv_at hl 0 rfl) ?_
        obtain rfl := Option.some.inj hf
        exact q_Gi C ⟨rfl, _, _, Or.inr ⟨rfl, hrm⟩, rfl⟩ hP (dd_R hD) hS (Nat.le_of_ble_eq_true rfl) (Nat.le_of_ble_eq_true rfl) rfl rfl dX4_branchRoot_87
      · have hf := if_f c5 hf
        refine lv_iconst (v := (-1)) hx hb dX4_branchRoot_36 (by decide) ?_
        obtain rfl := Option.some.inj hf
        exact q_Gi C ⟨rfl, _, _, Or.inl ⟨rfl, rfl, rfl⟩, rfl⟩ hP (dd_R hD) hS (Nat.le_of_ble_eq_true rfl) (Nat.le_of_ble_eq_true rfl) rfl rfl dX4_branchRoot_37

-- X4_drop
theorem hiX4_drop_X4 : ∀ w ∈ u_ws RX4 TX4 12, w ∈ wsX4_drop := mem_run (i := 123) (by decide +kernel)
theorem wdX4_drop_1 : (Cond.fieldLink RX4 18 "CombinatorRing" "current" "LCombinatorRing$Net;") ∈ wsX4_drop := List.mem_of_getElem? (i := 1) rfl
theorem hiX4_drop_X0 : ∀ w ∈ u_ws RX0 TX0 15, w ∈ wsX4_drop := mem_run (i := 135) (by decide +kernel)
def r_drop (sc : NSt) (a1 : Int32) : Option (Int32 × Int32 × NSt) := bd (n_hasRoot sc a1) fun x1 => if x1 = 0 then some (0, (-1), sc) else bd (n_hasRoom sc 1) fun x3 => if x3 = 0 then some (0, (-1), sc) else bd (n_make sc 0) fun x5 => bd (n_endRoot x5.2 a1 (3 * x5.1)) fun x6 => some (1, (ni x6 7), x6)
abbrev rmX4_drop : Room := { frames := 5, cells := 11, slots := 1661, locals := 107 }
theorem hdX4_drop : yX4_drop.cls = RX4 ∧ yX4_drop.cls ≠ "java/lang/invoke/MethodHandle" ∧ yX4_drop.cls ≠ "java/lang/invoke/VarHandle" ∧ (parseMethodDescriptor yX4_drop.desc).map (fun d => d.parameters.length) = some 1 := by decide +kernel
set_option maxHeartbeats 4000000 in
set_option maxRecDepth 100000 in
theorem c_X4_drop {l : Launch} {G : Gx} {q : Nat → Nat} {da : Nat} {qc qh qt qn qs qo : Nat → Nat} {V : VS} {x00 : NSt} {sr : OSt} {ta : (Nat → Int32)} {sc : NSt} {sh : NSt} {tb : (Nat × OSt)} {sn : NSt} {ss : OSt} {so : OSt} {a1 : Int32} {x : Int32 × Int32 × NSt} (hr : RH x00 V sr sc) (hf : r_drop sc a1 = some x) : QG l G yX4_drop wsX4_drop rmX4_drop 11 1661 [.ref (q 12), .int a1] (wR G q da qc qh qt qs qo (imO V) (paO V) sr ++ (wA G da 500 ta ++ (wN G qc sc ++ (wN G qh sh ++ (wT G qt tb.1 (qn 15) tb.2 ++ (wN G qn sn ++ (wS G qs ss ++ (wS G qo so ++ wV G V 14)))))))) (fun r w' => r = some (.int x.2.1) ∧ ∃ V' sr', ((x.1 = 0 ∧ V' = V ∧ sr' = sr) ∨ (x.1 = 1 ∧ REM x00 V sr sc V' sr')) ∧ w' = wR G q da qc qh qt qs qo (imO V') (paO V') sr' ++ (wA G da 500 ta ++ (wN G qc x.2.2 ++ (wN G qh sh ++ (wT G qt tb.1 (qn 15) tb.2 ++ (wN G qn sn ++ (wS G qs ss ++ (wS G qo so ++ wV G V' 14)))))))) := by
  refine QG.of (cc := cX4_drop) (maxL := 2) (ret := (some .int)) (by decide) rfl (Nat.le_of_ble_eq_true rfl) ?_
  intro p e s m below meth c A ls hmn C hD hP hS hl
  have hx := C.1
  have hb := C.2.1
  have hl : lv_has ls 2 [(0, .ref (q 12)), (1, .int a1)] := hl
  unfold r_drop at hf
  refine lv_aload_n hx hb dX4_drop_0 rfl (lv_at hl 0 rfl) ?_
  refine q_get (q0 := 0) C hP rfl rfl hiX4_drop_X4 2 (by decide) wdX4_drop_1 rfl dX4_drop_1 ?_
  refine lv_iload_n hx hb dX4_drop_4 rfl (lv_at hl 1 rfl) ?_
  obtain ⟨x1, hx1, hf⟩ := bd_some hf
  refine q_Vi C (rc := (RX0, TX0, 15)) (q0 := 5) (ci := 0) (ws' := wR G q da qc qh qt qs qo (imO V) (paO V) sr ++ (wA G da 500 ta ++ (wN G qc sc ++ (wN G qh sh ++ (wT G qt tb.1 (qn 15) tb.2 ++ (wN G qn sn ++ (wS G qs ss ++ (wS G qo so ++ wV G V 14)))))))) (c_X0_hasRoot (qn := qc) hx1) gX4_drop_X0_hasRoot rfl ⟨rfl, rfl⟩ hdX0_hasRoot ⟨(Nat.le_of_ble_eq_true rfl), (Nat.le_of_ble_eq_true rfl)⟩ rfl hP (dd_R hD) hS rfl rfl pr_2 pr_2.symm hl.1 (Nat.le_of_ble_eq_true rfl) ⟨(Nat.le_of_ble_eq_true rfl), (Nat.le_of_ble_eq_true rfl)⟩ rfl dX4_drop_5 (fun H locs hP hS => ?_)
  refine lv_if_eq (tgt := 22) hx hb dX4_drop_8 (by decide) (fun c2 => ?_) (fun c2 => ?_)
  · have hf := if_t c2 hf
    refine lv_iconst (v := (-1)) hx hb dX4_drop_22 (by decide) ?_
    obtain rfl := Option.some.inj hf
    exact q_Gi C ⟨rfl, _, _, Or.inl ⟨rfl, rfl, rfl⟩, rfl⟩ hP (dd_R hD) hS (Nat.le_of_ble_eq_true rfl) (Nat.le_of_ble_eq_true rfl) rfl rfl dX4_drop_23
  · have hf := if_f c2 hf
    refine lv_aload_n hx hb dX4_drop_11 rfl (lv_at hl 0 rfl) ?_
    refine q_get (q0 := 0) C hP rfl rfl hiX4_drop_X4 2 (by decide) wdX4_drop_1 rfl dX4_drop_12 ?_
    refine lv_iconst (v := 1) hx hb dX4_drop_15 (by decide) ?_
    obtain ⟨x3, hx3, hf⟩ := bd_some hf
    refine q_Vi C (rc := (RX0, TX0, 15)) (q0 := 5) (ci := 0) (ws' := wR G q da qc qh qt qs qo (imO V) (paO V) sr ++ (wA G da 500 ta ++ (wN G qc sc ++ (wN G qh sh ++ (wT G qt tb.1 (qn 15) tb.2 ++ (wN G qn sn ++ (wS G qs ss ++ (wS G qo so ++ wV G V 14)))))))) (c_X0_hasRoom (qn := qc) hx3) gX4_drop_X0_hasRoom rfl ⟨rfl, rfl⟩ hdX0_hasRoom ⟨(Nat.le_of_ble_eq_true rfl), (Nat.le_of_ble_eq_true rfl)⟩ rfl hP (dd_R hD) hS rfl rfl pr_2 pr_2.symm hl.1 (Nat.le_of_ble_eq_true rfl) ⟨(Nat.le_of_ble_eq_true rfl), (Nat.le_of_ble_eq_true rfl)⟩ rfl dX4_drop_16 (fun H locs hP hS => ?_)
    refine lv_if_ne (tgt := 24) hx hb dX4_drop_19 (by decide) (fun c4 => ?_) (fun c4 => ?_)
    · have hf := if_f c4 hf
      refine lv_aload_n hx hb dX4_drop_24 rfl (lv_at hl 0 rfl) ?_
      refine q_VG C (rc := (RX4, TX4, 12)) (q0 := 0) (ci := 4) (wr := []) (c_X4_remember (q := q) (da := da) (qc := qc) (qh := qh) (qt := qt) (qn := qn) (qs := qs) (qo := qo) (ta := ta) (sh := sh) (tb := tb) (sn := sn) (ss := ss) (so := so) hr) gX4_drop_X4_remember rfl ⟨rfl, rfl⟩ hdX4_remember ⟨(Nat.le_of_ble_eq_true rfl), (Nat.le_of_ble_eq_true rfl)⟩ rfl hP (dd_R hD) hS rfl rfl (List.Perm.refl _) hl.1 (Nat.le_of_ble_eq_true rfl) ⟨(Nat.le_of_ble_eq_true rfl), (Nat.le_of_ble_eq_true rfl)⟩ rfl dX4_drop_25 (fun r9 w9 H locs hBB hP hD hS => ?_)
      obtain ⟨rfl, V1, sr1, hrm, rfl⟩ := hBB
      have hP : va_P G.1 vwCl (wR G q da qc qh qt qs qo (imO V1) (paO V1) sr1 ++ (wA G da 500 ta ++ (wN G qc sc ++ (wN G qh sh ++ (wT G qt tb.1 (qn 15) tb.2 ++ (wN G qn sn ++ (wS G qs ss ++ (wS G qo so ++ wV G V1 14)))))))) H := hP
      have hD : va_D A (wR G q da qc qh qt qs qo (imO V1) (paO V1) sr1 ++ (wA G da 500 ta ++ (wN G qc sc ++ (wN G qh sh ++ (wT G qt tb.1 (qn 15) tb.2 ++ (wN G qn sn ++ (wS G qs ss ++ (wS G qo so ++ wV G V1 14)))))))) := hD
      refine lv_aload_n hx hb dX4_drop_28 rfl (lv_at hl 0 rfl) ?_
      refine q_get (q0 := 0) C hP rfl rfl hiX4_drop_X4 2 (by decide) wdX4_drop_1 rfl dX4_drop_29 ?_
      refine lv_iload_n hx hb dX4_drop_32 rfl (lv_at hl 1 rfl) ?_
      refine lv_iconst (v := 3) hx hb dX4_drop_33 (by decide) ?_
      refine lv_aload_n hx hb dX4_drop_34 rfl (lv_at hl 0 rfl) ?_
      refine q_get (q0 := 0) C hP rfl rfl hiX4_drop_X4 2 (by decide) wdX4_drop_1 rfl dX4_drop_35 ?_
      refine lv_iconst (v := 0) hx hb dX4_drop_38 (by decide) ?_
      obtain ⟨x5, hx5, hf⟩ := bd_some hf
      refine q_Vi C (rc := (RX0, TX0, 15)) (q0 := 5) (ci := 0) (ws' := wR G q da qc qh qt qs qo (imO V1) (paO V1) sr1 ++ (wA G da 500 ta ++ (wN G qc x5.2 ++ (wN G qh sh ++ (wT G qt tb.1 (qn 15) tb.2 ++ (wN G qn sn ++ (wS G qs ss ++ (wS G qo so ++ wV G V1 14)))))))) (c_X0_make (qn := qc) hx5) gX4_drop_X0_make rfl ⟨rfl, rfl⟩ hdX0_make ⟨(Nat.le_of_ble_eq_true rfl), (Nat.le_of_ble_eq_true rfl)⟩ rfl hP (dd_R hD) hS rfl rfl pr_2 pr_2.symm hl.1 (Nat.le_of_ble_eq_true rfl) ⟨(Nat.le_of_ble_eq_true rfl), (Nat.le_of_ble_eq_true rfl)⟩ rfl dX4_drop_39 (fun H locs hP hS => ?_)
      refine lv_imul hx hb dX4_drop_42 ?_
      obtain ⟨x6, hx6, hf⟩ := bd_some hf
      refine q_Vv C (rc := (RX0, TX0, 15)) (q0 := 5) (ci := 0) (ws' := wR G q da qc qh qt qs qo (imO V1) (paO V1) sr1 ++ (wA G da 500 ta ++ (wN G qc x6 ++ (wN G qh sh ++ (wT G qt tb.1 (qn 15) tb.2 ++ (wN G qn sn ++ (wS G qs ss ++ (wS G qo so ++ wV G V1 14)))))))) (c_X0_endRoot (qn := qc) hx6) gX4_drop_X0_endRoot rfl ⟨rfl, rfl⟩ hdX0_endRoot ⟨(Nat.le_of_ble_eq_true rfl), (Nat.le_of_ble_eq_true rfl)⟩ rfl hP (dd_R hD) hS rfl rfl pr_2 pr_2.symm hl.1 (Nat.le_of_ble_eq_true rfl) ⟨(Nat.le_of_ble_eq_true rfl), (Nat.le_of_ble_eq_true rfl)⟩ rfl dX4_drop_43 (fun H locs hP hS => ?_)
      refine lv_aload_n hx hb dX4_drop_46 rfl (lv_at hl 0 rfl) ?_
      refine q_get (q0 := 0) C hP rfl rfl hiX4_drop_X4 2 (by decide) wdX4_drop_1 rfl dX4_drop_47 ?_
      refine q_getN (q0 := 5) C hP rfl rfl hiX4_drop_X0 7 (by decide) (List.mem_of_getElem? (i := 4) rfl) rfl dX4_drop_50 ?_
      obtain rfl := Option.some.inj hf
      exact q_Gi C ⟨rfl, _, _, Or.inr ⟨rfl, hrm⟩, rfl⟩ hP (dd_R hD) hS (Nat.le_of_ble_eq_true rfl) (Nat.le_of_ble_eq_true rfl) rfl rfl dX4_drop_53
    · have hf := if_t c4 hf
      refine lv_iconst (v := (-1)) hx hb dX4_drop_22 (by decide) ?_
      obtain rfl := Option.some.inj hf
      exact q_Gi C ⟨rfl, _, _, Or.inl ⟨rfl, rfl, rfl⟩, rfl⟩ hP (dd_R hD) hS (Nat.le_of_ble_eq_true rfl) (Nat.le_of_ble_eq_true rfl) rfl rfl dX4_drop_23

-- X4_join
theorem hiX4_join_X4 : ∀ w ∈ u_ws RX4 TX4 12, w ∈ wsX4_join := mem_run (i := 115) (by decide +kernel)
theorem wdX4_join_1 : (Cond.fieldLink RX4 18 "CombinatorRing" "current" "LCombinatorRing$Net;") ∈ wsX4_join := List.mem_of_getElem? (i := 1) rfl
def r_join (sc : NSt) (a1 : Int32) (a2 : Int32) : Option (Int32 × Int32 × NSt) := if a1 = a2 then some (0, (-1), sc) else bd (n_hasRoot sc a1) fun x2 => if x2 = 0 then some (0, (-1), sc) else bd (n_hasRoot sc a2) fun x4 => if x4 = 0 then some (0, (-1), sc) else bd (n_joinRoots sc a1 a2) fun x6 => bd (n_rootsThere x6) fun x7 => some (1, x7, x6)
abbrev rmX4_join : Room := { frames := 5, cells := 11, slots := 1661, locals := 107 }
theorem hdX4_join : yX4_join.cls = RX4 ∧ yX4_join.cls ≠ "java/lang/invoke/MethodHandle" ∧ yX4_join.cls ≠ "java/lang/invoke/VarHandle" ∧ (parseMethodDescriptor yX4_join.desc).map (fun d => d.parameters.length) = some 2 := by decide +kernel
set_option maxHeartbeats 4000000 in
set_option maxRecDepth 100000 in
theorem c_X4_join {l : Launch} {G : Gx} {q : Nat → Nat} {da : Nat} {qc qh qt qn qs qo : Nat → Nat} {V : VS} {x00 : NSt} {sr : OSt} {ta : (Nat → Int32)} {sc : NSt} {sh : NSt} {tb : (Nat × OSt)} {sn : NSt} {ss : OSt} {so : OSt} {a1 : Int32} {a2 : Int32} {x : Int32 × Int32 × NSt} (hr : RH x00 V sr sc) (hf : r_join sc a1 a2 = some x) : QG l G yX4_join wsX4_join rmX4_join 11 1661 [.ref (q 12), .int a1, .int a2] (wR G q da qc qh qt qs qo (imO V) (paO V) sr ++ (wA G da 500 ta ++ (wN G qc sc ++ (wN G qh sh ++ (wT G qt tb.1 (qn 15) tb.2 ++ (wN G qn sn ++ (wS G qs ss ++ (wS G qo so ++ wV G V 14)))))))) (fun r w' => r = some (.int x.2.1) ∧ ∃ V' sr', ((x.1 = 0 ∧ V' = V ∧ sr' = sr) ∨ (x.1 = 1 ∧ REM x00 V sr sc V' sr')) ∧ w' = wR G q da qc qh qt qs qo (imO V') (paO V') sr' ++ (wA G da 500 ta ++ (wN G qc x.2.2 ++ (wN G qh sh ++ (wT G qt tb.1 (qn 15) tb.2 ++ (wN G qn sn ++ (wS G qs ss ++ (wS G qo so ++ wV G V' 14)))))))) := by
  refine QG.of (cc := cX4_join) (maxL := 3) (ret := (some .int)) (by decide) rfl (Nat.le_of_ble_eq_true rfl) ?_
  intro p e s m below meth c A ls hmn C hD hP hS hl
  have hx := C.1
  have hb := C.2.1
  have hl : lv_has ls 3 [(0, .ref (q 12)), (1, .int a1), (2, .int a2)] := hl
  unfold r_join at hf
  refine lv_iload_n hx hb dX4_join_0 rfl (lv_at hl 1 rfl) ?_
  refine lv_iload_n hx hb dX4_join_1 rfl (lv_at hl 2 rfl) ?_
  refine lv_icmp_eq (tgt := 27) hx hb dX4_join_2 (by decide) (fun c1 => ?_) (fun c1 => ?_)
  · have hf := if_t c1 hf
    refine lv_iconst (v := (-1)) hx hb dX4_join_27 (by decide) ?_
    obtain rfl := Option.some.inj hf
    exact q_Gi C ⟨rfl, _, _, Or.inl ⟨rfl, rfl, rfl⟩, rfl⟩ hP (dd_R hD) hS (Nat.le_of_ble_eq_true rfl) (Nat.le_of_ble_eq_true rfl) rfl rfl dX4_join_28
  · have hf := if_f c1 hf
    refine lv_aload_n hx hb dX4_join_5 rfl (lv_at hl 0 rfl) ?_
    refine q_get (q0 := 0) C hP rfl rfl hiX4_join_X4 2 (by decide) wdX4_join_1 rfl dX4_join_6 ?_
    refine lv_iload_n hx hb dX4_join_9 rfl (lv_at hl 1 rfl) ?_
    obtain ⟨x2, hx2, hf⟩ := bd_some hf
    refine q_Vi C (rc := (RX0, TX0, 15)) (q0 := 5) (ci := 0) (ws' := wR G q da qc qh qt qs qo (imO V) (paO V) sr ++ (wA G da 500 ta ++ (wN G qc sc ++ (wN G qh sh ++ (wT G qt tb.1 (qn 15) tb.2 ++ (wN G qn sn ++ (wS G qs ss ++ (wS G qo so ++ wV G V 14)))))))) (c_X0_hasRoot (qn := qc) hx2) gX4_join_X0_hasRoot rfl ⟨rfl, rfl⟩ hdX0_hasRoot ⟨(Nat.le_of_ble_eq_true rfl), (Nat.le_of_ble_eq_true rfl)⟩ rfl hP (dd_R hD) hS rfl rfl pr_2 pr_2.symm hl.1 (Nat.le_of_ble_eq_true rfl) ⟨(Nat.le_of_ble_eq_true rfl), (Nat.le_of_ble_eq_true rfl)⟩ rfl dX4_join_10 (fun H locs hP hS => ?_)
    refine lv_if_eq (tgt := 27) hx hb dX4_join_13 (by decide) (fun c3 => ?_) (fun c3 => ?_)
    · have hf := if_t c3 hf
      refine lv_iconst (v := (-1)) hx hb dX4_join_27 (by decide) ?_
      obtain rfl := Option.some.inj hf
      exact q_Gi C ⟨rfl, _, _, Or.inl ⟨rfl, rfl, rfl⟩, rfl⟩ hP (dd_R hD) hS (Nat.le_of_ble_eq_true rfl) (Nat.le_of_ble_eq_true rfl) rfl rfl dX4_join_28
    · have hf := if_f c3 hf
      refine lv_aload_n hx hb dX4_join_16 rfl (lv_at hl 0 rfl) ?_
      refine q_get (q0 := 0) C hP rfl rfl hiX4_join_X4 2 (by decide) wdX4_join_1 rfl dX4_join_17 ?_
      refine lv_iload_n hx hb dX4_join_20 rfl (lv_at hl 2 rfl) ?_
      obtain ⟨x4, hx4, hf⟩ := bd_some hf
      refine q_Vi C (rc := (RX0, TX0, 15)) (q0 := 5) (ci := 0) (ws' := wR G q da qc qh qt qs qo (imO V) (paO V) sr ++ (wA G da 500 ta ++ (wN G qc sc ++ (wN G qh sh ++ (wT G qt tb.1 (qn 15) tb.2 ++ (wN G qn sn ++ (wS G qs ss ++ (wS G qo so ++ wV G V 14)))))))) (c_X0_hasRoot (qn := qc) hx4) gX4_join_X0_hasRoot rfl ⟨rfl, rfl⟩ hdX0_hasRoot ⟨(Nat.le_of_ble_eq_true rfl), (Nat.le_of_ble_eq_true rfl)⟩ rfl hP (dd_R hD) hS rfl rfl pr_2 pr_2.symm hl.1 (Nat.le_of_ble_eq_true rfl) ⟨(Nat.le_of_ble_eq_true rfl), (Nat.le_of_ble_eq_true rfl)⟩ rfl dX4_join_21 (fun H locs hP hS => ?_)
      refine lv_if_ne (tgt := 29) hx hb dX4_join_24 (by decide) (fun c5 => ?_) (fun c5 => ?_)
      · have hf := if_f c5 hf
        refine lv_aload_n hx hb dX4_join_29 rfl (lv_at hl 0 rfl) ?_
        refine q_VG C (rc := (RX4, TX4, 12)) (q0 := 0) (ci := 4) (wr := []) (c_X4_remember (q := q) (da := da) (qc := qc) (qh := qh) (qt := qt) (qn := qn) (qs := qs) (qo := qo) (ta := ta) (sh := sh) (tb := tb) (sn := sn) (ss := ss) (so := so) hr) gX4_join_X4_remember rfl ⟨rfl, rfl⟩ hdX4_remember ⟨(Nat.le_of_ble_eq_true rfl), (Nat.le_of_ble_eq_true rfl)⟩ rfl hP (dd_R hD) hS rfl rfl (List.Perm.refl _) hl.1 (Nat.le_of_ble_eq_true rfl) ⟨(Nat.le_of_ble_eq_true rfl), (Nat.le_of_ble_eq_true rfl)⟩ rfl dX4_join_30 (fun r9 w9 H locs hBB hP hD hS => ?_)
        obtain ⟨rfl, V1, sr1, hrm, rfl⟩ := hBB
        have hP : va_P G.1 vwCl (wR G q da qc qh qt qs qo (imO V1) (paO V1) sr1 ++ (wA G da 500 ta ++ (wN G qc sc ++ (wN G qh sh ++ (wT G qt tb.1 (qn 15) tb.2 ++ (wN G qn sn ++ (wS G qs ss ++ (wS G qo so ++ wV G V1 14)))))))) H := hP
        have hD : va_D A (wR G q da qc qh qt qs qo (imO V1) (paO V1) sr1 ++ (wA G da 500 ta ++ (wN G qc sc ++ (wN G qh sh ++ (wT G qt tb.1 (qn 15) tb.2 ++ (wN G qn sn ++ (wS G qs ss ++ (wS G qo so ++ wV G V1 14)))))))) := hD
        refine lv_aload_n hx hb dX4_join_33 rfl (lv_at hl 0 rfl) ?_
        refine q_get (q0 := 0) C hP rfl rfl hiX4_join_X4 2 (by decide) wdX4_join_1 rfl dX4_join_34 ?_
        refine lv_iload_n hx hb dX4_join_37 rfl (lv_at hl 1 rfl) ?_
        refine lv_iload_n hx hb dX4_join_38 rfl (lv_at hl 2 rfl) ?_
        obtain ⟨x6, hx6, hf⟩ := bd_some hf
        refine q_Vv C (rc := (RX0, TX0, 15)) (q0 := 5) (ci := 0) (ws' := wR G q da qc qh qt qs qo (imO V1) (paO V1) sr1 ++ (wA G da 500 ta ++ (wN G qc x6 ++ (wN G qh sh ++ (wT G qt tb.1 (qn 15) tb.2 ++ (wN G qn sn ++ (wS G qs ss ++ (wS G qo so ++ wV G V1 14)))))))) (c_X0_joinRoots (qn := qc) hx6) gX4_join_X0_joinRoots rfl ⟨rfl, rfl⟩ hdX0_joinRoots ⟨(Nat.le_of_ble_eq_true rfl), (Nat.le_of_ble_eq_true rfl)⟩ rfl hP (dd_R hD) hS rfl rfl pr_2 pr_2.symm hl.1 (Nat.le_of_ble_eq_true rfl) ⟨(Nat.le_of_ble_eq_true rfl), (Nat.le_of_ble_eq_true rfl)⟩ rfl dX4_join_39 (fun H locs hP hS => ?_)
        refine lv_aload_n hx hb dX4_join_42 rfl (lv_at hl 0 rfl) ?_
        refine q_get (q0 := 0) C hP rfl rfl hiX4_join_X4 2 (by decide) wdX4_join_1 rfl dX4_join_43 ?_
        obtain ⟨x7, hx7, hf⟩ := bd_some hf
        refine q_Vi C (rc := (RX0, TX0, 15)) (q0 := 5) (ci := 0) (ws' := wR G q da qc qh qt qs qo (imO V1) (paO V1) sr1 ++ (wA G da 500 ta ++ (wN G qc x6 ++ (wN G qh sh ++ (wT G qt tb.1 (qn 15) tb.2 ++ (wN G qn sn ++ (wS G qs ss ++ (wS G qo so ++ wV G V1 14)))))))) (c_X0_rootsThere (qn := qc) hx7) gX4_join_X0_rootsThere rfl ⟨rfl, rfl⟩ hdX0_rootsThere ⟨(Nat.le_of_ble_eq_true rfl), (Nat.le_of_ble_eq_true rfl)⟩ rfl hP (dd_R hD) hS rfl rfl pr_2 pr_2.symm hl.1 (Nat.le_of_ble_eq_true rfl) ⟨(Nat.le_of_ble_eq_true rfl), (Nat.le_of_ble_eq_true rfl)⟩ rfl dX4_join_46 (fun H locs hP hS => ?_)
        obtain rfl := Option.some.inj hf
        exact q_Gi C ⟨rfl, _, _, Or.inr ⟨rfl, hrm⟩, rfl⟩ hP (dd_R hD) hS (Nat.le_of_ble_eq_true rfl) (Nat.le_of_ble_eq_true rfl) rfl rfl dX4_join_49
      · have hf := if_t c5 hf
        refine lv_iconst (v := (-1)) hx hb dX4_join_27 (by decide) ?_
        obtain rfl := Option.some.inj hf
        exact q_Gi C ⟨rfl, _, _, Or.inl ⟨rfl, rfl, rfl⟩, rfl⟩ hP (dd_R hD) hS (Nat.le_of_ble_eq_true rfl) (Nat.le_of_ble_eq_true rfl) rfl rfl dX4_join_28
