def wR (G : Gx) (q : Nat → Nat) (da : Nat) (qc qh qt qs qo : Nat → Nat) (im pa : Nat → Option Nat) (s : OSt) : va_W := [(q 12, .inr (4, [.ref da, .int (s.1 1), .ref (qc 15), .ref (qh 15), .ref (qt 14), .ref (qs 8), .ref (qo 8), .ref (q 7), .ref (q 8), .ref (q 9), .int (s.1 10), .int (s.1 11)])), (q 7, .inl (G.2.1 4, 2, .inr (.inr (.inr (.inr im))))), (q 8, .inl (G.2.1 2, 2, .inl (s.2 8))), (q 9, .inl (G.2.1 4, 12, .inr (.inr (.inr (.inr pa)))))]
theorem dd_R {A : Nat → Prop} {G : Gx} {q : Nat → Nat} {da : Nat} {qc qh qt qn qs qo : Nat → Nat} {im pa im' pa' : Nat → Option Nat} {yy : va_W} {sr sr' : OSt} {ta ta' : Nat → Int32} {sc sc' sh sh' sn sn' : NSt} {tb tb' : Nat × OSt} {ss ss' so so' : OSt} (h : va_D A (wR G q da qc qh qt qs qo im pa sr ++ (wA G da 500 ta ++ (wN G qc sc ++ (wN G qh sh ++ (wT G qt tb.1 (qn 15) tb.2 ++ (wN G qn sn ++ (wS G qs ss ++ (wS G qo so ++ yy))))))))) : va_D A (wR G q da qc qh qt qs qo im' pa' sr' ++ (wA G da 500 ta' ++ (wN G qc sc' ++ (wN G qh sh' ++ (wT G qt tb'.1 (qn 15) tb'.2 ++ (wN G qn sn' ++ (wS G qs ss' ++ (wS G qo so' ++ yy)))))))) := h.ad rfl
theorem pm_sub {w r n x y : va_W} (h1 : w.Perm (r ++ n)) (h2 : n.Perm (x ++ y)) : w.Perm ((r ++ x) ++ y) := by
  rw [List.append_assoc]
  exact h1.trans (List.Perm.append_left r h2)
theorem pr_415 {a b c d e f g h i : va_W} : (a ++ (b ++ (c ++ (d ++ (e ++ (f ++ (g ++ (h ++ i)))))))).Perm ((a ++ (c ++ (d ++ (g ++ (h ++ i))))) ++ (e ++ (b ++ f))) := by
  refine (List.Perm.append_left _ (List.Perm.append_left _ (List.Perm.append_left _ (List.Perm.append_left _ List.perm_append_comm)))).trans ?_
  simp only [List.append_assoc]
  refine (List.Perm.append_left _ List.perm_append_comm).trans ?_
  simp only [List.append_assoc]
  refine (List.Perm.append_left _ (List.Perm.append_left _ (List.Perm.append_left _ List.perm_append_comm))).trans ?_
  simp only [List.append_assoc]
  exact List.Perm.refl _
theorem pr_25 {a b c d e f g h i : va_W} : (a ++ (b ++ (c ++ (d ++ (e ++ (f ++ (g ++ (h ++ i)))))))).Perm ((a ++ (b ++ (d ++ (e ++ (g ++ (h ++ i)))))) ++ (c ++ f)) := by
  refine (List.Perm.append_left _ (List.Perm.append_left _ List.perm_append_comm)).trans ?_
  simp only [List.append_assoc]
  refine (List.Perm.append_left _ (List.Perm.append_left _ (List.Perm.append_left _ (List.Perm.append_left _ List.perm_append_comm)))).trans ?_
  simp only [List.append_assoc]
  exact List.Perm.refl _
theorem pr_2 {a b c d e f g h i : va_W} : (a ++ (b ++ (c ++ (d ++ (e ++ (f ++ (g ++ (h ++ i)))))))).Perm ((a ++ (b ++ (d ++ (e ++ (f ++ (g ++ (h ++ i))))))) ++ (c)) := by
  refine (List.Perm.append_left _ (List.Perm.append_left _ List.perm_append_comm)).trans ?_
  simp only [List.append_assoc]
  exact List.Perm.refl _
theorem pr_62 {a b c d e f g h i : va_W} : (a ++ (b ++ (c ++ (d ++ (e ++ (f ++ (g ++ (h ++ i)))))))).Perm ((a ++ (b ++ (d ++ (e ++ (f ++ (h ++ i)))))) ++ (g ++ c)) := by
  refine (List.Perm.append_left _ (List.Perm.append_left _ (List.Perm.append_left _ (List.Perm.append_left _ (List.Perm.append_left _ (List.Perm.append_left _ List.perm_append_comm)))))).trans ?_
  simp only [List.append_assoc]
  refine (List.Perm.append_left _ (List.Perm.append_left _ List.perm_append_comm)).trans ?_
  simp only [List.append_assoc]
  exact List.Perm.refl _
theorem pr_32 {a b c d e f g h i : va_W} : (a ++ (b ++ (c ++ (d ++ (e ++ (f ++ (g ++ (h ++ i)))))))).Perm ((a ++ (b ++ (e ++ (f ++ (g ++ (h ++ i)))))) ++ (d ++ c)) := by
  refine (List.Perm.append_left _ (List.Perm.append_left _ (List.Perm.append_left _ List.perm_append_comm))).trans ?_
  simp only [List.append_assoc]
  refine (List.Perm.append_left _ (List.Perm.append_left _ List.perm_append_comm)).trans ?_
  simp only [List.append_assoc]
  exact List.Perm.refl _
theorem pr_3 {a b c d e f g h i : va_W} : (a ++ (b ++ (c ++ (d ++ (e ++ (f ++ (g ++ (h ++ i)))))))).Perm ((a ++ (b ++ (c ++ (e ++ (f ++ (g ++ (h ++ i))))))) ++ (d)) := by
  refine (List.Perm.append_left _ (List.Perm.append_left _ (List.Perm.append_left _ List.perm_append_comm))).trans ?_
  simp only [List.append_assoc]
  exact List.Perm.refl _
theorem pr_63 {a b c d e f g h i : va_W} : (a ++ (b ++ (c ++ (d ++ (e ++ (f ++ (g ++ (h ++ i)))))))).Perm ((a ++ (b ++ (c ++ (e ++ (f ++ (h ++ i)))))) ++ (g ++ d)) := by
  refine (List.Perm.append_left _ (List.Perm.append_left _ (List.Perm.append_left _ (List.Perm.append_left _ (List.Perm.append_left _ (List.Perm.append_left _ List.perm_append_comm)))))).trans ?_
  simp only [List.append_assoc]
  refine (List.Perm.append_left _ (List.Perm.append_left _ (List.Perm.append_left _ List.perm_append_comm))).trans ?_
  simp only [List.append_assoc]
  exact List.Perm.refl _
theorem pr_73 {a b c d e f g h i : va_W} : (a ++ (b ++ (c ++ (d ++ (e ++ (f ++ (g ++ (h ++ i)))))))).Perm ((a ++ (b ++ (c ++ (e ++ (f ++ (g ++ i)))))) ++ (h ++ d)) := by
  refine (List.Perm.append_left _ (List.Perm.append_left _ (List.Perm.append_left _ (List.Perm.append_left _ (List.Perm.append_left _ (List.Perm.append_left _ (List.Perm.append_left _ List.perm_append_comm))))))).trans ?_
  simp only [List.append_assoc]
  refine (List.Perm.append_left _ (List.Perm.append_left _ (List.Perm.append_left _ List.perm_append_comm))).trans ?_
  simp only [List.append_assoc]
  exact List.Perm.refl _
theorem pr_67 {a b c d e f g h i : va_W} : (a ++ (b ++ (c ++ (d ++ (e ++ (f ++ (g ++ (h ++ i)))))))).Perm ((a ++ (b ++ (c ++ (d ++ (e ++ (f ++ i)))))) ++ (g ++ h)) := by
  refine (List.Perm.append_left _ (List.Perm.append_left _ (List.Perm.append_left _ (List.Perm.append_left _ (List.Perm.append_left _ (List.Perm.append_left _ List.perm_append_comm)))))).trans ?_
  simp only [List.append_assoc]
  refine (List.Perm.append_left _ (List.Perm.append_left _ (List.Perm.append_left _ (List.Perm.append_left _ (List.Perm.append_left _ (List.Perm.append_left _ List.perm_append_comm)))))).trans ?_
  simp only [List.append_assoc]
  exact List.Perm.refl _
-- X4_isOrder
def r_isOrder  (a1 : Int32) : Option (Int32) := if a1 < 0 then some 0 else if 3 ≤ a1 then some 0 else some 1
abbrev rmX4_isOrder : Room := { frames := 0, cells := 0, slots := 0, locals := 0 }
theorem hdX4_isOrder : yX4_isOrder.cls ≠ "java/lang/invoke/MethodHandle" ∧ yX4_isOrder.cls ≠ "java/lang/invoke/VarHandle" ∧ (parseMethodDescriptor yX4_isOrder.desc).map (fun d => d.parameters.length) = some 1 := by decide +kernel
set_option maxHeartbeats 4000000 in
set_option maxRecDepth 100000 in
theorem c_X4_isOrder {l : Launch} {G : Gx} {w : va_W}  {a1 : Int32} {x : Int32} (hf : r_isOrder a1 = some x) : QM l G yX4_isOrder wsX4_isOrder rmX4_isOrder [.int a1] (w) (w) (some (.int x)) := by
  refine QM.of (cc := cX4_isOrder) (maxL := 1) (ret := (some .boolean)) (by decide) rfl (Nat.le_of_ble_eq_true rfl) ?_
  intro p e s m below meth c A ls C hD hP hS hl
  have hx := C.1
  have hb := C.2.1
  have hl : lv_has ls 1 [(0, .int a1)] := hl
  unfold r_isOrder at hf
  refine lv_iload_n hx hb dX4_isOrder_0 rfl (lv_at hl 0 rfl) ?_
  refine lv_if_lt (tgt := 13) hx hb dX4_isOrder_1 (by decide) (fun c1 => ?_) (fun c1 => ?_)
  · have hf := if_t c1 hf
    refine lv_iconst (v := 0) hx hb dX4_isOrder_13 (by decide) ?_
    obtain rfl := Option.some.inj hf
    exact q_zret C hP hS rfl (gb_nar (Or.inl rfl)) dX4_isOrder_14
  · have hf := if_f c1 hf
    refine lv_iload_n hx hb dX4_isOrder_4 rfl (lv_at hl 0 rfl) ?_
    refine lv_iconst (v := 3) hx hb dX4_isOrder_5 (by decide) ?_
    refine lv_icmp_ge (tgt := 13) hx hb dX4_isOrder_6 (by decide) (fun c2 => ?_) (fun c2 => ?_)
    · have hf := if_t c2 hf
      refine lv_iconst (v := 0) hx hb dX4_isOrder_13 (by decide) ?_
      obtain rfl := Option.some.inj hf
      exact q_zret C hP hS rfl (gb_nar (Or.inl rfl)) dX4_isOrder_14
    · have hf := if_f c2 hf
      refine lv_iconst (v := 1) hx hb dX4_isOrder_9 (by decide) ?_
      refine lv_goto (tgt := 14) hx hb dX4_isOrder_10 (by decide) ?_
      obtain rfl := Option.some.inj hf
      exact q_zret C hP hS rfl (gb_nar (Or.inr rfl)) dX4_isOrder_14

-- X4_isStepLimit
def r_isStepLimit  (a1 : Int32) : Option (Int32) := if a1 < 0 then some 0 else if 9999 < a1 then some 0 else some 1
abbrev rmX4_isStepLimit : Room := { frames := 0, cells := 0, slots := 0, locals := 0 }
theorem hdX4_isStepLimit : yX4_isStepLimit.cls ≠ "java/lang/invoke/MethodHandle" ∧ yX4_isStepLimit.cls ≠ "java/lang/invoke/VarHandle" ∧ (parseMethodDescriptor yX4_isStepLimit.desc).map (fun d => d.parameters.length) = some 1 := by decide +kernel
set_option maxHeartbeats 4000000 in
set_option maxRecDepth 100000 in
theorem c_X4_isStepLimit {l : Launch} {G : Gx} {w : va_W}  {a1 : Int32} {x : Int32} (hf : r_isStepLimit a1 = some x) : QM l G yX4_isStepLimit wsX4_isStepLimit rmX4_isStepLimit [.int a1] (w) (w) (some (.int x)) := by
  refine QM.of (cc := cX4_isStepLimit) (maxL := 1) (ret := (some .boolean)) (by decide) rfl (Nat.le_of_ble_eq_true rfl) ?_
  intro p e s m below meth c A ls C hD hP hS hl
  have hx := C.1
  have hb := C.2.1
  have hl : lv_has ls 1 [(0, .int a1)] := hl
  unfold r_isStepLimit at hf
  refine lv_iload_n hx hb dX4_isStepLimit_0 rfl (lv_at hl 0 rfl) ?_
  refine lv_if_lt (tgt := 15) hx hb dX4_isStepLimit_1 (by decide) (fun c1 => ?_) (fun c1 => ?_)
  · have hf := if_t c1 hf
    refine lv_iconst (v := 0) hx hb dX4_isStepLimit_15 (by decide) ?_
    obtain rfl := Option.some.inj hf
    exact q_zret C hP hS rfl (gb_nar (Or.inl rfl)) dX4_isStepLimit_16
  · have hf := if_f c1 hf
    refine lv_iload_n hx hb dX4_isStepLimit_4 rfl (lv_at hl 0 rfl) ?_
    refine lv_sipush (v := 9999) hx hb dX4_isStepLimit_5 (by decide) ?_
    refine lv_icmp_gt (tgt := 15) hx hb dX4_isStepLimit_8 (by decide) (fun c2 => ?_) (fun c2 => ?_)
    · have hf := if_t c2 hf
      refine lv_iconst (v := 0) hx hb dX4_isStepLimit_15 (by decide) ?_
      obtain rfl := Option.some.inj hf
      exact q_zret C hP hS rfl (gb_nar (Or.inl rfl)) dX4_isStepLimit_16
    · have hf := if_f c2 hf
      refine lv_iconst (v := 1) hx hb dX4_isStepLimit_11 (by decide) ?_
      refine lv_goto (tgt := 16) hx hb dX4_isStepLimit_12 (by decide) ?_
      obtain rfl := Option.some.inj hf
      exact q_zret C hP hS rfl (gb_nar (Or.inr rfl)) dX4_isStepLimit_16

-- X4_feedBytes
theorem hiX4_feedBytes_X4 : ∀ w ∈ u_ws RX4 TX4 12, w ∈ wsX4_feedBytes := mem_run (i := 3) (by decide +kernel)
theorem wdX4_feedBytes_1 : (Cond.fieldLink RX4 53 "CombinatorRing" "tapeLength" "I") ∈ wsX4_feedBytes := List.mem_of_getElem? (i := 1) rfl
theorem wdX4_feedBytes_2 : (Cond.fieldLink RX4 9 "CombinatorRing" "tape" "[I") ∈ wsX4_feedBytes := List.mem_of_getElem? (i := 2) rfl
def r_feedBytes_3 : Nat → OSt → (Nat → Int32) → Int32 → Int32 → Option (OSt × (Nat → Int32))
  | 0, _, _, _, _ => none
  | n + 1, sr, ta, v1, v2 => if v2 < 0 then some (sr, ta) else if 500 ≤ (sr.1 1) then r_feedBytes_3 n sr ta v1 (v2 + (-8)) else gd (sr.1 1) 500 (nm (upd ta (sr.1 1).toNatClampNeg ((v1.toUInt32 >>> ((v2 : Int32).toUInt32 &&& Int32.toUInt32 31)).toInt32 &&& 255)) fun s4 => nm (sI sr 1 ((sr.1 1) + 1)) fun s5 => r_feedBytes_3 n s5 s4 v1 (v2 + (-8)))
def r_feedBytes (sr : OSt) (ta : (Nat → Int32)) (a1 : Int32) : Option (OSt × (Nat → Int32)) := bd (r_feedBytes_3 20000 sr ta a1 24) fun x1 => some (x1.1, x1.2)
abbrev rmX4_feedBytes : Room := { frames := 0, cells := 0, slots := 0, locals := 0 }
theorem hdX4_feedBytes : yX4_feedBytes.cls = RX4 ∧ yX4_feedBytes.cls ≠ "java/lang/invoke/MethodHandle" ∧ yX4_feedBytes.cls ≠ "java/lang/invoke/VarHandle" ∧ (parseMethodDescriptor yX4_feedBytes.desc).map (fun d => d.parameters.length) = some 1 := by decide +kernel
set_option maxHeartbeats 4000000 in
set_option maxRecDepth 100000 in
theorem t_X4_feedBytes_3 {p : Program} {l : Launch} {e : Env} {s : State} {m : MethodId} {args : Array Value} {below : List Frame} {meth : Method} {c : Code} {Q : State → Prop} {A : Nat → Prop} {G : Gx} {q : Nat → Nat} {da : Nat} {qc qh qt qn qs qo : Nat → Nat} {im pa : Nat → Option Nat} {yy : va_W} {sr0 : OSt} {ta0 : (Nat → Int32)} {sc0 : NSt} {sh0 : NSt} {tb0 : (Nat × OSt)} {sn0 : NSt} {ss0 : OSt} {so0 : OSt} (C : Cx p s m args meth c G cX4_feedBytes wsX4_feedBytes RX4 none 3 A) (hD : va_D A (wR G q da qc qh qt qs qo im pa sr0 ++ (wA G da 500 ta0 ++ (wN G qc sc0 ++ (wN G qh sh0 ++ (wT G qt tb0.1 (qn 15) tb0.2 ++ (wN G qn sn0 ++ (wS G qs ss0 ++ (wS G qo so0 ++ yy))))))))) :
    ∀ {n : Nat} {sr : OSt} {ta : (Nat → Int32)} {sc : NSt} {sh : NSt} {tb : (Nat × OSt)} {sn : NSt} {ss : OSt} {so : OSt} {v1 : Int32} {v2 : Int32} {x : OSt × (Nat → Int32)}, r_feedBytes_3 n sr ta v1 v2 = some x → ∀ {H : Heap} {locs : List Loc} {ls : Array Slot}, va_P G.1 vwCl (wR G q da qc qh qt qs qo im pa sr ++ (wA G da 500 ta ++ (wN G qc sc ++ (wN G qh sh ++ (wT G qt tb.1 (qn 15) tb.2 ++ (wN G qn sn ++ (wS G qs ss ++ (wS G qo so ++ yy)))))))) H → va_S A s.heap H locs → lv_has ls 3 [(0, .ref (q 12)), (1, .int v1), (2, .int v2)] → (∀ {H : Heap} {locs : List Loc} {ls : Array Slot}, va_P G.1 vwCl (wR G q da qc qh qt qs qo im pa x.1 ++ (wA G da 500 x.2 ++ (wN G qc sc ++ (wN G qh sh ++ (wT G qt tb.1 (qn 15) tb.2 ++ (wN G qn sn ++ (wS G qs ss ++ (wS G qo so ++ yy)))))))) H → va_S A s.heap H locs → lv_has ls 3 [] → W p l e rmX4_feedBytes s m args below meth c H locs 0 0 Q (F0 m 49 ls [])) → W p l e rmX4_feedBytes s m args below meth c H locs 0 0 Q (F0 m 3 ls []) := by
  have hx := C.1
  have hb := C.2.1
  intro n
  induction n with
  | zero => intro sr ta sc sh tb sn ss so v1 v2 x hf; cases hf
  | succ n ih =>
    intro sr ta sc sh tb sn ss so v1 v2 x hf H locs ls hP hS hl kk
    rw [r_feedBytes_3] at hf
    refine lv_iload_n hx hb dX4_feedBytes_3 rfl (lv_at hl 2 rfl) ?_
    refine lv_if_lt (tgt := 49) hx hb dX4_feedBytes_4 (by decide) (fun c2 => ?_) (fun c2 => ?_)
    · have hf := if_t c2 hf
      obtain rfl := Option.some.inj hf
      exact kk hP hS (lv_sub hl [] rfl)
    · have hf := if_f c2 hf
      refine lv_aload_n hx hb dX4_feedBytes_7 rfl (lv_at hl 0 rfl) ?_
      refine q_get (q0 := 0) C hP rfl rfl hiX4_feedBytes_X4 1 (by decide) wdX4_feedBytes_1 rfl dX4_feedBytes_8 ?_
      refine lv_sipush (v := 500) hx hb dX4_feedBytes_11 (by decide) ?_
      refine lv_icmp_ge (tgt := 43) hx hb dX4_feedBytes_14 (by decide) (fun c3 => ?_) (fun c3 => ?_)
      · have hf := if_t c3 hf
        refine lv_iinc (v := (v2 + (-8))) (lv' := [(2, .int (v2 + (-8))), (0, .ref (q 12)), (1, .int v1)]) hx hb dX4_feedBytes_43 hl (k := 2) rfl rfl (by decide) rfl (fun ls hl => ?_)
        refine lv_goto (tgt := 3) hx hb dX4_feedBytes_46 (by decide) ?_
        exact ih hf hP hS (lv_sub hl [1, 2, 0] rfl) kk
      · have hf := if_f c3 hf
        refine lv_aload_n hx hb dX4_feedBytes_17 rfl (lv_at hl 0 rfl) ?_
        refine q_get (q0 := 0) C hP rfl rfl hiX4_feedBytes_X4 0 (by decide) wdX4_feedBytes_2 rfl dX4_feedBytes_18 ?_
        refine lv_aload_n hx hb dX4_feedBytes_21 rfl (lv_at hl 0 rfl) ?_
        refine q_get (q0 := 0) C hP rfl rfl hiX4_feedBytes_X4 1 (by decide) wdX4_feedBytes_1 rfl dX4_feedBytes_22 ?_
        refine lv_iload_n hx hb dX4_feedBytes_25 rfl (lv_at hl 1 rfl) ?_
        refine lv_iload_n hx hb dX4_feedBytes_26 rfl (lv_at hl 2 rfl) ?_
        refine lv_iushr hx hb dX4_feedBytes_27 rfl ?_
        refine lv_sipush (v := 255) hx hb dX4_feedBytes_28 (by decide) ?_
        refine lv_iand hx hb dX4_feedBytes_31 ?_
        obtain ⟨hin, hf⟩ := gd_some hf
        obtain ⟨s4, es4, hf⟩ := nm_ex hf
        refine q_iast C hP (dd_R hD) hS (q0 := 4) rfl rfl rfl hin dX4_feedBytes_32 (fun H locs hP hS => ?_)
        have hP : va_P G.1 vwCl (wR G q da qc qh qt qs qo im pa sr ++ (wA G da 500 s4 ++ (wN G qc sc ++ (wN G qh sh ++ (wT G qt tb.1 (qn 15) tb.2 ++ (wN G qn sn ++ (wS G qs ss ++ (wS G qo so ++ yy)))))))) H := by rw [← es4]; exact hP
        refine lv_aload_n hx hb dX4_feedBytes_33 rfl (lv_at hl 0 rfl) ?_
        refine lv_dup hx hb dX4_feedBytes_34 rfl ?_
        refine q_get (q0 := 0) C hP rfl rfl hiX4_feedBytes_X4 1 (by decide) wdX4_feedBytes_1 rfl dX4_feedBytes_35 ?_
        refine lv_iconst (v := 1) hx hb dX4_feedBytes_38 (by decide) ?_
        refine lv_iadd hx hb dX4_feedBytes_39 ?_
        obtain ⟨s5, es5, hf⟩ := nm_ex hf
        refine q_put C hP (dd_R hD) hS (q0 := 0) rfl rfl hiX4_feedBytes_X4 tyX4_ok nmX4 1 (by decide) wdX4_feedBytes_1 rfl rfl rfl (Nat.le_of_ble_eq_true rfl) rfl dX4_feedBytes_40 (fun H locs hP hS => ?_)
        have hP : va_P G.1 vwCl (wR G q da qc qh qt qs qo im pa s5 ++ (wA G da 500 s4 ++ (wN G qc sc ++ (wN G qh sh ++ (wT G qt tb.1 (qn 15) tb.2 ++ (wN G qn sn ++ (wS G qs ss ++ (wS G qo so ++ yy)))))))) H := by rw [← es5]; exact hP
        refine lv_iinc (v := (v2 + (-8))) (lv' := [(2, .int (v2 + (-8))), (0, .ref (q 12)), (1, .int v1)]) hx hb dX4_feedBytes_43 hl (k := 2) rfl rfl (by decide) rfl (fun ls hl => ?_)
        refine lv_goto (tgt := 3) hx hb dX4_feedBytes_46 (by decide) ?_
        exact ih hf hP hS (lv_sub hl [1, 2, 0] rfl) kk
set_option maxHeartbeats 4000000 in
set_option maxRecDepth 100000 in
theorem c_X4_feedBytes {l : Launch} {G : Gx} {q : Nat → Nat} {da : Nat} {qc qh qt qn qs qo : Nat → Nat} {im pa : Nat → Option Nat} {yy : va_W} {sr : OSt} {ta : (Nat → Int32)} {sc : NSt} {sh : NSt} {tb : (Nat × OSt)} {sn : NSt} {ss : OSt} {so : OSt} {a1 : Int32} {x : OSt × (Nat → Int32)} (hf : r_feedBytes sr ta a1 = some x) : QM l G yX4_feedBytes wsX4_feedBytes rmX4_feedBytes [.ref (q 12), .int a1] (wR G q da qc qh qt qs qo im pa sr ++ (wA G da 500 ta ++ (wN G qc sc ++ (wN G qh sh ++ (wT G qt tb.1 (qn 15) tb.2 ++ (wN G qn sn ++ (wS G qs ss ++ (wS G qo so ++ yy)))))))) (wR G q da qc qh qt qs qo im pa x.1 ++ (wA G da 500 x.2 ++ (wN G qc sc ++ (wN G qh sh ++ (wT G qt tb.1 (qn 15) tb.2 ++ (wN G qn sn ++ (wS G qs ss ++ (wS G qo so ++ yy)))))))) none := by
  refine QM.of (cc := cX4_feedBytes) (maxL := 3) (ret := none) (by decide) rfl (Nat.le_of_ble_eq_true rfl) ?_
  intro p e s m below meth c A ls C hD hP hS hl
  have hx := C.1
  have hb := C.2.1
  have hl : lv_has ls 3 [(0, .ref (q 12)), (1, .int a1)] := hl
  unfold r_feedBytes at hf
  refine lv_bipush (v := 24) hx hb dX4_feedBytes_0 (by decide) ?_
  refine lv_istore_n (lv' := [(2, .int 24), (0, .ref (q 12)), (1, .int a1)]) hx hb dX4_feedBytes_2 rfl hl (by decide) rfl (fun ls hl => ?_)
  obtain ⟨x1, hx1, hf⟩ := bd_some hf
  refine t_X4_feedBytes_3 C hD hx1 hP hS (lv_sub hl [1, 2, 0] rfl) (fun {H locs ls} hP hS hl => ?_)
  obtain rfl := Option.some.inj hf
  exact q_vret C hP hS rfl dX4_feedBytes_49

-- X4_feed
theorem hiX4_feed_X4 : ∀ w ∈ u_ws RX4 TX4 12, w ∈ wsX4_feed := mem_run (i := 8) (by decide +kernel)
theorem wdX4_feed_1 : (Cond.fieldLink RX4 53 "CombinatorRing" "tapeLength" "I") ∈ wsX4_feed := List.mem_of_getElem? (i := 1) rfl
def r_feed (sr : OSt) (ta : (Nat → Int32)) (a1 : Int32) (a2 : Int32) (a3 : Int32) (a4 : Int32) (a5 : Int32) : Option (Int32 × OSt × (Nat → Int32)) := if ((sr.1 1) + 20) ≤ 500 then bd (r_feedBytes sr ta a1) fun x2 => bd (r_feedBytes x2.1 x2.2 a2) fun x3 => bd (r_feedBytes x3.1 x3.2 a3) fun x4 => bd (r_feedBytes x4.1 x4.2 a4) fun x5 => bd (r_feedBytes x5.1 x5.2 a5) fun x6 => some ((x6.1.1 1), x6.1, x6.2) else some ((-1), sr, ta)
abbrev rmX4_feed : Room := { frames := 1, cells := 0, slots := 0, locals := 22 }
theorem hdX4_feed : yX4_feed.cls = RX4 ∧ yX4_feed.cls ≠ "java/lang/invoke/MethodHandle" ∧ yX4_feed.cls ≠ "java/lang/invoke/VarHandle" ∧ (parseMethodDescriptor yX4_feed.desc).map (fun d => d.parameters.length) = some 5 := by decide +kernel
set_option maxHeartbeats 4000000 in
set_option maxRecDepth 100000 in
theorem c_X4_feed {l : Launch} {G : Gx} {q : Nat → Nat} {da : Nat} {qc qh qt qn qs qo : Nat → Nat} {im pa : Nat → Option Nat} {yy : va_W} {sr : OSt} {ta : (Nat → Int32)} {sc : NSt} {sh : NSt} {tb : (Nat × OSt)} {sn : NSt} {ss : OSt} {so : OSt} {a1 : Int32} {a2 : Int32} {a3 : Int32} {a4 : Int32} {a5 : Int32} {x : Int32 × OSt × (Nat → Int32)} (hf : r_feed sr ta a1 a2 a3 a4 a5 = some x) : QM l G yX4_feed wsX4_feed rmX4_feed [.ref (q 12), .int a1, .int a2, .int a3, .int a4, .int a5] (wR G q da qc qh qt qs qo im pa sr ++ (wA G da 500 ta ++ (wN G qc sc ++ (wN G qh sh ++ (wT G qt tb.1 (qn 15) tb.2 ++ (wN G qn sn ++ (wS G qs ss ++ (wS G qo so ++ yy)))))))) (wR G q da qc qh qt qs qo im pa x.2.1 ++ (wA G da 500 x.2.2 ++ (wN G qc sc ++ (wN G qh sh ++ (wT G qt tb.1 (qn 15) tb.2 ++ (wN G qn sn ++ (wS G qs ss ++ (wS G qo so ++ yy)))))))) (some (.int x.1)) := by
  refine QM.of (cc := cX4_feed) (maxL := 6) (ret := (some .int)) (by decide) rfl (Nat.le_of_ble_eq_true rfl) ?_
  intro p e s m below meth c A ls C hD hP hS hl
  have hx := C.1
  have hb := C.2.1
  have hl : lv_has ls 6 [(0, .ref (q 12)), (1, .int a1), (2, .int a2), (3, .int a3), (4, .int a4), (5, .int a5)] := hl
  unfold r_feed at hf
  refine lv_aload_n hx hb dX4_feed_0 rfl (lv_at hl 0 rfl) ?_
  refine q_get (q0 := 0) C hP rfl rfl hiX4_feed_X4 1 (by decide) wdX4_feed_1 rfl dX4_feed_1 ?_
  refine lv_bipush (v := 20) hx hb dX4_feed_4 (by decide) ?_
  refine lv_iadd hx hb dX4_feed_6 ?_
  refine lv_sipush (v := 500) hx hb dX4_feed_7 (by decide) ?_
  refine lv_icmp_le (tgt := 15) hx hb dX4_feed_10 (by decide) (fun c1 => ?_) (fun c1 => ?_)
  · have hf := if_t c1 hf
    refine lv_aload_n hx hb dX4_feed_15 rfl (lv_at hl 0 rfl) ?_
    refine lv_iload_n hx hb dX4_feed_16 rfl (lv_at hl 1 rfl) ?_
    obtain ⟨x2, hx2, hf⟩ := bd_some hf
    refine q_Vv C (rc := (RX4, TX4, 12)) (q0 := 0) (ci := 4) (ws' := wR G q da qc qh qt qs qo im pa x2.1 ++ (wA G da 500 x2.2 ++ (wN G qc sc ++ (wN G qh sh ++ (wT G qt tb.1 (qn 15) tb.2 ++ (wN G qn sn ++ (wS G qs ss ++ (wS G qo so ++ yy)))))))) (wr := []) (c_X4_feedBytes hx2) gX4_feed_X4_feedBytes rfl ⟨rfl, rfl⟩ hdX4_feedBytes ⟨(Nat.le_of_ble_eq_true rfl), (Nat.le_of_ble_eq_true rfl)⟩ rfl hP (dd_R hD) hS rfl rfl (List.Perm.refl _) (List.Perm.refl _) hl.1 (Nat.le_of_ble_eq_true rfl) ⟨Nat.zero_le _, Nat.zero_le _⟩ rfl dX4_feed_17 (fun H locs hP hS => ?_)
    refine lv_aload_n hx hb dX4_feed_20 rfl (lv_at hl 0 rfl) ?_
    refine lv_iload_n hx hb dX4_feed_21 rfl (lv_at hl 2 rfl) ?_
    obtain ⟨x3, hx3, hf⟩ := bd_some hf
    refine q_Vv C (rc := (RX4, TX4, 12)) (q0 := 0) (ci := 4) (ws' := wR G q da qc qh qt qs qo im pa x3.1 ++ (wA G da 500 x3.2 ++ (wN G qc sc ++ (wN G qh sh ++ (wT G qt tb.1 (qn 15) tb.2 ++ (wN G qn sn ++ (wS G qs ss ++ (wS G qo so ++ yy)))))))) (wr := []) (c_X4_feedBytes hx3) gX4_feed_X4_feedBytes rfl ⟨rfl, rfl⟩ hdX4_feedBytes ⟨(Nat.le_of_ble_eq_true rfl), (Nat.le_of_ble_eq_true rfl)⟩ rfl hP (dd_R hD) hS rfl rfl (List.Perm.refl _) (List.Perm.refl _) hl.1 (Nat.le_of_ble_eq_true rfl) ⟨Nat.zero_le _, Nat.zero_le _⟩ rfl dX4_feed_22 (fun H locs hP hS => ?_)
    refine lv_aload_n hx hb dX4_feed_25 rfl (lv_at hl 0 rfl) ?_
    refine lv_iload_n hx hb dX4_feed_26 rfl (lv_at hl 3 rfl) ?_
    obtain ⟨x4, hx4, hf⟩ := bd_some hf
    refine q_Vv C (rc := (RX4, TX4, 12)) (q0 := 0) (ci := 4) (ws' := wR G q da qc qh qt qs qo im pa x4.1 ++ (wA G da 500 x4.2 ++ (wN G qc sc ++ (wN G qh sh ++ (wT G qt tb.1 (qn 15) tb.2 ++ (wN G qn sn ++ (wS G qs ss ++ (wS G qo so ++ yy)))))))) (wr := []) (c_X4_feedBytes hx4) gX4_feed_X4_feedBytes rfl ⟨rfl, rfl⟩ hdX4_feedBytes ⟨(Nat.le_of_ble_eq_true rfl), (Nat.le_of_ble_eq_true rfl)⟩ rfl hP (dd_R hD) hS rfl rfl (List.Perm.refl _) (List.Perm.refl _) hl.1 (Nat.le_of_ble_eq_true rfl) ⟨Nat.zero_le _, Nat.zero_le _⟩ rfl dX4_feed_27 (fun H locs hP hS => ?_)
    refine lv_aload_n hx hb dX4_feed_30 rfl (lv_at hl 0 rfl) ?_
    refine lv_iload hx hb dX4_feed_31 (lv_at hl 4 rfl) ?_
    obtain ⟨x5, hx5, hf⟩ := bd_some hf
    refine q_Vv C (rc := (RX4, TX4, 12)) (q0 := 0) (ci := 4) (ws' := wR G q da qc qh qt qs qo im pa x5.1 ++ (wA G da 500 x5.2 ++ (wN G qc sc ++ (wN G qh sh ++ (wT G qt tb.1 (qn 15) tb.2 ++ (wN G qn sn ++ (wS G qs ss ++ (wS G qo so ++ yy)))))))) (wr := []) (c_X4_feedBytes hx5) gX4_feed_X4_feedBytes rfl ⟨rfl, rfl⟩ hdX4_feedBytes ⟨(Nat.le_of_ble_eq_true rfl), (Nat.le_of_ble_eq_true rfl)⟩ rfl hP (dd_R hD) hS rfl rfl (List.Perm.refl _) (List.Perm.refl _) hl.1 (Nat.le_of_ble_eq_true rfl) ⟨Nat.zero_le _, Nat.zero_le _⟩ rfl dX4_feed_33 (fun H locs hP hS => ?_)
    refine lv_aload_n hx hb dX4_feed_36 rfl (lv_at hl 0 rfl) ?_
    refine lv_iload hx hb dX4_feed_37 (lv_at hl 5 rfl) ?_
    obtain ⟨x6, hx6, hf⟩ := bd_some hf
    refine q_Vv C (rc := (RX4, TX4, 12)) (q0 := 0) (ci := 4) (ws' := wR G q da qc qh qt qs qo im pa x6.1 ++ (wA G da 500 x6.2 ++ (wN G qc sc ++ (wN G qh sh ++ (wT G qt tb.1 (qn 15) tb.2 ++ (wN G qn sn ++ (wS G qs ss ++ (wS G qo so ++ yy)))))))) (wr := []) (c_X4_feedBytes hx6) gX4_feed_X4_feedBytes rfl ⟨rfl, rfl⟩ hdX4_feedBytes ⟨(Nat.le_of_ble_eq_true rfl), (Nat.le_of_ble_eq_true rfl)⟩ rfl hP (dd_R hD) hS rfl rfl (List.Perm.refl _) (List.Perm.refl _) hl.1 (Nat.le_of_ble_eq_true rfl) ⟨Nat.zero_le _, Nat.zero_le _⟩ rfl dX4_feed_39 (fun H locs hP hS => ?_)
    refine lv_aload_n hx hb dX4_feed_42 rfl (lv_at hl 0 rfl) ?_
    refine q_get (q0 := 0) C hP rfl rfl hiX4_feed_X4 1 (by decide) wdX4_feed_1 rfl dX4_feed_43 ?_
    obtain rfl := Option.some.inj hf
    exact q_iret C hP hS rfl dX4_feed_46
  · have hf := if_f c1 hf
    refine lv_iconst (v := (-1)) hx hb dX4_feed_13 (by decide) ?_
    obtain rfl := Option.some.inj hf
    exact q_iret C hP hS rfl dX4_feed_14

-- X4_forgetPast
theorem hiX4_forgetPast_X4 : ∀ w ∈ u_ws RX4 TX4 12, w ∈ wsX4_forgetPast := mem_run (i := 3) (by decide +kernel)
theorem wdX4_forgetPast_2 : (Cond.fieldLink RX4 60 "CombinatorRing" "pastCount" "I") ∈ wsX4_forgetPast := List.mem_of_getElem? (i := 2) rfl
theorem wdX4_forgetPast_1 : (Cond.fieldLink RX4 57 "CombinatorRing" "pastFirst" "I") ∈ wsX4_forgetPast := List.mem_of_getElem? (i := 1) rfl
def r_forgetPast (sr : OSt)  : Option (OSt) := nm (sI sr 10 0) fun s1 => nm (sI s1 11 0) fun s2 => some s2
abbrev rmX4_forgetPast : Room := { frames := 0, cells := 0, slots := 0, locals := 0 }
theorem hdX4_forgetPast : yX4_forgetPast.cls = RX4 ∧ yX4_forgetPast.cls ≠ "java/lang/invoke/MethodHandle" ∧ yX4_forgetPast.cls ≠ "java/lang/invoke/VarHandle" ∧ (parseMethodDescriptor yX4_forgetPast.desc).map (fun d => d.parameters.length) = some 0 := by decide +kernel
set_option maxHeartbeats 4000000 in
set_option maxRecDepth 100000 in
theorem c_X4_forgetPast {l : Launch} {G : Gx} {q : Nat → Nat} {da : Nat} {qc qh qt qn qs qo : Nat → Nat} {im pa : Nat → Option Nat} {yy : va_W} {sr : OSt} {ta : (Nat → Int32)} {sc : NSt} {sh : NSt} {tb : (Nat × OSt)} {sn : NSt} {ss : OSt} {so : OSt}  {x : OSt} (hf : r_forgetPast sr = some x) : QM l G yX4_forgetPast wsX4_forgetPast rmX4_forgetPast [.ref (q 12)] (wR G q da qc qh qt qs qo im pa sr ++ (wA G da 500 ta ++ (wN G qc sc ++ (wN G qh sh ++ (wT G qt tb.1 (qn 15) tb.2 ++ (wN G qn sn ++ (wS G qs ss ++ (wS G qo so ++ yy)))))))) (wR G q da qc qh qt qs qo im pa x ++ (wA G da 500 ta ++ (wN G qc sc ++ (wN G qh sh ++ (wT G qt tb.1 (qn 15) tb.2 ++ (wN G qn sn ++ (wS G qs ss ++ (wS G qo so ++ yy)))))))) none := by
  refine QM.of (cc := cX4_forgetPast) (maxL := 1) (ret := none) (by decide) rfl (Nat.le_of_ble_eq_true rfl) ?_
  intro p e s m below meth c A ls C hD hP hS hl
  have hx := C.1
  have hb := C.2.1
  have hl : lv_has ls 1 [(0, .ref (q 12))] := hl
  unfold r_forgetPast at hf
  refine lv_aload_n hx hb dX4_forgetPast_0 rfl (lv_at hl 0 rfl) ?_
  refine lv_iconst (v := 0) hx hb dX4_forgetPast_1 (by decide) ?_
  obtain ⟨s1, es1, hf⟩ := nm_ex hf
  refine q_put C hP (dd_R hD) hS (q0 := 0) rfl rfl hiX4_forgetPast_X4 tyX4_ok nmX4 10 (by decide) wdX4_forgetPast_1 rfl rfl rfl (Nat.le_of_ble_eq_true rfl) rfl dX4_forgetPast_2 (fun H locs hP hS => ?_)
  have hP : va_P G.1 vwCl (wR G q da qc qh qt qs qo im pa s1 ++ (wA G da 500 ta ++ (wN G qc sc ++ (wN G qh sh ++ (wT G qt tb.1 (qn 15) tb.2 ++ (wN G qn sn ++ (wS G qs ss ++ (wS G qo so ++ yy)))))))) H := by rw [← es1]; exact hP
  refine lv_aload_n hx hb dX4_forgetPast_5 rfl (lv_at hl 0 rfl) ?_
  refine lv_iconst (v := 0) hx hb dX4_forgetPast_6 (by decide) ?_
  obtain ⟨s2, es2, hf⟩ := nm_ex hf
  refine q_put C hP (dd_R hD) hS (q0 := 0) rfl rfl hiX4_forgetPast_X4 tyX4_ok nmX4 11 (by decide) wdX4_forgetPast_2 rfl rfl rfl (Nat.le_of_ble_eq_true rfl) rfl dX4_forgetPast_7 (fun H locs hP hS => ?_)
  have hP : va_P G.1 vwCl (wR G q da qc qh qt qs qo im pa s2 ++ (wA G da 500 ta ++ (wN G qc sc ++ (wN G qh sh ++ (wT G qt tb.1 (qn 15) tb.2 ++ (wN G qn sn ++ (wS G qs ss ++ (wS G qo so ++ yy)))))))) H := by rw [← es2]; exact hP
  obtain rfl := Option.some.inj hf
  exact q_vret C hP hS rfl dX4_forgetPast_10

-- X4_forgetImages
theorem hiX4_forgetImages_X4 : ∀ w ∈ u_ws RX4 TX4 12, w ∈ wsX4_forgetImages := mem_run (i := 2) (by decide +kernel)
theorem wdX4_forgetImages_1 : (Cond.fieldLink RX4 46 "CombinatorRing" "holds" "[Z") ∈ wsX4_forgetImages := List.mem_of_getElem? (i := 1) rfl
def r_forgetImages_2 : Nat → OSt → Int32 → Option (OSt)
  | 0, _, _ => none
  | n + 1, sr, v1 => if 2 ≤ v1 then some sr else gd v1 2 (nm (sA sr 8 (upd (sr.2 8) v1.toNatClampNeg (vp_nar .boolean (0)))) fun s3 => r_forgetImages_2 n s3 (v1 + 1))
def r_forgetImages (sr : OSt)  : Option (OSt) := bd (r_forgetImages_2 20000 sr 0) fun x1 => some x1
abbrev rmX4_forgetImages : Room := { frames := 0, cells := 0, slots := 0, locals := 0 }
theorem hdX4_forgetImages : yX4_forgetImages.cls = RX4 ∧ yX4_forgetImages.cls ≠ "java/lang/invoke/MethodHandle" ∧ yX4_forgetImages.cls ≠ "java/lang/invoke/VarHandle" ∧ (parseMethodDescriptor yX4_forgetImages.desc).map (fun d => d.parameters.length) = some 0 := by decide +kernel
set_option maxHeartbeats 4000000 in
set_option maxRecDepth 100000 in
theorem t_X4_forgetImages_2 {p : Program} {l : Launch} {e : Env} {s : State} {m : MethodId} {args : Array Value} {below : List Frame} {meth : Method} {c : Code} {Q : State → Prop} {A : Nat → Prop} {G : Gx} {q : Nat → Nat} {da : Nat} {qc qh qt qn qs qo : Nat → Nat} {im pa : Nat → Option Nat} {yy : va_W} {sr0 : OSt} {ta0 : (Nat → Int32)} {sc0 : NSt} {sh0 : NSt} {tb0 : (Nat × OSt)} {sn0 : NSt} {ss0 : OSt} {so0 : OSt} (C : Cx p s m args meth c G cX4_forgetImages wsX4_forgetImages RX4 none 2 A) (hD : va_D A (wR G q da qc qh qt qs qo im pa sr0 ++ (wA G da 500 ta0 ++ (wN G qc sc0 ++ (wN G qh sh0 ++ (wT G qt tb0.1 (qn 15) tb0.2 ++ (wN G qn sn0 ++ (wS G qs ss0 ++ (wS G qo so0 ++ yy))))))))) :
    ∀ {n : Nat} {sr : OSt} {ta : (Nat → Int32)} {sc : NSt} {sh : NSt} {tb : (Nat × OSt)} {sn : NSt} {ss : OSt} {so : OSt} {v1 : Int32} {x : OSt}, r_forgetImages_2 n sr v1 = some x → ∀ {H : Heap} {locs : List Loc} {ls : Array Slot}, va_P G.1 vwCl (wR G q da qc qh qt qs qo im pa sr ++ (wA G da 500 ta ++ (wN G qc sc ++ (wN G qh sh ++ (wT G qt tb.1 (qn 15) tb.2 ++ (wN G qn sn ++ (wS G qs ss ++ (wS G qo so ++ yy)))))))) H → va_S A s.heap H locs → lv_has ls 2 [(0, .ref (q 12)), (1, .int v1)] → (∀ {H : Heap} {locs : List Loc} {ls : Array Slot}, va_P G.1 vwCl (wR G q da qc qh qt qs qo im pa x ++ (wA G da 500 ta ++ (wN G qc sc ++ (wN G qh sh ++ (wT G qt tb.1 (qn 15) tb.2 ++ (wN G qn sn ++ (wS G qs ss ++ (wS G qo so ++ yy)))))))) H → va_S A s.heap H locs → lv_has ls 2 [] → W p l e rmX4_forgetImages s m args below meth c H locs 0 0 Q (F0 m 20 ls [])) → W p l e rmX4_forgetImages s m args below meth c H locs 0 0 Q (F0 m 2 ls []) := by
  have hx := C.1
  have hb := C.2.1
  intro n
  induction n with
  | zero => intro sr ta sc sh tb sn ss so v1 x hf; cases hf
  | succ n ih =>
    intro sr ta sc sh tb sn ss so v1 x hf H locs ls hP hS hl kk
    rw [r_forgetImages_2] at hf
    refine lv_iload_n hx hb dX4_forgetImages_2 rfl (lv_at hl 1 rfl) ?_
    refine lv_iconst (v := 2) hx hb dX4_forgetImages_3 (by decide) ?_
    refine lv_icmp_ge (tgt := 20) hx hb dX4_forgetImages_4 (by decide) (fun c2 => ?_) (fun c2 => ?_)
    · have hf := if_t c2 hf
      obtain rfl := Option.some.inj hf
      exact kk hP hS (lv_sub hl [] rfl)
    · have hf := if_f c2 hf
      refine lv_aload_n hx hb dX4_forgetImages_7 rfl (lv_at hl 0 rfl) ?_
      refine q_get (q0 := 0) C hP rfl rfl hiX4_forgetImages_X4 8 (by decide) wdX4_forgetImages_1 rfl dX4_forgetImages_8 ?_
      refine lv_iload_n hx hb dX4_forgetImages_11 rfl (lv_at hl 1 rfl) ?_
      refine lv_iconst (v := 0) hx hb dX4_forgetImages_12 (by decide) ?_
      obtain ⟨hin, hf⟩ := gd_some hf
      obtain ⟨s3, es3, hf⟩ := nm_ex hf
      refine q_zast C hP (dd_R hD) hS (q0 := 2) rfl rfl rfl hin dX4_forgetImages_13 (fun H locs hP hS => ?_)
      have hP : va_P G.1 vwCl (wR G q da qc qh qt qs qo im pa s3 ++ (wA G da 500 ta ++ (wN G qc sc ++ (wN G qh sh ++ (wT G qt tb.1 (qn 15) tb.2 ++ (wN G qn sn ++ (wS G qs ss ++ (wS G qo so ++ yy)))))))) H := by rw [← es3]; exact hP
      refine lv_iinc (v := (v1 + 1)) (lv' := [(1, .int (v1 + 1)), (0, .ref (q 12))]) hx hb dX4_forgetImages_14 hl (k := 1) rfl rfl (by decide) rfl (fun ls hl => ?_)
      refine lv_goto (tgt := 2) hx hb dX4_forgetImages_17 (by decide) ?_
      exact ih hf hP hS (lv_sub hl [1, 0] rfl) kk
set_option maxHeartbeats 4000000 in
set_option maxRecDepth 100000 in
theorem c_X4_forgetImages {l : Launch} {G : Gx} {q : Nat → Nat} {da : Nat} {qc qh qt qn qs qo : Nat → Nat} {im pa : Nat → Option Nat} {yy : va_W} {sr : OSt} {ta : (Nat → Int32)} {sc : NSt} {sh : NSt} {tb : (Nat × OSt)} {sn : NSt} {ss : OSt} {so : OSt}  {x : OSt} (hf : r_forgetImages sr = some x) : QM l G yX4_forgetImages wsX4_forgetImages rmX4_forgetImages [.ref (q 12)] (wR G q da qc qh qt qs qo im pa sr ++ (wA G da 500 ta ++ (wN G qc sc ++ (wN G qh sh ++ (wT G qt tb.1 (qn 15) tb.2 ++ (wN G qn sn ++ (wS G qs ss ++ (wS G qo so ++ yy)))))))) (wR G q da qc qh qt qs qo im pa x ++ (wA G da 500 ta ++ (wN G qc sc ++ (wN G qh sh ++ (wT G qt tb.1 (qn 15) tb.2 ++ (wN G qn sn ++ (wS G qs ss ++ (wS G qo so ++ yy)))))))) none := by
  refine QM.of (cc := cX4_forgetImages) (maxL := 2) (ret := none) (by decide) rfl (Nat.le_of_ble_eq_true rfl) ?_
  intro p e s m below meth c A ls C hD hP hS hl
  have hx := C.1
  have hb := C.2.1
  have hl : lv_has ls 2 [(0, .ref (q 12))] := hl
  unfold r_forgetImages at hf
  refine lv_iconst (v := 0) hx hb dX4_forgetImages_0 (by decide) ?_
  refine lv_istore_n (lv' := [(1, .int 0), (0, .ref (q 12))]) hx hb dX4_forgetImages_1 rfl hl (by decide) rfl (fun ls hl => ?_)
  obtain ⟨x1, hx1, hf⟩ := bd_some hf
  refine t_X4_forgetImages_2 C hD hx1 hP hS (lv_sub hl [1, 0] rfl) (fun {H locs ls} hP hS hl => ?_)
  obtain rfl := Option.some.inj hf
  exact q_vret C hP hS rfl dX4_forgetImages_20

-- X4_imagesHeld
theorem hiX4_imagesHeld_X4 : ∀ w ∈ u_ws RX4 TX4 12, w ∈ wsX4_imagesHeld := mem_run (i := 2) (by decide +kernel)
theorem wdX4_imagesHeld_1 : (Cond.fieldLink RX4 46 "CombinatorRing" "holds" "[Z") ∈ wsX4_imagesHeld := List.mem_of_getElem? (i := 1) rfl
def r_imagesHeld_4 : Nat → OSt → Int32 → Int32 → Option (Int32)
  | 0, _, _, _ => none
  | n + 1, sr, v1, v2 => if 2 ≤ v2 then some v1 else gd v2 2 (if (sr.2 8 v2.toNatClampNeg) = 0 then r_imagesHeld_4 n sr v1 (v2 + 1) else r_imagesHeld_4 n sr (v1 + 1) (v2 + 1))
def r_imagesHeld (sr : OSt)  : Option (Int32) := bd (r_imagesHeld_4 20000 sr 0 0) fun x1 => some x1
abbrev rmX4_imagesHeld : Room := { frames := 0, cells := 0, slots := 0, locals := 0 }
theorem hdX4_imagesHeld : yX4_imagesHeld.cls = RX4 ∧ yX4_imagesHeld.cls ≠ "java/lang/invoke/MethodHandle" ∧ yX4_imagesHeld.cls ≠ "java/lang/invoke/VarHandle" ∧ (parseMethodDescriptor yX4_imagesHeld.desc).map (fun d => d.parameters.length) = some 0 := by decide +kernel
set_option maxHeartbeats 4000000 in
set_option maxRecDepth 100000 in
theorem t_X4_imagesHeld_4 {p : Program} {l : Launch} {e : Env} {s : State} {m : MethodId} {args : Array Value} {below : List Frame} {meth : Method} {c : Code} {Q : State → Prop} {A : Nat → Prop} {G : Gx} {q : Nat → Nat} {da : Nat} {qc qh qt qn qs qo : Nat → Nat} {im pa : Nat → Option Nat} {yy : va_W} {sr0 : OSt} {ta0 : (Nat → Int32)} {sc0 : NSt} {sh0 : NSt} {tb0 : (Nat × OSt)} {sn0 : NSt} {ss0 : OSt} {so0 : OSt} (C : Cx p s m args meth c G cX4_imagesHeld wsX4_imagesHeld RX4 (some .int) 3 A) (hD : va_D A (wR G q da qc qh qt qs qo im pa sr0 ++ (wA G da 500 ta0 ++ (wN G qc sc0 ++ (wN G qh sh0 ++ (wT G qt tb0.1 (qn 15) tb0.2 ++ (wN G qn sn0 ++ (wS G qs ss0 ++ (wS G qo so0 ++ yy))))))))) :
    ∀ {n : Nat} {sr : OSt} {ta : (Nat → Int32)} {sc : NSt} {sh : NSt} {tb : (Nat × OSt)} {sn : NSt} {ss : OSt} {so : OSt} {v1 : Int32} {v2 : Int32} {x : Int32}, r_imagesHeld_4 n sr v1 v2 = some x → ∀ {H : Heap} {locs : List Loc} {ls : Array Slot}, va_P G.1 vwCl (wR G q da qc qh qt qs qo im pa sr ++ (wA G da 500 ta ++ (wN G qc sc ++ (wN G qh sh ++ (wT G qt tb.1 (qn 15) tb.2 ++ (wN G qn sn ++ (wS G qs ss ++ (wS G qo so ++ yy)))))))) H → va_S A s.heap H locs → lv_has ls 3 [(0, .ref (q 12)), (1, .int v1), (2, .int v2)] → (∀ {H : Heap} {locs : List Loc} {ls : Array Slot}, va_P G.1 vwCl (wR G q da qc qh qt qs qo im pa sr ++ (wA G da 500 ta ++ (wN G qc sc ++ (wN G qh sh ++ (wT G qt tb.1 (qn 15) tb.2 ++ (wN G qn sn ++ (wS G qs ss ++ (wS G qo so ++ yy)))))))) H → va_S A s.heap H locs → lv_has ls 3 [(1, .int x)] → W p l e rmX4_imagesHeld s m args below meth c H locs 0 0 Q (F0 m 27 ls [])) → W p l e rmX4_imagesHeld s m args below meth c H locs 0 0 Q (F0 m 4 ls []) := by
  have hx := C.1
  have hb := C.2.1
  intro n
  induction n with
  | zero => intro sr ta sc sh tb sn ss so v1 v2 x hf; cases hf
  | succ n ih =>
    intro sr ta sc sh tb sn ss so v1 v2 x hf H locs ls hP hS hl kk
    rw [r_imagesHeld_4] at hf
    refine lv_iload_n hx hb dX4_imagesHeld_4 rfl (lv_at hl 2 rfl) ?_
    refine lv_iconst (v := 2) hx hb dX4_imagesHeld_5 (by decide) ?_
    refine lv_icmp_ge (tgt := 27) hx hb dX4_imagesHeld_6 (by decide) (fun c2 => ?_) (fun c2 => ?_)
    · have hf := if_t c2 hf
      obtain rfl := Option.some.inj hf
      exact kk hP hS (lv_sub hl [1] rfl)
    · have hf := if_f c2 hf
      refine lv_aload_n hx hb dX4_imagesHeld_9 rfl (lv_at hl 0 rfl) ?_
      refine q_get (q0 := 0) C hP rfl rfl hiX4_imagesHeld_X4 8 (by decide) wdX4_imagesHeld_1 rfl dX4_imagesHeld_10 ?_
      refine lv_iload_n hx hb dX4_imagesHeld_13 rfl (lv_at hl 2 rfl) ?_
      obtain ⟨hin, hf⟩ := gd_some hf
      refine q_zald C hP (q0 := 2) rfl rfl hin dX4_imagesHeld_14 ?_
      refine lv_if_eq (tgt := 21) hx hb dX4_imagesHeld_15 (by decide) (fun c3 => ?_) (fun c3 => ?_)
      · have hf := if_t c3 hf
        refine lv_iinc (v := (v2 + 1)) (lv' := [(2, .int (v2 + 1)), (0, .ref (q 12)), (1, .int v1)]) hx hb dX4_imagesHeld_21 hl (k := 2) rfl rfl (by decide) rfl (fun ls hl => ?_)
        refine lv_goto (tgt := 4) hx hb dX4_imagesHeld_24 (by decide) ?_
        exact ih hf hP hS (lv_sub hl [1, 2, 0] rfl) kk
      · have hf := if_f c3 hf
        refine lv_iinc (v := (v1 + 1)) (lv' := [(1, .int (v1 + 1)), (0, .ref (q 12)), (2, .int v2)]) hx hb dX4_imagesHeld_18 hl (k := 1) rfl rfl (by decide) rfl (fun ls hl => ?_)
        refine lv_iinc (v := (v2 + 1)) (lv' := [(2, .int (v2 + 1)), (1, .int (v1 + 1)), (0, .ref (q 12))]) hx hb dX4_imagesHeld_21 hl (k := 2) rfl rfl (by decide) rfl (fun ls hl => ?_)
        refine lv_goto (tgt := 4) hx hb dX4_imagesHeld_24 (by decide) ?_
        exact ih hf hP hS (lv_sub hl [2, 1, 0] rfl) kk
set_option maxHeartbeats 4000000 in
set_option maxRecDepth 100000 in
theorem c_X4_imagesHeld {l : Launch} {G : Gx} {q : Nat → Nat} {da : Nat} {qc qh qt qn qs qo : Nat → Nat} {im pa : Nat → Option Nat} {yy : va_W} {sr : OSt} {ta : (Nat → Int32)} {sc : NSt} {sh : NSt} {tb : (Nat × OSt)} {sn : NSt} {ss : OSt} {so : OSt}  {x : Int32} (hf : r_imagesHeld sr = some x) : QM l G yX4_imagesHeld wsX4_imagesHeld rmX4_imagesHeld [.ref (q 12)] (wR G q da qc qh qt qs qo im pa sr ++ (wA G da 500 ta ++ (wN G qc sc ++ (wN G qh sh ++ (wT G qt tb.1 (qn 15) tb.2 ++ (wN G qn sn ++ (wS G qs ss ++ (wS G qo so ++ yy)))))))) (wR G q da qc qh qt qs qo im pa sr ++ (wA G da 500 ta ++ (wN G qc sc ++ (wN G qh sh ++ (wT G qt tb.1 (qn 15) tb.2 ++ (wN G qn sn ++ (wS G qs ss ++ (wS G qo so ++ yy)))))))) (some (.int x)) := by
  refine QM.of (cc := cX4_imagesHeld) (maxL := 3) (ret := (some .int)) (by decide) rfl (Nat.le_of_ble_eq_true rfl) ?_
  intro p e s m below meth c A ls C hD hP hS hl
  have hx := C.1
  have hb := C.2.1
  have hl : lv_has ls 3 [(0, .ref (q 12))] := hl
  unfold r_imagesHeld at hf
  refine lv_iconst (v := 0) hx hb dX4_imagesHeld_0 (by decide) ?_
  refine lv_istore_n (lv' := [(1, .int 0), (0, .ref (q 12))]) hx hb dX4_imagesHeld_1 rfl hl (by decide) rfl (fun ls hl => ?_)
  refine lv_iconst (v := 0) hx hb dX4_imagesHeld_2 (by decide) ?_
  refine lv_istore_n (lv' := [(2, .int 0), (1, .int 0), (0, .ref (q 12))]) hx hb dX4_imagesHeld_3 rfl hl (by decide) rfl (fun ls hl => ?_)
  obtain ⟨x1, hx1, hf⟩ := bd_some hf
  refine t_X4_imagesHeld_4 C hD hx1 hP hS (lv_sub hl [2, 1, 0] rfl) (fun {H locs ls} hP hS hl => ?_)
  refine lv_iload_n hx hb dX4_imagesHeld_27 rfl (lv_at hl 0 rfl) ?_
  obtain rfl := Option.some.inj hf
  exact q_iret C hP hS rfl dX4_imagesHeld_28

-- X4_net
theorem hiX4_net_X4 : ∀ w ∈ u_ws RX4 TX4 12, w ∈ wsX4_net := mem_run (i := 315) (by decide +kernel)
theorem wdX4_net_1 : (Cond.fieldLink RX4 53 "CombinatorRing" "tapeLength" "I") ∈ wsX4_net := List.mem_of_getElem? (i := 1) rfl
theorem wdX4_net_2 : (Cond.fieldLink RX4 28 "CombinatorRing" "reader" "LCombinatorRing$TextReader;") ∈ wsX4_net := List.mem_of_getElem? (i := 2) rfl
theorem wdX4_net_3 : (Cond.fieldLink RX4 9 "CombinatorRing" "tape" "[I") ∈ wsX4_net := List.mem_of_getElem? (i := 3) rfl
theorem wdX4_net_4 : (Cond.fieldLink RX4 18 "CombinatorRing" "current" "LCombinatorRing$Net;") ∈ wsX4_net := List.mem_of_getElem? (i := 4) rfl
theorem hiX4_net_X3 : ∀ w ∈ u_ws RX3 TX3 14, w ∈ wsX4_net := mem_run (i := 327) (by decide +kernel)
theorem hiX4_net_X0 : ∀ w ∈ u_ws RX0 TX0 15, w ∈ wsX4_net := mem_run (i := 341) (by decide +kernel)
def r_net (da : Nat) (sr : OSt) (ta : (Nat → Int32)) (sc : NSt) (tb : (Nat × OSt)) (sn : NSt) (a1 : Int32) : Option (Int32 × OSt × NSt × (Nat × OSt) × NSt) := if a1 < 0 then some ((-1), sr, sc, tb, sn) else if a1 ≤ (sr.1 1) then nm (sI sr 1 0) fun s3 => bd (t_read ((tb).2) 500 ta sn a1) fun x4 => if x4.1 = 0 then bd (n_become sc x4.2.2) fun x6 => bd (r_forgetImages s3) fun x7 => bd (r_forgetPast x7) fun x8 => some ((ni x6 7), x8, x6, (da, x4.2.1), x4.2.2) else some (x4.1, s3, sc, (da, x4.2.1), x4.2.2) else some ((-1), sr, sc, tb, sn)
abbrev rmX4_net : Room := { frames := 37, cells := 0, slots := 0, locals := 1738 }
theorem hdX4_net : yX4_net.cls = RX4 ∧ yX4_net.cls ≠ "java/lang/invoke/MethodHandle" ∧ yX4_net.cls ≠ "java/lang/invoke/VarHandle" ∧ (parseMethodDescriptor yX4_net.desc).map (fun d => d.parameters.length) = some 1 := by decide +kernel
set_option maxHeartbeats 4000000 in
set_option maxRecDepth 100000 in
theorem c_X4_net {l : Launch} {G : Gx} {q : Nat → Nat} {da : Nat} {qc qh qt qn qs qo : Nat → Nat} {im pa : Nat → Option Nat} {yy : va_W} {sr : OSt} {ta : (Nat → Int32)} {sc : NSt} {sh : NSt} {tb : (Nat × OSt)} {sn : NSt} {ss : OSt} {so : OSt} {a1 : Int32} {x : Int32 × OSt × NSt × (Nat × OSt) × NSt} (hf : r_net da sr ta sc tb sn a1 = some x) : QM l G yX4_net wsX4_net rmX4_net [.ref (q 12), .int a1] (wR G q da qc qh qt qs qo im pa sr ++ (wA G da 500 ta ++ (wN G qc sc ++ (wN G qh sh ++ (wT G qt tb.1 (qn 15) tb.2 ++ (wN G qn sn ++ (wS G qs ss ++ (wS G qo so ++ yy)))))))) (wR G q da qc qh qt qs qo im pa x.2.1 ++ (wA G da 500 ta ++ (wN G qc x.2.2.1 ++ (wN G qh sh ++ (wT G qt x.2.2.2.1.1 (qn 15) x.2.2.2.1.2 ++ (wN G qn x.2.2.2.2 ++ (wS G qs ss ++ (wS G qo so ++ yy)))))))) (some (.int x.1)) := by
  refine QM.of (cc := cX4_net) (maxL := 3) (ret := (some .int)) (by decide) rfl (Nat.le_of_ble_eq_true rfl) ?_
  intro p e s m below meth c A ls C hD hP hS hl
  have hx := C.1
  have hb := C.2.1
  have hl : lv_has ls 3 [(0, .ref (q 12)), (1, .int a1)] := hl
  unfold r_net at hf
  refine lv_iload_n hx hb dX4_net_0 rfl (lv_at hl 1 rfl) ?_
  refine lv_if_lt (tgt := 12) hx hb dX4_net_1 (by decide) (fun c1 => ?_) (fun c1 => ?_)
  · have hf := if_t c1 hf
    refine lv_iconst (v := (-1)) hx hb dX4_net_12 (by decide) ?_
    obtain rfl := Option.some.inj hf
    exact q_iret C hP hS rfl dX4_net_13
  · have hf := if_f c1 hf
    refine lv_iload_n hx hb dX4_net_4 rfl (lv_at hl 1 rfl) ?_
    refine lv_aload_n hx hb dX4_net_5 rfl (lv_at hl 0 rfl) ?_
    refine q_get (q0 := 0) C hP rfl rfl hiX4_net_X4 1 (by decide) wdX4_net_1 rfl dX4_net_6 ?_
    refine lv_icmp_le (tgt := 14) hx hb dX4_net_9 (by decide) (fun c2 => ?_) (fun c2 => ?_)
    · have hf := if_t c2 hf
      refine lv_aload_n hx hb dX4_net_14 rfl (lv_at hl 0 rfl) ?_
      refine lv_iconst (v := 0) hx hb dX4_net_15 (by decide) ?_
      obtain ⟨s3, es3, hf⟩ := nm_ex hf
      refine q_put C hP (dd_R hD) hS (q0 := 0) rfl rfl hiX4_net_X4 tyX4_ok nmX4 1 (by decide) wdX4_net_1 rfl rfl rfl (Nat.le_of_ble_eq_true rfl) rfl dX4_net_16 (fun H locs hP hS => ?_)
      have hP : va_P G.1 vwCl (wR G q da qc qh qt qs qo im pa s3 ++ (wA G da 500 ta ++ (wN G qc sc ++ (wN G qh sh ++ (wT G qt tb.1 (qn 15) tb.2 ++ (wN G qn sn ++ (wS G qs ss ++ (wS G qo so ++ yy)))))))) H := by rw [← es3]; exact hP
      refine lv_aload_n hx hb dX4_net_19 rfl (lv_at hl 0 rfl) ?_
      refine q_get (q0 := 0) C hP rfl rfl hiX4_net_X4 4 (by decide) wdX4_net_2 rfl dX4_net_20 ?_
      refine lv_aload_n hx hb dX4_net_23 rfl (lv_at hl 0 rfl) ?_
      refine q_get (q0 := 0) C hP rfl rfl hiX4_net_X4 0 (by decide) wdX4_net_3 rfl dX4_net_24 ?_
      refine lv_iload_n hx hb dX4_net_27 rfl (lv_at hl 1 rfl) ?_
      obtain ⟨x4, hx4, hf⟩ := bd_some hf
      refine q_Vi C (rc := (RX3, TX3, 14)) (q0 := 27) (ci := 3) (ws' := wR G q da qc qh qt qs qo im pa s3 ++ (wA G da 500 ta ++ (wN G qc sc ++ (wN G qh sh ++ (wT G qt (da, x4.2.1).1 (qn 15) (da, x4.2.1).2 ++ (wN G qn x4.2.2 ++ (wS G qs ss ++ (wS G qo so ++ yy)))))))) (c_X3_read (b0 := (tb).1) (qt := qt) (da := da) (ka := 500) (qn := qn) hx4) gX4_net_X3_read rfl ⟨rfl, rfl⟩ hdX3_read ⟨(Nat.le_of_ble_eq_true rfl), (Nat.le_of_ble_eq_true rfl)⟩ rfl hP (dd_R hD) hS rfl rfl pr_415 pr_415.symm hl.1 (Nat.le_of_ble_eq_true rfl) ⟨Nat.zero_le _, Nat.zero_le _⟩ rfl dX4_net_28 (fun H locs hP hS => ?_)
      refine lv_istore_n (lv' := [(2, .int x4.1), (0, .ref (q 12)), (1, .int a1)]) hx hb dX4_net_31 rfl hl (by decide) rfl (fun ls hl => ?_)
      refine lv_iload_n hx hb dX4_net_32 rfl (lv_at hl 0 rfl) ?_
      refine lv_if_eq (tgt := 38) hx hb dX4_net_33 (by decide) (fun c5 => ?_) (fun c5 => ?_)
      · have hf := if_t c5 hf
        refine lv_aload_n hx hb dX4_net_38 rfl (lv_at hl 1 rfl) ?_
        refine q_get (q0 := 0) C hP rfl rfl hiX4_net_X4 2 (by decide) wdX4_net_4 rfl dX4_net_39 ?_
        refine lv_aload_n hx hb dX4_net_42 rfl (lv_at hl 1 rfl) ?_
        refine q_get (q0 := 0) C hP rfl rfl hiX4_net_X4 4 (by decide) wdX4_net_2 rfl dX4_net_43 ?_
        refine q_getN (q0 := 27) C hP rfl rfl hiX4_net_X3 0 (by decide) (List.mem_of_getElem? (i := 13) rfl) rfl dX4_net_46 ?_
        obtain ⟨x6, hx6, hf⟩ := bd_some hf
        refine q_Vv C (rc := (RX0, TX0, 15)) (q0 := 5) (ci := 0) (ws' := wR G q da qc qh qt qs qo im pa s3 ++ (wA G da 500 ta ++ (wN G qc x6 ++ (wN G qh sh ++ (wT G qt (da, x4.2.1).1 (qn 15) (da, x4.2.1).2 ++ (wN G qn x4.2.2 ++ (wS G qs ss ++ (wS G qo so ++ yy)))))))) (c_X0_become (qn := qc) (qn2 := qn) hx6) gX4_net_X0_become rfl ⟨rfl, rfl⟩ hdX0_become ⟨(Nat.le_of_ble_eq_true rfl), (Nat.le_of_ble_eq_true rfl)⟩ rfl hP (dd_R hD) hS rfl rfl pr_25 pr_25.symm hl.1 (Nat.le_of_ble_eq_true rfl) ⟨Nat.zero_le _, Nat.zero_le _⟩ rfl dX4_net_49 (fun H locs hP hS => ?_)
        refine lv_aload_n hx hb dX4_net_52 rfl (lv_at hl 1 rfl) ?_
        obtain ⟨x7, hx7, hf⟩ := bd_some hf
        refine q_Vv C (rc := (RX4, TX4, 12)) (q0 := 0) (ci := 4) (ws' := wR G q da qc qh qt qs qo im pa x7 ++ (wA G da 500 ta ++ (wN G qc x6 ++ (wN G qh sh ++ (wT G qt (da, x4.2.1).1 (qn 15) (da, x4.2.1).2 ++ (wN G qn x4.2.2 ++ (wS G qs ss ++ (wS G qo so ++ yy)))))))) (wr := []) (c_X4_forgetImages hx7) gX4_net_X4_forgetImages rfl ⟨rfl, rfl⟩ hdX4_forgetImages ⟨(Nat.le_of_ble_eq_true rfl), (Nat.le_of_ble_eq_true rfl)⟩ rfl hP (dd_R hD) hS rfl rfl (List.Perm.refl _) (List.Perm.refl _) hl.1 (Nat.le_of_ble_eq_true rfl) ⟨Nat.zero_le _, Nat.zero_le _⟩ rfl dX4_net_53 (fun H locs hP hS => ?_)
        refine lv_aload_n hx hb dX4_net_56 rfl (lv_at hl 1 rfl) ?_
        obtain ⟨x8, hx8, hf⟩ := bd_some hf
        refine q_Vv C (rc := (RX4, TX4, 12)) (q0 := 0) (ci := 4) (ws' := wR G q da qc qh qt qs qo im pa x8 ++ (wA G da 500 ta ++ (wN G qc x6 ++ (wN G qh sh ++ (wT G qt (da, x4.2.1).1 (qn 15) (da, x4.2.1).2 ++ (wN G qn x4.2.2 ++ (wS G qs ss ++ (wS G qo so ++ yy)))))))) (wr := []) (c_X4_forgetPast hx8) gX4_net_X4_forgetPast rfl ⟨rfl, rfl⟩ hdX4_forgetPast ⟨(Nat.le_of_ble_eq_true rfl), (Nat.le_of_ble_eq_true rfl)⟩ rfl hP (dd_R hD) hS rfl rfl (List.Perm.refl _) (List.Perm.refl _) hl.1 (Nat.le_of_ble_eq_true rfl) ⟨Nat.zero_le _, Nat.zero_le _⟩ rfl dX4_net_57 (fun H locs hP hS => ?_)
        refine lv_aload_n hx hb dX4_net_60 rfl (lv_at hl 1 rfl) ?_
        refine q_get (q0 := 0) C hP rfl rfl hiX4_net_X4 2 (by decide) wdX4_net_4 rfl dX4_net_61 ?_
        refine q_getN (q0 := 5) C hP rfl rfl hiX4_net_X0 7 (by decide) (List.mem_of_getElem? (i := 4) rfl) rfl dX4_net_64 ?_
        obtain rfl := Option.some.inj hf
        exact q_iret C hP hS rfl dX4_net_67
      · have hf := if_f c5 hf
        refine lv_iload_n hx hb dX4_net_36 rfl (lv_at hl 0 rfl) ?_
        obtain rfl := Option.some.inj hf
        exact q_iret C hP hS rfl dX4_net_37
    · have hf := if_f c2 hf
      refine lv_iconst (v := (-1)) hx hb dX4_net_12 (by decide) ?_
      obtain rfl := Option.some.inj hf
      exact q_iret C hP hS rfl dX4_net_13

-- X4_count
theorem hiX4_count_X4 : ∀ w ∈ u_ws RX4 TX4 12, w ∈ wsX4_count := mem_run (i := 50) (by decide +kernel)
theorem wdX4_count_1 : (Cond.fieldLink RX4 18 "CombinatorRing" "current" "LCombinatorRing$Net;") ∈ wsX4_count := List.mem_of_getElem? (i := 1) rfl
theorem hiX4_count_X0 : ∀ w ∈ u_ws RX0 TX0 15, w ∈ wsX4_count := mem_run (i := 62) (by decide +kernel)
theorem wdX4_count_2 : (Cond.fieldLink RX4 60 "CombinatorRing" "pastCount" "I") ∈ wsX4_count := List.mem_of_getElem? (i := 2) rfl
theorem wdX4_count_3 : (Cond.fieldLink RX4 53 "CombinatorRing" "tapeLength" "I") ∈ wsX4_count := List.mem_of_getElem? (i := 3) rfl
def r_count (sr : OSt) (sc : NSt) (a1 : Int32) : Option (Int32) := if a1 = 0 then some (ni sc 6) else if a1 = 1 then some (ni sc 7) else if a1 = 2 then some (ni sc 8) else if a1 = 3 then some (ni sc 9) else if a1 = 4 then bd (p_size (np sc) 1) fun x1 => some x1 else if a1 = 5 then bd (n_readyPairs sc) fun x2 => some x2 else if a1 = 6 then bd (n_rootsThere sc) fun x3 => some x3 else if a1 = 7 then some (ni sc 12) else if a1 = 8 then some (ni sc 13) else if a1 = 9 then some (ni sc 10) else if a1 = 10 then some ((ni sc 11) - 1) else if a1 = 11 then bd (r_imagesHeld sr) fun x4 => some x4 else if a1 = 12 then some (sr.1 11) else if a1 = 13 then some (sr.1 1) else some (-1)
abbrev rmX4_count : Room := { frames := 3, cells := 0, slots := 0, locals := 65 }
theorem hdX4_count : yX4_count.cls = RX4 ∧ yX4_count.cls ≠ "java/lang/invoke/MethodHandle" ∧ yX4_count.cls ≠ "java/lang/invoke/VarHandle" ∧ (parseMethodDescriptor yX4_count.desc).map (fun d => d.parameters.length) = some 1 := by decide +kernel
set_option maxHeartbeats 4000000 in
set_option maxRecDepth 100000 in
theorem c_X4_count {l : Launch} {G : Gx} {q : Nat → Nat} {da : Nat} {qc qh qt qn qs qo : Nat → Nat} {im pa : Nat → Option Nat} {yy : va_W} {sr : OSt} {ta : (Nat → Int32)} {sc : NSt} {sh : NSt} {tb : (Nat × OSt)} {sn : NSt} {ss : OSt} {so : OSt} {a1 : Int32} {x : Int32} (hf : r_count sr sc a1 = some x) : QM l G yX4_count wsX4_count rmX4_count [.ref (q 12), .int a1] (wR G q da qc qh qt qs qo im pa sr ++ (wA G da 500 ta ++ (wN G qc sc ++ (wN G qh sh ++ (wT G qt tb.1 (qn 15) tb.2 ++ (wN G qn sn ++ (wS G qs ss ++ (wS G qo so ++ yy)))))))) (wR G q da qc qh qt qs qo im pa sr ++ (wA G da 500 ta ++ (wN G qc sc ++ (wN G qh sh ++ (wT G qt tb.1 (qn 15) tb.2 ++ (wN G qn sn ++ (wS G qs ss ++ (wS G qo so ++ yy)))))))) (some (.int x)) := by
  refine QM.of (cc := cX4_count) (maxL := 2) (ret := (some .int)) (by decide) rfl (Nat.le_of_ble_eq_true rfl) ?_
  intro p e s m below meth c A ls C hD hP hS hl
  have hx := C.1
  have hb := C.2.1
  have hl : lv_has ls 2 [(0, .ref (q 12)), (1, .int a1)] := hl
  unfold r_count at hf
  refine lv_iload_n hx hb dX4_count_0 rfl (lv_at hl 1 rfl) ?_
  by_cases c5 : a1 = 0
  · have hf := if_t c5 hf
    refine lv_tableIn (off := 71) (tgt := 72) hx hb dX4_count_1 (by rw [c5]; decide) (by rw [c5]; decide) (by rw [c5]; rfl) (by decide) ?_
    refine lv_aload_n hx hb dX4_count_72 rfl (lv_at hl 0 rfl) ?_
    refine q_get (q0 := 0) C hP rfl rfl hiX4_count_X4 2 (by decide) wdX4_count_1 rfl dX4_count_73 ?_
    refine q_getN (q0 := 5) C hP rfl rfl hiX4_count_X0 6 (by decide) (List.mem_of_getElem? (i := 3) rfl) rfl dX4_count_76 ?_
    obtain rfl := Option.some.inj hf
    exact q_iret C hP hS rfl dX4_count_79
  have hf := if_f c5 hf
  by_cases c6 : a1 = 1
  · have hf := if_t c6 hf
    refine lv_tableIn (off := 79) (tgt := 80) hx hb dX4_count_1 (by rw [c6]; decide) (by rw [c6]; decide) (by rw [c6]; rfl) (by decide) ?_
    refine lv_aload_n hx hb dX4_count_80 rfl (lv_at hl 0 rfl) ?_
    refine q_get (q0 := 0) C hP rfl rfl hiX4_count_X4 2 (by decide) wdX4_count_1 rfl dX4_count_81 ?_
    refine q_getN (q0 := 5) C hP rfl rfl hiX4_count_X0 7 (by decide) (List.mem_of_getElem? (i := 4) rfl) rfl dX4_count_84 ?_
    obtain rfl := Option.some.inj hf
    exact q_iret C hP hS rfl dX4_count_87
  have hf := if_f c6 hf
  by_cases c7 : a1 = 2
  · have hf := if_t c7 hf
    refine lv_tableIn (off := 87) (tgt := 88) hx hb dX4_count_1 (by rw [c7]; decide) (by rw [c7]; decide) (by rw [c7]; rfl) (by decide) ?_
    refine lv_aload_n hx hb dX4_count_88 rfl (lv_at hl 0 rfl) ?_
    refine q_get (q0 := 0) C hP rfl rfl hiX4_count_X4 2 (by decide) wdX4_count_1 rfl dX4_count_89 ?_
    refine q_getN (q0 := 5) C hP rfl rfl hiX4_count_X0 8 (by decide) (List.mem_of_getElem? (i := 5) rfl) rfl dX4_count_92 ?_
    obtain rfl := Option.some.inj hf
    exact q_iret C hP hS rfl dX4_count_95
  have hf := if_f c7 hf
  by_cases c8 : a1 = 3
  · have hf := if_t c8 hf
    refine lv_tableIn (off := 95) (tgt := 96) hx hb dX4_count_1 (by rw [c8]; decide) (by rw [c8]; decide) (by rw [c8]; rfl) (by decide) ?_
    refine lv_aload_n hx hb dX4_count_96 rfl (lv_at hl 0 rfl) ?_
    refine q_get (q0 := 0) C hP rfl rfl hiX4_count_X4 2 (by decide) wdX4_count_1 rfl dX4_count_97 ?_
    refine q_getN (q0 := 5) C hP rfl rfl hiX4_count_X0 9 (by decide) (List.mem_of_getElem? (i := 6) rfl) rfl dX4_count_100 ?_
    obtain rfl := Option.some.inj hf
    exact q_iret C hP hS rfl dX4_count_103
  have hf := if_f c8 hf
  by_cases c9 : a1 = 4
  · have hf := if_t c9 hf
    refine lv_tableIn (off := 103) (tgt := 104) hx hb dX4_count_1 (by rw [c9]; decide) (by rw [c9]; decide) (by rw [c9]; rfl) (by decide) ?_
    refine lv_aload_n hx hb dX4_count_104 rfl (lv_at hl 0 rfl) ?_
    refine q_get (q0 := 0) C hP rfl rfl hiX4_count_X4 2 (by decide) wdX4_count_1 rfl dX4_count_105 ?_
    refine q_getN (q0 := 5) C hP rfl rfl hiX4_count_X0 4 (by decide) (List.mem_of_getElem? (i := 2) rfl) rfl dX4_count_108 ?_
    refine lv_iconst (v := 1) hx hb dX4_count_111 (by decide) ?_
    obtain ⟨x1, hx1, hf⟩ := bd_some hf
    refine q_Vi C (rc := (RX1, TX1, 2)) (q0 := 10) (ci := 1) (ws' := wR G q da qc qh qt qs qo im pa sr ++ (wA G da 500 ta ++ (wN G qc sc ++ (wN G qh sh ++ (wT G qt tb.1 (qn 15) tb.2 ++ (wN G qn sn ++ (wS G qs ss ++ (wS G qo so ++ yy)))))))) (c_X1_size (qp := qPp qc) hx1) gX4_count_X1_size rfl ⟨rfl, rfl⟩ hdX1_size ⟨(Nat.le_of_ble_eq_true rfl), (Nat.le_of_ble_eq_true rfl)⟩ rfl hP (dd_R hD) hS rfl rfl (pm_sub pr_2 pm_NP1) (pm_sub pr_2 pm_NP1).symm hl.1 (Nat.le_of_ble_eq_true rfl) ⟨Nat.zero_le _, Nat.zero_le _⟩ rfl dX4_count_112 (fun H locs hP hS => ?_)
    obtain rfl := Option.some.inj hf
    exact q_iret C hP hS rfl dX4_count_115
  have hf := if_f c9 hf
  by_cases c10 : a1 = 5
  · have hf := if_t c10 hf
    refine lv_tableIn (off := 115) (tgt := 116) hx hb dX4_count_1 (by rw [c10]; decide) (by rw [c10]; decide) (by rw [c10]; rfl) (by decide) ?_
    refine lv_aload_n hx hb dX4_count_116 rfl (lv_at hl 0 rfl) ?_
    refine q_get (q0 := 0) C hP rfl rfl hiX4_count_X4 2 (by decide) wdX4_count_1 rfl dX4_count_117 ?_
    obtain ⟨x2, hx2, hf⟩ := bd_some hf
    refine q_Vi C (rc := (RX0, TX0, 15)) (q0 := 5) (ci := 0) (ws' := wR G q da qc qh qt qs qo im pa sr ++ (wA G da 500 ta ++ (wN G qc sc ++ (wN G qh sh ++ (wT G qt tb.1 (qn 15) tb.2 ++ (wN G qn sn ++ (wS G qs ss ++ (wS G qo so ++ yy)))))))) (c_X0_readyPairs (qn := qc) hx2) gX4_count_X0_readyPairs rfl ⟨rfl, rfl⟩ hdX0_readyPairs ⟨(Nat.le_of_ble_eq_true rfl), (Nat.le_of_ble_eq_true rfl)⟩ rfl hP (dd_R hD) hS rfl rfl pr_2 pr_2.symm hl.1 (Nat.le_of_ble_eq_true rfl) ⟨Nat.zero_le _, Nat.zero_le _⟩ rfl dX4_count_120 (fun H locs hP hS => ?_)
    obtain rfl := Option.some.inj hf
    exact q_iret C hP hS rfl dX4_count_123
  have hf := if_f c10 hf
  by_cases c11 : a1 = 6
  · have hf := if_t c11 hf
    refine lv_tableIn (off := 123) (tgt := 124) hx hb dX4_count_1 (by rw [c11]; decide) (by rw [c11]; decide) (by rw [c11]; rfl) (by decide) ?_
    refine lv_aload_n hx hb dX4_count_124 rfl (lv_at hl 0 rfl) ?_
    refine q_get (q0 := 0) C hP rfl rfl hiX4_count_X4 2 (by decide) wdX4_count_1 rfl dX4_count_125 ?_
    obtain ⟨x3, hx3, hf⟩ := bd_some hf
    refine q_Vi C (rc := (RX0, TX0, 15)) (q0 := 5) (ci := 0) (ws' := wR G q da qc qh qt qs qo im pa sr ++ (wA G da 500 ta ++ (wN G qc sc ++ (wN G qh sh ++ (wT G qt tb.1 (qn 15) tb.2 ++ (wN G qn sn ++ (wS G qs ss ++ (wS G qo so ++ yy)))))))) (c_X0_rootsThere (qn := qc) hx3) gX4_count_X0_rootsThere rfl ⟨rfl, rfl⟩ hdX0_rootsThere ⟨(Nat.le_of_ble_eq_true rfl), (Nat.le_of_ble_eq_true rfl)⟩ rfl hP (dd_R hD) hS rfl rfl pr_2 pr_2.symm hl.1 (Nat.le_of_ble_eq_true rfl) ⟨Nat.zero_le _, Nat.zero_le _⟩ rfl dX4_count_128 (fun H locs hP hS => ?_)
    obtain rfl := Option.some.inj hf
    exact q_iret C hP hS rfl dX4_count_131
  have hf := if_f c11 hf
  by_cases c12 : a1 = 7
  · have hf := if_t c12 hf
    refine lv_tableIn (off := 131) (tgt := 132) hx hb dX4_count_1 (by rw [c12]; decide) (by rw [c12]; decide) (by rw [c12]; rfl) (by decide) ?_
    refine lv_aload_n hx hb dX4_count_132 rfl (lv_at hl 0 rfl) ?_
    refine q_get (q0 := 0) C hP rfl rfl hiX4_count_X4 2 (by decide) wdX4_count_1 rfl dX4_count_133 ?_
    refine q_getN (q0 := 5) C hP rfl rfl hiX4_count_X0 12 (by decide) (List.mem_of_getElem? (i := 9) rfl) rfl dX4_count_136 ?_
    obtain rfl := Option.some.inj hf
    exact q_iret C hP hS rfl dX4_count_139
  have hf := if_f c12 hf
  by_cases c13 : a1 = 8
  · have hf := if_t c13 hf
    refine lv_tableIn (off := 139) (tgt := 140) hx hb dX4_count_1 (by rw [c13]; decide) (by rw [c13]; decide) (by rw [c13]; rfl) (by decide) ?_
    refine lv_aload_n hx hb dX4_count_140 rfl (lv_at hl 0 rfl) ?_
    refine q_get (q0 := 0) C hP rfl rfl hiX4_count_X4 2 (by decide) wdX4_count_1 rfl dX4_count_141 ?_
    refine q_getN (q0 := 5) C hP rfl rfl hiX4_count_X0 13 (by decide) (List.mem_of_getElem? (i := 10) rfl) rfl dX4_count_144 ?_
    obtain rfl := Option.some.inj hf
    exact q_iret C hP hS rfl dX4_count_147
  have hf := if_f c13 hf
  by_cases c14 : a1 = 9
  · have hf := if_t c14 hf
    refine lv_tableIn (off := 147) (tgt := 148) hx hb dX4_count_1 (by rw [c14]; decide) (by rw [c14]; decide) (by rw [c14]; rfl) (by decide) ?_
    refine lv_aload_n hx hb dX4_count_148 rfl (lv_at hl 0 rfl) ?_
    refine q_get (q0 := 0) C hP rfl rfl hiX4_count_X4 2 (by decide) wdX4_count_1 rfl dX4_count_149 ?_
    refine q_getN (q0 := 5) C hP rfl rfl hiX4_count_X0 10 (by decide) (List.mem_of_getElem? (i := 7) rfl) rfl dX4_count_152 ?_
    obtain rfl := Option.some.inj hf
    exact q_iret C hP hS rfl dX4_count_155
  have hf := if_f c14 hf
  by_cases c15 : a1 = 10
  · have hf := if_t c15 hf
    refine lv_tableIn (off := 155) (tgt := 156) hx hb dX4_count_1 (by rw [c15]; decide) (by rw [c15]; decide) (by rw [c15]; rfl) (by decide) ?_
    refine lv_aload_n hx hb dX4_count_156 rfl (lv_at hl 0 rfl) ?_
    refine q_get (q0 := 0) C hP rfl rfl hiX4_count_X4 2 (by decide) wdX4_count_1 rfl dX4_count_157 ?_
    refine q_getN (q0 := 5) C hP rfl rfl hiX4_count_X0 11 (by decide) (List.mem_of_getElem? (i := 8) rfl) rfl dX4_count_160 ?_
    refine lv_iconst (v := 1) hx hb dX4_count_163 (by decide) ?_
    refine lv_isub hx hb dX4_count_164 ?_
    obtain rfl := Option.some.inj hf
    exact q_iret C hP hS rfl dX4_count_165
  have hf := if_f c15 hf
  by_cases c16 : a1 = 11
  · have hf := if_t c16 hf
    refine lv_tableIn (off := 165) (tgt := 166) hx hb dX4_count_1 (by rw [c16]; decide) (by rw [c16]; decide) (by rw [c16]; rfl) (by decide) ?_
    refine lv_aload_n hx hb dX4_count_166 rfl (lv_at hl 0 rfl) ?_
    obtain ⟨x4, hx4, hf⟩ := bd_some hf
    refine q_Vi C (rc := (RX4, TX4, 12)) (q0 := 0) (ci := 4) (ws' := wR G q da qc qh qt qs qo im pa sr ++ (wA G da 500 ta ++ (wN G qc sc ++ (wN G qh sh ++ (wT G qt tb.1 (qn 15) tb.2 ++ (wN G qn sn ++ (wS G qs ss ++ (wS G qo so ++ yy)))))))) (wr := []) (c_X4_imagesHeld hx4) gX4_count_X4_imagesHeld rfl ⟨rfl, rfl⟩ hdX4_imagesHeld ⟨(Nat.le_of_ble_eq_true rfl), (Nat.le_of_ble_eq_true rfl)⟩ rfl hP (dd_R hD) hS rfl rfl (List.Perm.refl _) (List.Perm.refl _) hl.1 (Nat.le_of_ble_eq_true rfl) ⟨Nat.zero_le _, Nat.zero_le _⟩ rfl dX4_count_167 (fun H locs hP hS => ?_)
    obtain rfl := Option.some.inj hf
    exact q_iret C hP hS rfl dX4_count_170
  have hf := if_f c16 hf
  by_cases c17 : a1 = 12
  · have hf := if_t c17 hf
    refine lv_tableIn (off := 170) (tgt := 171) hx hb dX4_count_1 (by rw [c17]; decide) (by rw [c17]; decide) (by rw [c17]; rfl) (by decide) ?_
    refine lv_aload_n hx hb dX4_count_171 rfl (lv_at hl 0 rfl) ?_
    refine q_get (q0 := 0) C hP rfl rfl hiX4_count_X4 11 (by decide) wdX4_count_2 rfl dX4_count_172 ?_
    obtain rfl := Option.some.inj hf
    exact q_iret C hP hS rfl dX4_count_175
  have hf := if_f c17 hf
  by_cases c18 : a1 = 13
  · have hf := if_t c18 hf
    refine lv_tableIn (off := 175) (tgt := 176) hx hb dX4_count_1 (by rw [c18]; decide) (by rw [c18]; decide) (by rw [c18]; rfl) (by decide) ?_
    refine lv_aload_n hx hb dX4_count_176 rfl (lv_at hl 0 rfl) ?_
    refine q_get (q0 := 0) C hP rfl rfl hiX4_count_X4 1 (by decide) wdX4_count_3 rfl dX4_count_177 ?_
    obtain rfl := Option.some.inj hf
    exact q_iret C hP hS rfl dX4_count_180
  have hf := if_f c18 hf
  refine lv_tableOut (tgt := 181) hx hb dX4_count_1 ?_ (by decide) ?_
  · have z0 := lv_neT (a := 0) c5 (by decide); have z1 := lv_neT (a := 1) c6 (by decide); have z2 := lv_neT (a := 2) c7 (by decide); have z3 := lv_neT (a := 3) c8 (by decide); have z4 := lv_neT (a := 4) c9 (by decide); have z5 := lv_neT (a := 5) c10 (by decide); have z6 := lv_neT (a := 6) c11 (by decide); have z7 := lv_neT (a := 7) c12 (by decide); have z8 := lv_neT (a := 8) c13 (by decide); have z9 := lv_neT (a := 9) c14 (by decide); have z10 := lv_neT (a := 10) c15 (by decide); have z11 := lv_neT (a := 11) c16 (by decide); have z12 := lv_neT (a := 12) c17 (by decide); have z13 := lv_neT (a := 13) c18 (by decide); omega
  refine lv_iconst (v := (-1)) hx hb dX4_count_181 (by decide) ?_
  obtain rfl := Option.some.inj hf
  exact q_iret C hP hS rfl dX4_count_182

-- X4_rule
theorem hiX4_rule_X4 : ∀ w ∈ u_ws RX4 TX4 12, w ∈ wsX4_rule := mem_run (i := 2) (by decide +kernel)
theorem wdX4_rule_1 : (Cond.fieldLink RX4 18 "CombinatorRing" "current" "LCombinatorRing$Net;") ∈ wsX4_rule := List.mem_of_getElem? (i := 1) rfl
theorem hiX4_rule_X0 : ∀ w ∈ u_ws RX0 TX0 15, w ∈ wsX4_rule := mem_run (i := 14) (by decide +kernel)
def r_rule (sc : NSt) (a1 : Int32) : Option (Int32) := if a1 < 0 then some (-1) else if 6 ≤ a1 then some (-1) else gd a1 6 (some (na sc 3 a1.toNatClampNeg))
abbrev rmX4_rule : Room := { frames := 0, cells := 0, slots := 0, locals := 0 }
theorem hdX4_rule : yX4_rule.cls = RX4 ∧ yX4_rule.cls ≠ "java/lang/invoke/MethodHandle" ∧ yX4_rule.cls ≠ "java/lang/invoke/VarHandle" ∧ (parseMethodDescriptor yX4_rule.desc).map (fun d => d.parameters.length) = some 1 := by decide +kernel
set_option maxHeartbeats 4000000 in
set_option maxRecDepth 100000 in
theorem c_X4_rule {l : Launch} {G : Gx} {q : Nat → Nat} {da : Nat} {qc qh qt qn qs qo : Nat → Nat} {im pa : Nat → Option Nat} {yy : va_W} {sr : OSt} {ta : (Nat → Int32)} {sc : NSt} {sh : NSt} {tb : (Nat × OSt)} {sn : NSt} {ss : OSt} {so : OSt} {a1 : Int32} {x : Int32} (hf : r_rule sc a1 = some x) : QM l G yX4_rule wsX4_rule rmX4_rule [.ref (q 12), .int a1] (wR G q da qc qh qt qs qo im pa sr ++ (wA G da 500 ta ++ (wN G qc sc ++ (wN G qh sh ++ (wT G qt tb.1 (qn 15) tb.2 ++ (wN G qn sn ++ (wS G qs ss ++ (wS G qo so ++ yy)))))))) (wR G q da qc qh qt qs qo im pa sr ++ (wA G da 500 ta ++ (wN G qc sc ++ (wN G qh sh ++ (wT G qt tb.1 (qn 15) tb.2 ++ (wN G qn sn ++ (wS G qs ss ++ (wS G qo so ++ yy)))))))) (some (.int x)) := by
  refine QM.of (cc := cX4_rule) (maxL := 2) (ret := (some .int)) (by decide) rfl (Nat.le_of_ble_eq_true rfl) ?_
  intro p e s m below meth c A ls C hD hP hS hl
  have hx := C.1
  have hb := C.2.1
  have hl : lv_has ls 2 [(0, .ref (q 12)), (1, .int a1)] := hl
  unfold r_rule at hf
  refine lv_iload_n hx hb dX4_rule_0 rfl (lv_at hl 1 rfl) ?_
  refine lv_if_lt (tgt := 22) hx hb dX4_rule_1 (by decide) (fun c1 => ?_) (fun c1 => ?_)
  · have hf := if_t c1 hf
    refine lv_iconst (v := (-1)) hx hb dX4_rule_22 (by decide) ?_
    obtain rfl := Option.some.inj hf
    exact q_iret C hP hS rfl dX4_rule_23
  · have hf := if_f c1 hf
    refine lv_iload_n hx hb dX4_rule_4 rfl (lv_at hl 1 rfl) ?_
    refine lv_bipush (v := 6) hx hb dX4_rule_5 (by decide) ?_
    refine lv_icmp_ge (tgt := 22) hx hb dX4_rule_7 (by decide) (fun c2 => ?_) (fun c2 => ?_)
    · have hf := if_t c2 hf
      refine lv_iconst (v := (-1)) hx hb dX4_rule_22 (by decide) ?_
      obtain rfl := Option.some.inj hf
      exact q_iret C hP hS rfl dX4_rule_23
    · have hf := if_f c2 hf
      refine lv_aload_n hx hb dX4_rule_10 rfl (lv_at hl 0 rfl) ?_
      refine q_get (q0 := 0) C hP rfl rfl hiX4_rule_X4 2 (by decide) wdX4_rule_1 rfl dX4_rule_11 ?_
      refine q_getN (q0 := 5) C hP rfl rfl hiX4_rule_X0 3 (by decide) (List.mem_of_getElem? (i := 1) rfl) rfl dX4_rule_14 ?_
      refine lv_iload_n hx hb dX4_rule_17 rfl (lv_at hl 1 rfl) ?_
      obtain ⟨hin, hf⟩ := gd_some hf
      refine q_iald C hP (q0 := 9) rfl rfl hin dX4_rule_18 ?_
      refine lv_goto (tgt := 23) hx hb dX4_rule_19 (by decide) ?_
      obtain rfl := Option.some.inj hf
      exact q_iret C hP hS rfl dX4_rule_23

-- X4_kind
theorem hiX4_kind_X4 : ∀ w ∈ u_ws RX4 TX4 12, w ∈ wsX4_kind := mem_run (i := 8) (by decide +kernel)
theorem wdX4_kind_1 : (Cond.fieldLink RX4 18 "CombinatorRing" "current" "LCombinatorRing$Net;") ∈ wsX4_kind := List.mem_of_getElem? (i := 1) rfl
def r_kind (sc : NSt) (a1 : Int32) : Option (Int32) := bd (n_kindOf sc a1) fun x1 => some x1
abbrev rmX4_kind : Room := { frames := 1, cells := 0, slots := 0, locals := 21 }
theorem hdX4_kind : yX4_kind.cls = RX4 ∧ yX4_kind.cls ≠ "java/lang/invoke/MethodHandle" ∧ yX4_kind.cls ≠ "java/lang/invoke/VarHandle" ∧ (parseMethodDescriptor yX4_kind.desc).map (fun d => d.parameters.length) = some 1 := by decide +kernel
set_option maxHeartbeats 4000000 in
set_option maxRecDepth 100000 in
theorem c_X4_kind {l : Launch} {G : Gx} {q : Nat → Nat} {da : Nat} {qc qh qt qn qs qo : Nat → Nat} {im pa : Nat → Option Nat} {yy : va_W} {sr : OSt} {ta : (Nat → Int32)} {sc : NSt} {sh : NSt} {tb : (Nat × OSt)} {sn : NSt} {ss : OSt} {so : OSt} {a1 : Int32} {x : Int32} (hf : r_kind sc a1 = some x) : QM l G yX4_kind wsX4_kind rmX4_kind [.ref (q 12), .int a1] (wR G q da qc qh qt qs qo im pa sr ++ (wA G da 500 ta ++ (wN G qc sc ++ (wN G qh sh ++ (wT G qt tb.1 (qn 15) tb.2 ++ (wN G qn sn ++ (wS G qs ss ++ (wS G qo so ++ yy)))))))) (wR G q da qc qh qt qs qo im pa sr ++ (wA G da 500 ta ++ (wN G qc sc ++ (wN G qh sh ++ (wT G qt tb.1 (qn 15) tb.2 ++ (wN G qn sn ++ (wS G qs ss ++ (wS G qo so ++ yy)))))))) (some (.int x)) := by
  refine QM.of (cc := cX4_kind) (maxL := 2) (ret := (some .int)) (by decide) rfl (Nat.le_of_ble_eq_true rfl) ?_
  intro p e s m below meth c A ls C hD hP hS hl
  have hx := C.1
  have hb := C.2.1
  have hl : lv_has ls 2 [(0, .ref (q 12)), (1, .int a1)] := hl
  unfold r_kind at hf
  refine lv_aload_n hx hb dX4_kind_0 rfl (lv_at hl 0 rfl) ?_
  refine q_get (q0 := 0) C hP rfl rfl hiX4_kind_X4 2 (by decide) wdX4_kind_1 rfl dX4_kind_1 ?_
  refine lv_iload_n hx hb dX4_kind_4 rfl (lv_at hl 1 rfl) ?_
  obtain ⟨x1, hx1, hf⟩ := bd_some hf
  refine q_Vi C (rc := (RX0, TX0, 15)) (q0 := 5) (ci := 0) (ws' := wR G q da qc qh qt qs qo im pa sr ++ (wA G da 500 ta ++ (wN G qc sc ++ (wN G qh sh ++ (wT G qt tb.1 (qn 15) tb.2 ++ (wN G qn sn ++ (wS G qs ss ++ (wS G qo so ++ yy)))))))) (c_X0_kindOf (qn := qc) hx1) gX4_kind_X0_kindOf rfl ⟨rfl, rfl⟩ hdX0_kindOf ⟨(Nat.le_of_ble_eq_true rfl), (Nat.le_of_ble_eq_true rfl)⟩ rfl hP (dd_R hD) hS rfl rfl pr_2 pr_2.symm hl.1 (Nat.le_of_ble_eq_true rfl) ⟨Nat.zero_le _, Nat.zero_le _⟩ rfl dX4_kind_5 (fun H locs hP hS => ?_)
  obtain rfl := Option.some.inj hf
  exact q_iret C hP hS rfl dX4_kind_8

-- X4_link
theorem hiX4_link_X4 : ∀ w ∈ u_ws RX4 TX4 12, w ∈ wsX4_link := mem_run (i := 13) (by decide +kernel)
theorem wdX4_link_1 : (Cond.fieldLink RX4 18 "CombinatorRing" "current" "LCombinatorRing$Net;") ∈ wsX4_link := List.mem_of_getElem? (i := 1) rfl
def r_link (sc : NSt) (a1 : Int32) (a2 : Int32) : Option (Int32) := bd (n_kindOf sc a1) fun x1 => if x1 = (-1) then some (-1) else if a2 < 0 then some (-1) else if x1 = 0 then if a2 ≤ 0 then bd (n_at sc ((3 * a1) + a2)) fun x8 => some x8 else some (-1) else if a2 ≤ 2 then bd (n_at sc ((3 * a1) + a2)) fun x6 => some x6 else some (-1)
abbrev rmX4_link : Room := { frames := 1, cells := 0, slots := 0, locals := 21 }
theorem hdX4_link : yX4_link.cls = RX4 ∧ yX4_link.cls ≠ "java/lang/invoke/MethodHandle" ∧ yX4_link.cls ≠ "java/lang/invoke/VarHandle" ∧ (parseMethodDescriptor yX4_link.desc).map (fun d => d.parameters.length) = some 2 := by decide +kernel
set_option maxHeartbeats 4000000 in
set_option maxRecDepth 100000 in
theorem c_X4_link {l : Launch} {G : Gx} {q : Nat → Nat} {da : Nat} {qc qh qt qn qs qo : Nat → Nat} {im pa : Nat → Option Nat} {yy : va_W} {sr : OSt} {ta : (Nat → Int32)} {sc : NSt} {sh : NSt} {tb : (Nat × OSt)} {sn : NSt} {ss : OSt} {so : OSt} {a1 : Int32} {a2 : Int32} {x : Int32} (hf : r_link sc a1 a2 = some x) : QM l G yX4_link wsX4_link rmX4_link [.ref (q 12), .int a1, .int a2] (wR G q da qc qh qt qs qo im pa sr ++ (wA G da 500 ta ++ (wN G qc sc ++ (wN G qh sh ++ (wT G qt tb.1 (qn 15) tb.2 ++ (wN G qn sn ++ (wS G qs ss ++ (wS G qo so ++ yy)))))))) (wR G q da qc qh qt qs qo im pa sr ++ (wA G da 500 ta ++ (wN G qc sc ++ (wN G qh sh ++ (wT G qt tb.1 (qn 15) tb.2 ++ (wN G qn sn ++ (wS G qs ss ++ (wS G qo so ++ yy)))))))) (some (.int x)) := by
  refine QM.of (cc := cX4_link) (maxL := 4) (ret := (some .int)) (by decide) rfl (Nat.le_of_ble_eq_true rfl) ?_
  intro p e s m below meth c A ls C hD hP hS hl
  have hx := C.1
  have hb := C.2.1
  have hl : lv_has ls 4 [(0, .ref (q 12)), (1, .int a1), (2, .int a2)] := hl
  unfold r_link at hf
  refine lv_aload_n hx hb dX4_link_0 rfl (lv_at hl 0 rfl) ?_
  refine q_get (q0 := 0) C hP rfl rfl hiX4_link_X4 2 (by decide) wdX4_link_1 rfl dX4_link_1 ?_
  refine lv_iload_n hx hb dX4_link_4 rfl (lv_at hl 1 rfl) ?_
  obtain ⟨x1, hx1, hf⟩ := bd_some hf
  refine q_Vi C (rc := (RX0, TX0, 15)) (q0 := 5) (ci := 0) (ws' := wR G q da qc qh qt qs qo im pa sr ++ (wA G da 500 ta ++ (wN G qc sc ++ (wN G qh sh ++ (wT G qt tb.1 (qn 15) tb.2 ++ (wN G qn sn ++ (wS G qs ss ++ (wS G qo so ++ yy)))))))) (c_X0_kindOf (qn := qc) hx1) gX4_link_X0_kindOf rfl ⟨rfl, rfl⟩ hdX0_kindOf ⟨(Nat.le_of_ble_eq_true rfl), (Nat.le_of_ble_eq_true rfl)⟩ rfl hP (dd_R hD) hS rfl rfl pr_2 pr_2.symm hl.1 (Nat.le_of_ble_eq_true rfl) ⟨Nat.zero_le _, Nat.zero_le _⟩ rfl dX4_link_5 (fun H locs hP hS => ?_)
  refine lv_istore_n (lv' := [(3, .int x1), (0, .ref (q 12)), (1, .int a1), (2, .int a2)]) hx hb dX4_link_8 rfl hl (by decide) rfl (fun ls hl => ?_)
  refine lv_iload_n hx hb dX4_link_9 rfl (lv_at hl 0 rfl) ?_
  refine lv_iconst (v := (-1)) hx hb dX4_link_10 (by decide) ?_
  refine lv_icmp_eq (tgt := 31) hx hb dX4_link_11 (by decide) (fun c2 => ?_) (fun c2 => ?_)
  · have hf := if_t c2 hf
    refine lv_iconst (v := (-1)) hx hb dX4_link_31 (by decide) ?_
    obtain rfl := Option.some.inj hf
    exact q_iret C hP hS rfl dX4_link_32
  · have hf := if_f c2 hf
    refine lv_iload_n hx hb dX4_link_14 rfl (lv_at hl 3 rfl) ?_
    refine lv_if_lt (tgt := 31) hx hb dX4_link_15 (by decide) (fun c3 => ?_) (fun c3 => ?_)
    · have hf := if_t c3 hf
      refine lv_iconst (v := (-1)) hx hb dX4_link_31 (by decide) ?_
      obtain rfl := Option.some.inj hf
      exact q_iret C hP hS rfl dX4_link_32
    · have hf := if_f c3 hf
      refine lv_iload_n hx hb dX4_link_18 rfl (lv_at hl 3 rfl) ?_
      refine lv_iload_n hx hb dX4_link_19 rfl (lv_at hl 0 rfl) ?_
      refine lv_if_ne (tgt := 27) hx hb dX4_link_20 (by decide) (fun c4 => ?_) (fun c4 => ?_)
      · have hf := if_f c4 hf
        refine lv_iconst (v := 2) hx hb dX4_link_27 (by decide) ?_
        refine lv_icmp_le (tgt := 33) hx hb dX4_link_28 (by decide) (fun c5 => ?_) (fun c5 => ?_)
        · have hf := if_t c5 hf
          refine lv_aload_n hx hb dX4_link_33 rfl (lv_at hl 1 rfl) ?_
          refine q_get (q0 := 0) C hP rfl rfl hiX4_link_X4 2 (by decide) wdX4_link_1 rfl dX4_link_34 ?_
          refine lv_iconst (v := 3) hx hb dX4_link_37 (by decide) ?_
          refine lv_iload_n hx hb dX4_link_38 rfl (lv_at hl 2 rfl) ?_
          refine lv_imul hx hb dX4_link_39 ?_
          refine lv_iload_n hx hb dX4_link_40 rfl (lv_at hl 3 rfl) ?_
          refine lv_iadd hx hb dX4_link_41 ?_
          obtain ⟨x6, hx6, hf⟩ := bd_some hf
          refine q_Vi C (rc := (RX0, TX0, 15)) (q0 := 5) (ci := 0) (ws' := wR G q da qc qh qt qs qo im pa sr ++ (wA G da 500 ta ++ (wN G qc sc ++ (wN G qh sh ++ (wT G qt tb.1 (qn 15) tb.2 ++ (wN G qn sn ++ (wS G qs ss ++ (wS G qo so ++ yy)))))))) (c_X0_at (qn := qc) hx6) gX4_link_X0_at rfl ⟨rfl, rfl⟩ hdX0_at ⟨(Nat.le_of_ble_eq_true rfl), (Nat.le_of_ble_eq_true rfl)⟩ rfl hP (dd_R hD) hS rfl rfl pr_2 pr_2.symm hl.1 (Nat.le_of_ble_eq_true rfl) ⟨Nat.zero_le _, Nat.zero_le _⟩ rfl dX4_link_42 (fun H locs hP hS => ?_)
          obtain rfl := Option.some.inj hf
          exact q_iret C hP hS rfl dX4_link_45
        · have hf := if_f c5 hf
          refine lv_iconst (v := (-1)) hx hb dX4_link_31 (by decide) ?_
          obtain rfl := Option.some.inj hf
          exact q_iret C hP hS rfl dX4_link_32
      · have hf := if_t c4 hf
        refine lv_iconst (v := 0) hx hb dX4_link_23 (by decide) ?_
        refine lv_goto (tgt := 28) hx hb dX4_link_24 (by decide) ?_
        refine lv_icmp_le (tgt := 33) hx hb dX4_link_28 (by decide) (fun c7 => ?_) (fun c7 => ?_)
        · have hf := if_t c7 hf
          refine lv_aload_n hx hb dX4_link_33 rfl (lv_at hl 1 rfl) ?_
          refine q_get (q0 := 0) C hP rfl rfl hiX4_link_X4 2 (by decide) wdX4_link_1 rfl dX4_link_34 ?_
          refine lv_iconst (v := 3) hx hb dX4_link_37 (by decide) ?_
          refine lv_iload_n hx hb dX4_link_38 rfl (lv_at hl 2 rfl) ?_
          refine lv_imul hx hb dX4_link_39 ?_
          refine lv_iload_n hx hb dX4_link_40 rfl (lv_at hl 3 rfl) ?_
          refine lv_iadd hx hb dX4_link_41 ?_
          obtain ⟨x8, hx8, hf⟩ := bd_some hf
          refine q_Vi C (rc := (RX0, TX0, 15)) (q0 := 5) (ci := 0) (ws' := wR G q da qc qh qt qs qo im pa sr ++ (wA G da 500 ta ++ (wN G qc sc ++ (wN G qh sh ++ (wT G qt tb.1 (qn 15) tb.2 ++ (wN G qn sn ++ (wS G qs ss ++ (wS G qo so ++ yy)))))))) (c_X0_at (qn := qc) hx8) gX4_link_X0_at rfl ⟨rfl, rfl⟩ hdX0_at ⟨(Nat.le_of_ble_eq_true rfl), (Nat.le_of_ble_eq_true rfl)⟩ rfl hP (dd_R hD) hS rfl rfl pr_2 pr_2.symm hl.1 (Nat.le_of_ble_eq_true rfl) ⟨Nat.zero_le _, Nat.zero_le _⟩ rfl dX4_link_42 (fun H locs hP hS => ?_)
          obtain rfl := Option.some.inj hf
          exact q_iret C hP hS rfl dX4_link_45
        · have hf := if_f c7 hf
          refine lv_iconst (v := (-1)) hx hb dX4_link_31 (by decide) ?_
          obtain rfl := Option.some.inj hf
          exact q_iret C hP hS rfl dX4_link_32

-- X4_root
theorem hiX4_root_X4 : ∀ w ∈ u_ws RX4 TX4 12, w ∈ wsX4_root := mem_run (i := 12) (by decide +kernel)
theorem wdX4_root_1 : (Cond.fieldLink RX4 18 "CombinatorRing" "current" "LCombinatorRing$Net;") ∈ wsX4_root := List.mem_of_getElem? (i := 1) rfl
def r_root (sc : NSt) (a1 : Int32) : Option (Int32) := bd (n_hasRoot sc a1) fun x1 => if x1 = 0 then some (-1) else bd (n_at sc (1000 + a1)) fun x3 => some x3
abbrev rmX4_root : Room := { frames := 1, cells := 0, slots := 0, locals := 21 }
theorem hdX4_root : yX4_root.cls = RX4 ∧ yX4_root.cls ≠ "java/lang/invoke/MethodHandle" ∧ yX4_root.cls ≠ "java/lang/invoke/VarHandle" ∧ (parseMethodDescriptor yX4_root.desc).map (fun d => d.parameters.length) = some 1 := by decide +kernel
set_option maxHeartbeats 4000000 in
set_option maxRecDepth 100000 in
theorem c_X4_root {l : Launch} {G : Gx} {q : Nat → Nat} {da : Nat} {qc qh qt qn qs qo : Nat → Nat} {im pa : Nat → Option Nat} {yy : va_W} {sr : OSt} {ta : (Nat → Int32)} {sc : NSt} {sh : NSt} {tb : (Nat × OSt)} {sn : NSt} {ss : OSt} {so : OSt} {a1 : Int32} {x : Int32} (hf : r_root sc a1 = some x) : QM l G yX4_root wsX4_root rmX4_root [.ref (q 12), .int a1] (wR G q da qc qh qt qs qo im pa sr ++ (wA G da 500 ta ++ (wN G qc sc ++ (wN G qh sh ++ (wT G qt tb.1 (qn 15) tb.2 ++ (wN G qn sn ++ (wS G qs ss ++ (wS G qo so ++ yy)))))))) (wR G q da qc qh qt qs qo im pa sr ++ (wA G da 500 ta ++ (wN G qc sc ++ (wN G qh sh ++ (wT G qt tb.1 (qn 15) tb.2 ++ (wN G qn sn ++ (wS G qs ss ++ (wS G qo so ++ yy)))))))) (some (.int x)) := by
  refine QM.of (cc := cX4_root) (maxL := 2) (ret := (some .int)) (by decide) rfl (Nat.le_of_ble_eq_true rfl) ?_
  intro p e s m below meth c A ls C hD hP hS hl
  have hx := C.1
  have hb := C.2.1
  have hl : lv_has ls 2 [(0, .ref (q 12)), (1, .int a1)] := hl
  unfold r_root at hf
  refine lv_aload_n hx hb dX4_root_0 rfl (lv_at hl 0 rfl) ?_
  refine q_get (q0 := 0) C hP rfl rfl hiX4_root_X4 2 (by decide) wdX4_root_1 rfl dX4_root_1 ?_
  refine lv_iload_n hx hb dX4_root_4 rfl (lv_at hl 1 rfl) ?_
  obtain ⟨x1, hx1, hf⟩ := bd_some hf
  refine q_Vi C (rc := (RX0, TX0, 15)) (q0 := 5) (ci := 0) (ws' := wR G q da qc qh qt qs qo im pa sr ++ (wA G da 500 ta ++ (wN G qc sc ++ (wN G qh sh ++ (wT G qt tb.1 (qn 15) tb.2 ++ (wN G qn sn ++ (wS G qs ss ++ (wS G qo so ++ yy)))))))) (c_X0_hasRoot (qn := qc) hx1) gX4_root_X0_hasRoot rfl ⟨rfl, rfl⟩ hdX0_hasRoot ⟨(Nat.le_of_ble_eq_true rfl), (Nat.le_of_ble_eq_true rfl)⟩ rfl hP (dd_R hD) hS rfl rfl pr_2 pr_2.symm hl.1 (Nat.le_of_ble_eq_true rfl) ⟨Nat.zero_le _, Nat.zero_le _⟩ rfl dX4_root_5 (fun H locs hP hS => ?_)
  refine lv_if_eq (tgt := 26) hx hb dX4_root_8 (by decide) (fun c2 => ?_) (fun c2 => ?_)
  · have hf := if_t c2 hf
    refine lv_iconst (v := (-1)) hx hb dX4_root_26 (by decide) ?_
    obtain rfl := Option.some.inj hf
    exact q_iret C hP hS rfl dX4_root_27
  · have hf := if_f c2 hf
    refine lv_aload_n hx hb dX4_root_11 rfl (lv_at hl 0 rfl) ?_
    refine q_get (q0 := 0) C hP rfl rfl hiX4_root_X4 2 (by decide) wdX4_root_1 rfl dX4_root_12 ?_
    refine lv_sipush (v := 1000) hx hb dX4_root_15 (by decide) ?_
    refine lv_iload_n hx hb dX4_root_18 rfl (lv_at hl 1 rfl) ?_
    refine lv_iadd hx hb dX4_root_19 ?_
    obtain ⟨x3, hx3, hf⟩ := bd_some hf
    refine q_Vi C (rc := (RX0, TX0, 15)) (q0 := 5) (ci := 0) (ws' := wR G q da qc qh qt qs qo im pa sr ++ (wA G da 500 ta ++ (wN G qc sc ++ (wN G qh sh ++ (wT G qt tb.1 (qn 15) tb.2 ++ (wN G qn sn ++ (wS G qs ss ++ (wS G qo so ++ yy)))))))) (c_X0_at (qn := qc) hx3) gX4_root_X0_at rfl ⟨rfl, rfl⟩ hdX0_at ⟨(Nat.le_of_ble_eq_true rfl), (Nat.le_of_ble_eq_true rfl)⟩ rfl hP (dd_R hD) hS rfl rfl pr_2 pr_2.symm hl.1 (Nat.le_of_ble_eq_true rfl) ⟨Nat.zero_le _, Nat.zero_le _⟩ rfl dX4_root_20 (fun H locs hP hS => ?_)
    refine lv_goto (tgt := 27) hx hb dX4_root_23 (by decide) ?_
    obtain rfl := Option.some.inj hf
    exact q_iret C hP hS rfl dX4_root_27

-- X4_rootAt
theorem hiX4_rootAt_X4 : ∀ w ∈ u_ws RX4 TX4 12, w ∈ wsX4_rootAt := mem_run (i := 8) (by decide +kernel)
theorem wdX4_rootAt_1 : (Cond.fieldLink RX4 18 "CombinatorRing" "current" "LCombinatorRing$Net;") ∈ wsX4_rootAt := List.mem_of_getElem? (i := 1) rfl
def r_rootAt_4 : Nat → NSt → Int32 → Int32 → Int32 → Option (Int32)
  | 0, _, _, _, _ => none
  | n + 1, sc, v1, v2, v3 => if 16 ≤ v3 then some (-1) else bd (n_hasRoot sc v3) fun x2 => if x2 = 0 then r_rootAt_4 n sc v1 v2 (v3 + 1) else if v2 = v1 then some v3 else r_rootAt_4 n sc v1 (v2 + 1) (v3 + 1)
def r_rootAt (sc : NSt) (a1 : Int32) : Option (Int32) := r_rootAt_4 20000 sc a1 0 0
abbrev rmX4_rootAt : Room := { frames := 1, cells := 0, slots := 0, locals := 21 }
theorem hdX4_rootAt : yX4_rootAt.cls = RX4 ∧ yX4_rootAt.cls ≠ "java/lang/invoke/MethodHandle" ∧ yX4_rootAt.cls ≠ "java/lang/invoke/VarHandle" ∧ (parseMethodDescriptor yX4_rootAt.desc).map (fun d => d.parameters.length) = some 1 := by decide +kernel
set_option maxHeartbeats 4000000 in
set_option maxRecDepth 100000 in
theorem t_X4_rootAt_4 {p : Program} {l : Launch} {e : Env} {s : State} {m : MethodId} {args : Array Value} {below : List Frame} {meth : Method} {c : Code} {A : Nat → Prop} {G : Gx} {q : Nat → Nat} {da : Nat} {qc qh qt qn qs qo : Nat → Nat} {im pa : Nat → Option Nat} {yy : va_W} {sr0 : OSt} {ta0 : (Nat → Int32)} {sc0 : NSt} {sh0 : NSt} {tb0 : (Nat × OSt)} {sn0 : NSt} {ss0 : OSt} {so0 : OSt} (C : Cx p s m args meth c G cX4_rootAt wsX4_rootAt RX4 (some .int) 4 A) (hD : va_D A (wR G q da qc qh qt qs qo im pa sr0 ++ (wA G da 500 ta0 ++ (wN G qc sc0 ++ (wN G qh sh0 ++ (wT G qt tb0.1 (qn 15) tb0.2 ++ (wN G qn sn0 ++ (wS G qs ss0 ++ (wS G qo so0 ++ yy))))))))) :
    ∀ {n : Nat} {sr : OSt} {ta : (Nat → Int32)} {sc : NSt} {sh : NSt} {tb : (Nat × OSt)} {sn : NSt} {ss : OSt} {so : OSt} {v1 : Int32} {v2 : Int32} {v3 : Int32} {x : Int32}, r_rootAt_4 n sc v1 v2 v3 = some x → ∀ {H : Heap} {locs : List Loc} {ls : Array Slot}, va_P G.1 vwCl (wR G q da qc qh qt qs qo im pa sr ++ (wA G da 500 ta ++ (wN G qc sc ++ (wN G qh sh ++ (wT G qt tb.1 (qn 15) tb.2 ++ (wN G qn sn ++ (wS G qs ss ++ (wS G qo so ++ yy)))))))) H → va_S A s.heap H locs → lv_has ls 4 [(0, .ref (q 12)), (1, .int v1), (2, .int v2), (3, .int v3)] → W p l e rmX4_rootAt s m args below meth c H locs 0 0 (MQ below (qE G A (wR G q da qc qh qt qs qo im pa sr ++ (wA G da 500 ta ++ (wN G qc sc ++ (wN G qh sh ++ (wT G qt tb.1 (qn 15) tb.2 ++ (wN G qn sn ++ (wS G qs ss ++ (wS G qo so ++ yy)))))))) (some (.int x))) args s 0 0 A) (F0 m 4 ls []) := by
  have hx := C.1
  have hb := C.2.1
  intro n
  induction n with
  | zero => intro sr ta sc sh tb sn ss so v1 v2 v3 x hf; cases hf
  | succ n ih =>
    intro sr ta sc sh tb sn ss so v1 v2 v3 x hf H locs ls hP hS hl
    rw [r_rootAt_4] at hf
    refine lv_iload_n hx hb dX4_rootAt_4 rfl (lv_at hl 3 rfl) ?_
    refine lv_bipush (v := 16) hx hb dX4_rootAt_5 (by decide) ?_
    refine lv_icmp_ge (tgt := 37) hx hb dX4_rootAt_7 (by decide) (fun c1 => ?_) (fun c1 => ?_)
    · have hf := if_t c1 hf
      refine lv_iconst (v := (-1)) hx hb dX4_rootAt_37 (by decide) ?_
      obtain rfl := Option.some.inj hf
      exact q_iret C hP hS rfl dX4_rootAt_38
    · have hf := if_f c1 hf
      refine lv_aload_n hx hb dX4_rootAt_10 rfl (lv_at hl 0 rfl) ?_
      refine q_get (q0 := 0) C hP rfl rfl hiX4_rootAt_X4 2 (by decide) wdX4_rootAt_1 rfl dX4_rootAt_11 ?_
      refine lv_iload_n hx hb dX4_rootAt_14 rfl (lv_at hl 3 rfl) ?_
      obtain ⟨x2, hx2, hf⟩ := bd_some hf
      refine q_Vi C (rc := (RX0, TX0, 15)) (q0 := 5) (ci := 0) (ws' := wR G q da qc qh qt qs qo im pa sr ++ (wA G da 500 ta ++ (wN G qc sc ++ (wN G qh sh ++ (wT G qt tb.1 (qn 15) tb.2 ++ (wN G qn sn ++ (wS G qs ss ++ (wS G qo so ++ yy)))))))) (c_X0_hasRoot (qn := qc) hx2) gX4_rootAt_X0_hasRoot rfl ⟨rfl, rfl⟩ hdX0_hasRoot ⟨(Nat.le_of_ble_eq_true rfl), (Nat.le_of_ble_eq_true rfl)⟩ rfl hP (dd_R hD) hS rfl rfl pr_2 pr_2.symm hl.1 (Nat.le_of_ble_eq_true rfl) ⟨Nat.zero_le _, Nat.zero_le _⟩ rfl dX4_rootAt_15 (fun H locs hP hS => ?_)
      refine lv_if_eq (tgt := 31) hx hb dX4_rootAt_18 (by decide) (fun c3 => ?_) (fun c3 => ?_)
      · have hf := if_t c3 hf
        refine lv_iinc (v := (v3 + 1)) (lv' := [(3, .int (v3 + 1)), (0, .ref (q 12)), (1, .int v1), (2, .int v2)]) hx hb dX4_rootAt_31 hl (k := 3) rfl rfl (by decide) rfl (fun ls hl => ?_)
        refine lv_goto (tgt := 4) hx hb dX4_rootAt_34 (by decide) ?_
        exact ih hf hP hS (lv_sub hl [1, 2, 3, 0] rfl)
      · have hf := if_f c3 hf
        refine lv_iload_n hx hb dX4_rootAt_21 rfl (lv_at hl 2 rfl) ?_
        refine lv_iload_n hx hb dX4_rootAt_22 rfl (lv_at hl 1 rfl) ?_
        refine lv_icmp_ne (tgt := 28) hx hb dX4_rootAt_23 (by decide) (fun c4 => ?_) (fun c4 => ?_)
        · have hf := if_f c4 hf
          refine lv_iinc (v := (v2 + 1)) (lv' := [(2, .int (v2 + 1)), (0, .ref (q 12)), (1, .int v1), (3, .int v3)]) hx hb dX4_rootAt_28 hl (k := 2) rfl rfl (by decide) rfl (fun ls hl => ?_)
          refine lv_iinc (v := (v3 + 1)) (lv' := [(3, .int (v3 + 1)), (2, .int (v2 + 1)), (0, .ref (q 12)), (1, .int v1)]) hx hb dX4_rootAt_31 hl (k := 3) rfl rfl (by decide) rfl (fun ls hl => ?_)
          refine lv_goto (tgt := 4) hx hb dX4_rootAt_34 (by decide) ?_
          exact ih hf hP hS (lv_sub hl [2, 3, 1, 0] rfl)
        · have hf := if_t c4 hf
          refine lv_iload_n hx hb dX4_rootAt_26 rfl (lv_at hl 3 rfl) ?_
          obtain rfl := Option.some.inj hf
          exact q_iret C hP hS rfl dX4_rootAt_27
set_option maxHeartbeats 4000000 in
set_option maxRecDepth 100000 in
theorem c_X4_rootAt {l : Launch} {G : Gx} {q : Nat → Nat} {da : Nat} {qc qh qt qn qs qo : Nat → Nat} {im pa : Nat → Option Nat} {yy : va_W} {sr : OSt} {ta : (Nat → Int32)} {sc : NSt} {sh : NSt} {tb : (Nat × OSt)} {sn : NSt} {ss : OSt} {so : OSt} {a1 : Int32} {x : Int32} (hf : r_rootAt sc a1 = some x) : QM l G yX4_rootAt wsX4_rootAt rmX4_rootAt [.ref (q 12), .int a1] (wR G q da qc qh qt qs qo im pa sr ++ (wA G da 500 ta ++ (wN G qc sc ++ (wN G qh sh ++ (wT G qt tb.1 (qn 15) tb.2 ++ (wN G qn sn ++ (wS G qs ss ++ (wS G qo so ++ yy)))))))) (wR G q da qc qh qt qs qo im pa sr ++ (wA G da 500 ta ++ (wN G qc sc ++ (wN G qh sh ++ (wT G qt tb.1 (qn 15) tb.2 ++ (wN G qn sn ++ (wS G qs ss ++ (wS G qo so ++ yy)))))))) (some (.int x)) := by
  refine QM.of (cc := cX4_rootAt) (maxL := 4) (ret := (some .int)) (by decide) rfl (Nat.le_of_ble_eq_true rfl) ?_
  intro p e s m below meth c A ls C hD hP hS hl
  have hx := C.1
  have hb := C.2.1
  have hl : lv_has ls 4 [(0, .ref (q 12)), (1, .int a1)] := hl
  unfold r_rootAt at hf
  refine lv_iconst (v := 0) hx hb dX4_rootAt_0 (by decide) ?_
  refine lv_istore_n (lv' := [(2, .int 0), (0, .ref (q 12)), (1, .int a1)]) hx hb dX4_rootAt_1 rfl hl (by decide) rfl (fun ls hl => ?_)
  refine lv_iconst (v := 0) hx hb dX4_rootAt_2 (by decide) ?_
  refine lv_istore_n (lv' := [(3, .int 0), (2, .int 0), (0, .ref (q 12)), (1, .int a1)]) hx hb dX4_rootAt_3 rfl hl (by decide) rfl (fun ls hl => ?_)
  exact t_X4_rootAt_4 C hD hf hP hS (lv_sub hl [2, 3, 1, 0] rfl)

-- X4_pair
theorem hiX4_pair_X4 : ∀ w ∈ u_ws RX4 TX4 12, w ∈ wsX4_pair := mem_run (i := 57) (by decide +kernel)
theorem wdX4_pair_1 : (Cond.fieldLink RX4 18 "CombinatorRing" "current" "LCombinatorRing$Net;") ∈ wsX4_pair := List.mem_of_getElem? (i := 1) rfl
theorem hiX4_pair_X0 : ∀ w ∈ u_ws RX0 TX0 15, w ∈ wsX4_pair := mem_run (i := 69) (by decide +kernel)
def r_pair (sc : NSt) (a1 : Int32) (a2 : Int32) : Option (Int32) := bd (p_at (np sc) a1 1) fun x1 => if x1 = (-1) then some (-1) else if a2 = 0 then some x1 else if a2 = 1 then bd (n_partnerOf sc x1) fun x3 => some x3 else if a2 = 2 then bd (n_ruleOf sc x1) fun x4 => some x4 else if a2 = 3 then bd (n_canGo sc x1) fun x5 => if x5 = 0 then some 0 else some 1 else some (-1)
abbrev rmX4_pair : Room := { frames := 4, cells := 0, slots := 0, locals := 87 }
theorem hdX4_pair : yX4_pair.cls = RX4 ∧ yX4_pair.cls ≠ "java/lang/invoke/MethodHandle" ∧ yX4_pair.cls ≠ "java/lang/invoke/VarHandle" ∧ (parseMethodDescriptor yX4_pair.desc).map (fun d => d.parameters.length) = some 2 := by decide +kernel
set_option maxHeartbeats 4000000 in
set_option maxRecDepth 100000 in
theorem c_X4_pair {l : Launch} {G : Gx} {q : Nat → Nat} {da : Nat} {qc qh qt qn qs qo : Nat → Nat} {im pa : Nat → Option Nat} {yy : va_W} {sr : OSt} {ta : (Nat → Int32)} {sc : NSt} {sh : NSt} {tb : (Nat × OSt)} {sn : NSt} {ss : OSt} {so : OSt} {a1 : Int32} {a2 : Int32} {x : Int32} (hf : r_pair sc a1 a2 = some x) : QM l G yX4_pair wsX4_pair rmX4_pair [.ref (q 12), .int a1, .int a2] (wR G q da qc qh qt qs qo im pa sr ++ (wA G da 500 ta ++ (wN G qc sc ++ (wN G qh sh ++ (wT G qt tb.1 (qn 15) tb.2 ++ (wN G qn sn ++ (wS G qs ss ++ (wS G qo so ++ yy)))))))) (wR G q da qc qh qt qs qo im pa sr ++ (wA G da 500 ta ++ (wN G qc sc ++ (wN G qh sh ++ (wT G qt tb.1 (qn 15) tb.2 ++ (wN G qn sn ++ (wS G qs ss ++ (wS G qo so ++ yy)))))))) (some (.int x)) := by
  refine QM.of (cc := cX4_pair) (maxL := 4) (ret := (some .int)) (by decide) rfl (Nat.le_of_ble_eq_true rfl) ?_
  intro p e s m below meth c A ls C hD hP hS hl
  have hx := C.1
  have hb := C.2.1
  have hl : lv_has ls 4 [(0, .ref (q 12)), (1, .int a1), (2, .int a2)] := hl
  unfold r_pair at hf
  refine lv_aload_n hx hb dX4_pair_0 rfl (lv_at hl 0 rfl) ?_
  refine q_get (q0 := 0) C hP rfl rfl hiX4_pair_X4 2 (by decide) wdX4_pair_1 rfl dX4_pair_1 ?_
  refine q_getN (q0 := 5) C hP rfl rfl hiX4_pair_X0 4 (by decide) (List.mem_of_getElem? (i := 2) rfl) rfl dX4_pair_4 ?_
  refine lv_iload_n hx hb dX4_pair_7 rfl (lv_at hl 1 rfl) ?_
  refine lv_iconst (v := 1) hx hb dX4_pair_8 (by decide) ?_
  obtain ⟨x1, hx1, hf⟩ := bd_some hf
  refine q_Vi C (rc := (RX1, TX1, 2)) (q0 := 10) (ci := 1) (ws' := wR G q da qc qh qt qs qo im pa sr ++ (wA G da 500 ta ++ (wN G qc sc ++ (wN G qh sh ++ (wT G qt tb.1 (qn 15) tb.2 ++ (wN G qn sn ++ (wS G qs ss ++ (wS G qo so ++ yy)))))))) (c_X1_at (qp := qPp qc) hx1) gX4_pair_X1_at rfl ⟨rfl, rfl⟩ hdX1_at ⟨(Nat.le_of_ble_eq_true rfl), (Nat.le_of_ble_eq_true rfl)⟩ rfl hP (dd_R hD) hS rfl rfl (pm_sub pr_2 pm_NP1) (pm_sub pr_2 pm_NP1).symm hl.1 (Nat.le_of_ble_eq_true rfl) ⟨Nat.zero_le _, Nat.zero_le _⟩ rfl dX4_pair_9 (fun H locs hP hS => ?_)
  refine lv_istore_n (lv' := [(3, .int x1), (0, .ref (q 12)), (1, .int a1), (2, .int a2)]) hx hb dX4_pair_12 rfl hl (by decide) rfl (fun ls hl => ?_)
  refine lv_iload_n hx hb dX4_pair_13 rfl (lv_at hl 0 rfl) ?_
  refine lv_iconst (v := (-1)) hx hb dX4_pair_14 (by decide) ?_
  refine lv_icmp_ne (tgt := 20) hx hb dX4_pair_15 (by decide) (fun c2 => ?_) (fun c2 => ?_)
  · have hf := if_f c2 hf
    refine lv_iload_n hx hb dX4_pair_20 rfl (lv_at hl 3 rfl) ?_
    by_cases c7 : a2 = 0
    · have hf := if_t c7 hf
      refine lv_tableIn (off := 31) (tgt := 52) hx hb dX4_pair_21 (by rw [c7]; decide) (by rw [c7]; decide) (by rw [c7]; rfl) (by decide) ?_
      refine lv_iload_n hx hb dX4_pair_52 rfl (lv_at hl 0 rfl) ?_
      obtain rfl := Option.some.inj hf
      exact q_iret C hP hS rfl dX4_pair_53
    have hf := if_f c7 hf
    by_cases c8 : a2 = 1
    · have hf := if_t c8 hf
      refine lv_tableIn (off := 33) (tgt := 54) hx hb dX4_pair_21 (by rw [c8]; decide) (by rw [c8]; decide) (by rw [c8]; rfl) (by decide) ?_
      refine lv_aload_n hx hb dX4_pair_54 rfl (lv_at hl 1 rfl) ?_
      refine q_get (q0 := 0) C hP rfl rfl hiX4_pair_X4 2 (by decide) wdX4_pair_1 rfl dX4_pair_55 ?_
      refine lv_iload_n hx hb dX4_pair_58 rfl (lv_at hl 0 rfl) ?_
      obtain ⟨x3, hx3, hf⟩ := bd_some hf
      refine q_Vi C (rc := (RX0, TX0, 15)) (q0 := 5) (ci := 0) (ws' := wR G q da qc qh qt qs qo im pa sr ++ (wA G da 500 ta ++ (wN G qc sc ++ (wN G qh sh ++ (wT G qt tb.1 (qn 15) tb.2 ++ (wN G qn sn ++ (wS G qs ss ++ (wS G qo so ++ yy)))))))) (c_X0_partnerOf (qn := qc) hx3) gX4_pair_X0_partnerOf rfl ⟨rfl, rfl⟩ hdX0_partnerOf ⟨(Nat.le_of_ble_eq_true rfl), (Nat.le_of_ble_eq_true rfl)⟩ rfl hP (dd_R hD) hS rfl rfl pr_2 pr_2.symm hl.1 (Nat.le_of_ble_eq_true rfl) ⟨Nat.zero_le _, Nat.zero_le _⟩ rfl dX4_pair_59 (fun H locs hP hS => ?_)
      obtain rfl := Option.some.inj hf
      exact q_iret C hP hS rfl dX4_pair_62
    have hf := if_f c8 hf
    by_cases c9 : a2 = 2
    · have hf := if_t c9 hf
      refine lv_tableIn (off := 42) (tgt := 63) hx hb dX4_pair_21 (by rw [c9]; decide) (by rw [c9]; decide) (by rw [c9]; rfl) (by decide) ?_
      refine lv_aload_n hx hb dX4_pair_63 rfl (lv_at hl 1 rfl) ?_
      refine q_get (q0 := 0) C hP rfl rfl hiX4_pair_X4 2 (by decide) wdX4_pair_1 rfl dX4_pair_64 ?_
      refine lv_iload_n hx hb dX4_pair_67 rfl (lv_at hl 0 rfl) ?_
      obtain ⟨x4, hx4, hf⟩ := bd_some hf
      refine q_Vi C (rc := (RX0, TX0, 15)) (q0 := 5) (ci := 0) (ws' := wR G q da qc qh qt qs qo im pa sr ++ (wA G da 500 ta ++ (wN G qc sc ++ (wN G qh sh ++ (wT G qt tb.1 (qn 15) tb.2 ++ (wN G qn sn ++ (wS G qs ss ++ (wS G qo so ++ yy)))))))) (c_X0_ruleOf (qn := qc) hx4) gX4_pair_X0_ruleOf rfl ⟨rfl, rfl⟩ hdX0_ruleOf ⟨(Nat.le_of_ble_eq_true rfl), (Nat.le_of_ble_eq_true rfl)⟩ rfl hP (dd_R hD) hS rfl rfl pr_2 pr_2.symm hl.1 (Nat.le_of_ble_eq_true rfl) ⟨Nat.zero_le _, Nat.zero_le _⟩ rfl dX4_pair_68 (fun H locs hP hS => ?_)
      obtain rfl := Option.some.inj hf
      exact q_iret C hP hS rfl dX4_pair_71
    have hf := if_f c9 hf
    by_cases c10 : a2 = 3
    · have hf := if_t c10 hf
      refine lv_tableIn (off := 51) (tgt := 72) hx hb dX4_pair_21 (by rw [c10]; decide) (by rw [c10]; decide) (by rw [c10]; rfl) (by decide) ?_
      refine lv_aload_n hx hb dX4_pair_72 rfl (lv_at hl 1 rfl) ?_
      refine q_get (q0 := 0) C hP rfl rfl hiX4_pair_X4 2 (by decide) wdX4_pair_1 rfl dX4_pair_73 ?_
      refine lv_iload_n hx hb dX4_pair_76 rfl (lv_at hl 0 rfl) ?_
      obtain ⟨x5, hx5, hf⟩ := bd_some hf
      refine q_Vi C (rc := (RX0, TX0, 15)) (q0 := 5) (ci := 0) (ws' := wR G q da qc qh qt qs qo im pa sr ++ (wA G da 500 ta ++ (wN G qc sc ++ (wN G qh sh ++ (wT G qt tb.1 (qn 15) tb.2 ++ (wN G qn sn ++ (wS G qs ss ++ (wS G qo so ++ yy)))))))) (c_X0_canGo (qn := qc) hx5) gX4_pair_X0_canGo rfl ⟨rfl, rfl⟩ hdX0_canGo ⟨(Nat.le_of_ble_eq_true rfl), (Nat.le_of_ble_eq_true rfl)⟩ rfl hP (dd_R hD) hS rfl rfl pr_2 pr_2.symm hl.1 (Nat.le_of_ble_eq_true rfl) ⟨Nat.zero_le _, Nat.zero_le _⟩ rfl dX4_pair_77 (fun H locs hP hS => ?_)
      refine lv_if_eq (tgt := 87) hx hb dX4_pair_80 (by decide) (fun c6 => ?_) (fun c6 => ?_)
      · have hf := if_t c6 hf
        refine lv_iconst (v := 0) hx hb dX4_pair_87 (by decide) ?_
        obtain rfl := Option.some.inj hf
        exact q_iret C hP hS rfl dX4_pair_88
      · have hf := if_f c6 hf
        refine lv_iconst (v := 1) hx hb dX4_pair_83 (by decide) ?_
        refine lv_goto (tgt := 88) hx hb dX4_pair_84 (by decide) ?_
        obtain rfl := Option.some.inj hf
        exact q_iret C hP hS rfl dX4_pair_88
    have hf := if_f c10 hf
    refine lv_tableOut (tgt := 89) hx hb dX4_pair_21 ?_ (by decide) ?_
    · have z0 := lv_neT (a := 0) c7 (by decide); have z1 := lv_neT (a := 1) c8 (by decide); have z2 := lv_neT (a := 2) c9 (by decide); have z3 := lv_neT (a := 3) c10 (by decide); omega
    refine lv_iconst (v := (-1)) hx hb dX4_pair_89 (by decide) ?_
    obtain rfl := Option.some.inj hf
    exact q_iret C hP hS rfl dX4_pair_90
  · have hf := if_t c2 hf
    refine lv_iconst (v := (-1)) hx hb dX4_pair_18 (by decide) ?_
    obtain rfl := Option.some.inj hf
    exact q_iret C hP hS rfl dX4_pair_19

-- X4_next
theorem hiX4_next_X4 : ∀ w ∈ u_ws RX4 TX4 12, w ∈ wsX4_next := mem_run (i := 12) (by decide +kernel)
theorem wdX4_next_1 : (Cond.fieldLink RX4 18 "CombinatorRing" "current" "LCombinatorRing$Net;") ∈ wsX4_next := List.mem_of_getElem? (i := 1) rfl
def r_next (sc : NSt) (a1 : Int32) : Option (Int32) := bd (n_givenNext sc a1) fun x1 => some x1
abbrev rmX4_next : Room := { frames := 1, cells := 0, slots := 0, locals := 21 }
theorem hdX4_next : yX4_next.cls = RX4 ∧ yX4_next.cls ≠ "java/lang/invoke/MethodHandle" ∧ yX4_next.cls ≠ "java/lang/invoke/VarHandle" ∧ (parseMethodDescriptor yX4_next.desc).map (fun d => d.parameters.length) = some 1 := by decide +kernel
set_option maxHeartbeats 4000000 in
set_option maxRecDepth 100000 in
theorem c_X4_next {l : Launch} {G : Gx} {q : Nat → Nat} {da : Nat} {qc qh qt qn qs qo : Nat → Nat} {im pa : Nat → Option Nat} {yy : va_W} {sr : OSt} {ta : (Nat → Int32)} {sc : NSt} {sh : NSt} {tb : (Nat × OSt)} {sn : NSt} {ss : OSt} {so : OSt} {a1 : Int32} {x : Int32} (hf : r_next sc a1 = some x) : QM l G yX4_next wsX4_next rmX4_next [.ref (q 12), .int a1] (wR G q da qc qh qt qs qo im pa sr ++ (wA G da 500 ta ++ (wN G qc sc ++ (wN G qh sh ++ (wT G qt tb.1 (qn 15) tb.2 ++ (wN G qn sn ++ (wS G qs ss ++ (wS G qo so ++ yy)))))))) (wR G q da qc qh qt qs qo im pa sr ++ (wA G da 500 ta ++ (wN G qc sc ++ (wN G qh sh ++ (wT G qt tb.1 (qn 15) tb.2 ++ (wN G qn sn ++ (wS G qs ss ++ (wS G qo so ++ yy)))))))) (some (.int x)) := by
  refine QM.of (cc := cX4_next) (maxL := 2) (ret := (some .int)) (by decide) rfl (Nat.le_of_ble_eq_true rfl) ?_
  intro p e s m below meth c A ls C hD hP hS hl
  have hx := C.1
  have hb := C.2.1
  have hl : lv_has ls 2 [(0, .ref (q 12)), (1, .int a1)] := hl
  unfold r_next at hf
  refine lv_aload_n hx hb dX4_next_0 rfl (lv_at hl 0 rfl) ?_
  refine q_get (q0 := 0) C hP rfl rfl hiX4_next_X4 2 (by decide) wdX4_next_1 rfl dX4_next_1 ?_
  refine lv_iload_n hx hb dX4_next_4 rfl (lv_at hl 1 rfl) ?_
  obtain ⟨x1, hx1, hf⟩ := bd_some hf
  refine q_Vi C (rc := (RX0, TX0, 15)) (q0 := 5) (ci := 0) (ws' := wR G q da qc qh qt qs qo im pa sr ++ (wA G da 500 ta ++ (wN G qc sc ++ (wN G qh sh ++ (wT G qt tb.1 (qn 15) tb.2 ++ (wN G qn sn ++ (wS G qs ss ++ (wS G qo so ++ yy)))))))) (c_X0_givenNext (qn := qc) hx1) gX4_next_X0_givenNext rfl ⟨rfl, rfl⟩ hdX0_givenNext ⟨(Nat.le_of_ble_eq_true rfl), (Nat.le_of_ble_eq_true rfl)⟩ rfl hP (dd_R hD) hS rfl rfl pr_2 pr_2.symm hl.1 (Nat.le_of_ble_eq_true rfl) ⟨Nat.zero_le _, Nat.zero_le _⟩ rfl dX4_next_5 (fun H locs hP hS => ?_)
  obtain rfl := Option.some.inj hf
  exact q_iret C hP hS rfl dX4_next_8

-- X4_seen
theorem hiX4_seen_X4 : ∀ w ∈ u_ws RX4 TX4 12, w ∈ wsX4_seen := mem_run (i := 59) (by decide +kernel)
theorem wdX4_seen_1 : (Cond.fieldLink RX4 35 "CombinatorRing" "sight" "LCombinatorRing$Sight;") ∈ wsX4_seen := List.mem_of_getElem? (i := 1) rfl
theorem wdX4_seen_2 : (Cond.fieldLink RX4 18 "CombinatorRing" "current" "LCombinatorRing$Net;") ∈ wsX4_seen := List.mem_of_getElem? (i := 2) rfl
theorem hiX4_seen_X2 : ∀ w ∈ u_ws RX2 TX2 8, w ∈ wsX4_seen := mem_run (i := 71) (by decide +kernel)
def r_seen (sc : NSt) (ss : OSt)  : Option (Int32 × OSt) := bd (g_look ss sc) fun x1 => some ((x1.1 3), x1)
abbrev rmX4_seen : Room := { frames := 5, cells := 0, slots := 0, locals := 113 }
theorem hdX4_seen : yX4_seen.cls = RX4 ∧ yX4_seen.cls ≠ "java/lang/invoke/MethodHandle" ∧ yX4_seen.cls ≠ "java/lang/invoke/VarHandle" ∧ (parseMethodDescriptor yX4_seen.desc).map (fun d => d.parameters.length) = some 0 := by decide +kernel
set_option maxHeartbeats 4000000 in
set_option maxRecDepth 100000 in
theorem c_X4_seen {l : Launch} {G : Gx} {q : Nat → Nat} {da : Nat} {qc qh qt qn qs qo : Nat → Nat} {im pa : Nat → Option Nat} {yy : va_W} {sr : OSt} {ta : (Nat → Int32)} {sc : NSt} {sh : NSt} {tb : (Nat × OSt)} {sn : NSt} {ss : OSt} {so : OSt}  {x : Int32 × OSt} (hf : r_seen sc ss = some x) : QM l G yX4_seen wsX4_seen rmX4_seen [.ref (q 12)] (wR G q da qc qh qt qs qo im pa sr ++ (wA G da 500 ta ++ (wN G qc sc ++ (wN G qh sh ++ (wT G qt tb.1 (qn 15) tb.2 ++ (wN G qn sn ++ (wS G qs ss ++ (wS G qo so ++ yy)))))))) (wR G q da qc qh qt qs qo im pa sr ++ (wA G da 500 ta ++ (wN G qc sc ++ (wN G qh sh ++ (wT G qt tb.1 (qn 15) tb.2 ++ (wN G qn sn ++ (wS G qs x.2 ++ (wS G qo so ++ yy)))))))) (some (.int x.1)) := by
  refine QM.of (cc := cX4_seen) (maxL := 1) (ret := (some .int)) (by decide) rfl (Nat.le_of_ble_eq_true rfl) ?_
  intro p e s m below meth c A ls C hD hP hS hl
  have hx := C.1
  have hb := C.2.1
  have hl : lv_has ls 1 [(0, .ref (q 12))] := hl
  unfold r_seen at hf
  refine lv_aload_n hx hb dX4_seen_0 rfl (lv_at hl 0 rfl) ?_
  refine q_get (q0 := 0) C hP rfl rfl hiX4_seen_X4 5 (by decide) wdX4_seen_1 rfl dX4_seen_1 ?_
  refine lv_aload_n hx hb dX4_seen_4 rfl (lv_at hl 0 rfl) ?_
  refine q_get (q0 := 0) C hP rfl rfl hiX4_seen_X4 2 (by decide) wdX4_seen_2 rfl dX4_seen_5 ?_
  obtain ⟨x1, hx1, hf⟩ := bd_some hf
  refine q_Vv C (rc := (RX2, TX2, 8)) (q0 := 43) (ci := 2) (ws' := wR G q da qc qh qt qs qo im pa sr ++ (wA G da 500 ta ++ (wN G qc sc ++ (wN G qh sh ++ (wT G qt tb.1 (qn 15) tb.2 ++ (wN G qn sn ++ (wS G qs x1 ++ (wS G qo so ++ yy)))))))) (c_X2_look (qs := qs) (qn := qc) hx1) gX4_seen_X2_look rfl ⟨rfl, rfl⟩ hdX2_look ⟨(Nat.le_of_ble_eq_true rfl), (Nat.le_of_ble_eq_true rfl)⟩ rfl hP (dd_R hD) hS rfl rfl pr_62 pr_62.symm hl.1 (Nat.le_of_ble_eq_true rfl) ⟨Nat.zero_le _, Nat.zero_le _⟩ rfl dX4_seen_8 (fun H locs hP hS => ?_)
  refine lv_aload_n hx hb dX4_seen_11 rfl (lv_at hl 0 rfl) ?_
  refine q_get (q0 := 0) C hP rfl rfl hiX4_seen_X4 5 (by decide) wdX4_seen_1 rfl dX4_seen_12 ?_
  refine q_getN (q0 := 43) C hP rfl rfl hiX4_seen_X2 3 (by decide) (List.mem_of_getElem? (i := 17) rfl) rfl dX4_seen_15 ?_
  obtain rfl := Option.some.inj hf
  exact q_iret C hP hS rfl dX4_seen_18

-- X4_met
theorem hiX4_met_X4 : ∀ w ∈ u_ws RX4 TX4 12, w ∈ wsX4_met := mem_run (i := 59) (by decide +kernel)
theorem wdX4_met_1 : (Cond.fieldLink RX4 35 "CombinatorRing" "sight" "LCombinatorRing$Sight;") ∈ wsX4_met := List.mem_of_getElem? (i := 1) rfl
theorem wdX4_met_2 : (Cond.fieldLink RX4 18 "CombinatorRing" "current" "LCombinatorRing$Net;") ∈ wsX4_met := List.mem_of_getElem? (i := 2) rfl
theorem hiX4_met_X2 : ∀ w ∈ u_ws RX2 TX2 8, w ∈ wsX4_met := mem_run (i := 71) (by decide +kernel)
def r_met (sc : NSt) (ss : OSt) (a1 : Int32) (a2 : Int32) : Option (Int32 × OSt) := bd (g_look ss sc) fun x1 => if a1 < 0 then some ((-1), x1) else if a1 < (x1.1 3) then if a2 = 0 then gd a1 300 (some ((x1.2 0 a1.toNatClampNeg), x1)) else if a2 = 1 then gd a1 300 (some ((x1.2 1 a1.toNatClampNeg), x1)) else some ((-1), x1) else some ((-1), x1)
abbrev rmX4_met : Room := { frames := 5, cells := 0, slots := 0, locals := 113 }
theorem hdX4_met : yX4_met.cls = RX4 ∧ yX4_met.cls ≠ "java/lang/invoke/MethodHandle" ∧ yX4_met.cls ≠ "java/lang/invoke/VarHandle" ∧ (parseMethodDescriptor yX4_met.desc).map (fun d => d.parameters.length) = some 2 := by decide +kernel
set_option maxHeartbeats 4000000 in
set_option maxRecDepth 100000 in
theorem c_X4_met {l : Launch} {G : Gx} {q : Nat → Nat} {da : Nat} {qc qh qt qn qs qo : Nat → Nat} {im pa : Nat → Option Nat} {yy : va_W} {sr : OSt} {ta : (Nat → Int32)} {sc : NSt} {sh : NSt} {tb : (Nat × OSt)} {sn : NSt} {ss : OSt} {so : OSt} {a1 : Int32} {a2 : Int32} {x : Int32 × OSt} (hf : r_met sc ss a1 a2 = some x) : QM l G yX4_met wsX4_met rmX4_met [.ref (q 12), .int a1, .int a2] (wR G q da qc qh qt qs qo im pa sr ++ (wA G da 500 ta ++ (wN G qc sc ++ (wN G qh sh ++ (wT G qt tb.1 (qn 15) tb.2 ++ (wN G qn sn ++ (wS G qs ss ++ (wS G qo so ++ yy)))))))) (wR G q da qc qh qt qs qo im pa sr ++ (wA G da 500 ta ++ (wN G qc sc ++ (wN G qh sh ++ (wT G qt tb.1 (qn 15) tb.2 ++ (wN G qn sn ++ (wS G qs x.2 ++ (wS G qo so ++ yy)))))))) (some (.int x.1)) := by
  refine QM.of (cc := cX4_met) (maxL := 3) (ret := (some .int)) (by decide) rfl (Nat.le_of_ble_eq_true rfl) ?_
  intro p e s m below meth c A ls C hD hP hS hl
  have hx := C.1
  have hb := C.2.1
  have hl : lv_has ls 3 [(0, .ref (q 12)), (1, .int a1), (2, .int a2)] := hl
  unfold r_met at hf
  refine lv_aload_n hx hb dX4_met_0 rfl (lv_at hl 0 rfl) ?_
  refine q_get (q0 := 0) C hP rfl rfl hiX4_met_X4 5 (by decide) wdX4_met_1 rfl dX4_met_1 ?_
  refine lv_aload_n hx hb dX4_met_4 rfl (lv_at hl 0 rfl) ?_
  refine q_get (q0 := 0) C hP rfl rfl hiX4_met_X4 2 (by decide) wdX4_met_2 rfl dX4_met_5 ?_
  obtain ⟨x1, hx1, hf⟩ := bd_some hf
  refine q_Vv C (rc := (RX2, TX2, 8)) (q0 := 43) (ci := 2) (ws' := wR G q da qc qh qt qs qo im pa sr ++ (wA G da 500 ta ++ (wN G qc sc ++ (wN G qh sh ++ (wT G qt tb.1 (qn 15) tb.2 ++ (wN G qn sn ++ (wS G qs x1 ++ (wS G qo so ++ yy)))))))) (c_X2_look (qs := qs) (qn := qc) hx1) gX4_met_X2_look rfl ⟨rfl, rfl⟩ hdX2_look ⟨(Nat.le_of_ble_eq_true rfl), (Nat.le_of_ble_eq_true rfl)⟩ rfl hP (dd_R hD) hS rfl rfl pr_62 pr_62.symm hl.1 (Nat.le_of_ble_eq_true rfl) ⟨Nat.zero_le _, Nat.zero_le _⟩ rfl dX4_met_8 (fun H locs hP hS => ?_)
  refine lv_iload_n hx hb dX4_met_11 rfl (lv_at hl 1 rfl) ?_
  refine lv_if_lt (tgt := 26) hx hb dX4_met_12 (by decide) (fun c2 => ?_) (fun c2 => ?_)
  · have hf := if_t c2 hf
    refine lv_iconst (v := (-1)) hx hb dX4_met_26 (by decide) ?_
    obtain rfl := Option.some.inj hf
    exact q_iret C hP hS rfl dX4_met_27
  · have hf := if_f c2 hf
    refine lv_iload_n hx hb dX4_met_15 rfl (lv_at hl 1 rfl) ?_
    refine lv_aload_n hx hb dX4_met_16 rfl (lv_at hl 0 rfl) ?_
    refine q_get (q0 := 0) C hP rfl rfl hiX4_met_X4 5 (by decide) wdX4_met_1 rfl dX4_met_17 ?_
    refine q_getN (q0 := 43) C hP rfl rfl hiX4_met_X2 3 (by decide) (List.mem_of_getElem? (i := 17) rfl) rfl dX4_met_20 ?_
    refine lv_icmp_lt (tgt := 28) hx hb dX4_met_23 (by decide) (fun c3 => ?_) (fun c3 => ?_)
    · have hf := if_t c3 hf
      refine lv_iload_n hx hb dX4_met_28 rfl (lv_at hl 2 rfl) ?_
      by_cases c4 : a2 = 0
      · have hf := if_t c4 hf
        refine lv_lookup (off := 27) (tgt := 56) hx hb dX4_met_29 (by decide) (by rw [c4]; rfl) (by decide) ?_
        refine lv_aload_n hx hb dX4_met_56 rfl (lv_at hl 0 rfl) ?_
        refine q_get (q0 := 0) C hP rfl rfl hiX4_met_X4 5 (by decide) wdX4_met_1 rfl dX4_met_57 ?_
        refine q_getN (q0 := 43) C hP rfl rfl hiX4_met_X2 0 (by decide) (List.mem_of_getElem? (i := 15) rfl) rfl dX4_met_60 ?_
        refine lv_iload_n hx hb dX4_met_63 rfl (lv_at hl 1 rfl) ?_
        obtain ⟨hin, hf⟩ := gd_some hf
        refine q_iald C hP (q0 := 44) rfl rfl hin dX4_met_64 ?_
        obtain rfl := Option.some.inj hf
        exact q_iret C hP hS rfl dX4_met_65
      have hf := if_f c4 hf
      by_cases c5 : a2 = 1
      · have hf := if_t c5 hf
        refine lv_lookup (off := 37) (tgt := 66) hx hb dX4_met_29 (by decide) (by rw [c5]; rfl) (by decide) ?_
        refine lv_aload_n hx hb dX4_met_66 rfl (lv_at hl 0 rfl) ?_
        refine q_get (q0 := 0) C hP rfl rfl hiX4_met_X4 5 (by decide) wdX4_met_1 rfl dX4_met_67 ?_
        refine q_getN (q0 := 43) C hP rfl rfl hiX4_met_X2 1 (by decide) (List.mem_of_getElem? (i := 16) rfl) rfl dX4_met_70 ?_
        refine lv_iload_n hx hb dX4_met_73 rfl (lv_at hl 1 rfl) ?_
        obtain ⟨hin, hf⟩ := gd_some hf
        refine q_iald C hP (q0 := 45) rfl rfl hin dX4_met_74 ?_
        obtain rfl := Option.some.inj hf
        exact q_iret C hP hS rfl dX4_met_75
      have hf := if_f c5 hf
      refine lv_lookup (off := 47) (tgt := 76) hx hb dX4_met_29 (by decide) (by show Op.lookupswitch.offset [(0, 27), (1, 37)] 47 _ = _; rw [lv_osw c4 (by decide), lv_osw c5 (by decide)]; rfl) (by decide) ?_
      refine lv_iconst (v := (-1)) hx hb dX4_met_76 (by decide) ?_
      obtain rfl := Option.some.inj hf
      exact q_iret C hP hS rfl dX4_met_77
    · have hf := if_f c3 hf
      refine lv_iconst (v := (-1)) hx hb dX4_met_26 (by decide) ?_
      obtain rfl := Option.some.inj hf
      exact q_iret C hP hS rfl dX4_met_27

-- X4_tried
theorem hiX4_tried_X4 : ∀ w ∈ u_ws RX4 TX4 12, w ∈ wsX4_tried := mem_run (i := 156) (by decide +kernel)
theorem wdX4_tried_1 : (Cond.fieldLink RX4 22 "CombinatorRing" "thought" "LCombinatorRing$Net;") ∈ wsX4_tried := List.mem_of_getElem? (i := 1) rfl
theorem wdX4_tried_2 : (Cond.fieldLink RX4 18 "CombinatorRing" "current" "LCombinatorRing$Net;") ∈ wsX4_tried := List.mem_of_getElem? (i := 2) rfl
theorem hiX4_tried_X0 : ∀ w ∈ u_ws RX0 TX0 15, w ∈ wsX4_tried := mem_run (i := 168) (by decide +kernel)
def r_tried (sc : NSt) (sh : NSt) (a1 : Int32) (a2 : Int32) (a3 : Int32) (a4 : Int32) : Option (Int32 × NSt) := bd (r_isOrder a1) fun x1 => if x1 = 0 then some ((-1), sh) else bd (r_isStepLimit a2) fun x3 => if x3 = 0 then some ((-1), sh) else if a4 < 0 then some ((-1), sh) else if a4 ≤ 2 then bd (n_become sh sc) fun x7 => bd (n_goOn x7 a1 a2 a3) fun x8 => if a4 = 0 then some (x8.1, x8.2) else if a4 = 1 then some ((ni x8.2 14), x8.2) else bd (p_size (np x8.2) 1) fun x9 => some (x9, x8.2) else some ((-1), sh)
abbrev rmX4_tried : Room := { frames := 6, cells := 0, slots := 0, locals := 146 }
theorem hdX4_tried : yX4_tried.cls = RX4 ∧ yX4_tried.cls ≠ "java/lang/invoke/MethodHandle" ∧ yX4_tried.cls ≠ "java/lang/invoke/VarHandle" ∧ (parseMethodDescriptor yX4_tried.desc).map (fun d => d.parameters.length) = some 4 := by decide +kernel
set_option maxHeartbeats 4000000 in
set_option maxRecDepth 100000 in
theorem c_X4_tried {l : Launch} {G : Gx} {q : Nat → Nat} {da : Nat} {qc qh qt qn qs qo : Nat → Nat} {im pa : Nat → Option Nat} {yy : va_W} {sr : OSt} {ta : (Nat → Int32)} {sc : NSt} {sh : NSt} {tb : (Nat × OSt)} {sn : NSt} {ss : OSt} {so : OSt} {a1 : Int32} {a2 : Int32} {a3 : Int32} {a4 : Int32} {x : Int32 × NSt} (hf : r_tried sc sh a1 a2 a3 a4 = some x) : QM l G yX4_tried wsX4_tried rmX4_tried [.ref (q 12), .int a1, .int a2, .int a3, .int a4] (wR G q da qc qh qt qs qo im pa sr ++ (wA G da 500 ta ++ (wN G qc sc ++ (wN G qh sh ++ (wT G qt tb.1 (qn 15) tb.2 ++ (wN G qn sn ++ (wS G qs ss ++ (wS G qo so ++ yy)))))))) (wR G q da qc qh qt qs qo im pa sr ++ (wA G da 500 ta ++ (wN G qc sc ++ (wN G qh x.2 ++ (wT G qt tb.1 (qn 15) tb.2 ++ (wN G qn sn ++ (wS G qs ss ++ (wS G qo so ++ yy)))))))) (some (.int x.1)) := by
  refine QM.of (cc := cX4_tried) (maxL := 6) (ret := (some .int)) (by decide) rfl (Nat.le_of_ble_eq_true rfl) ?_
  intro p e s m below meth c A ls C hD hP hS hl
  have hx := C.1
  have hb := C.2.1
  have hl : lv_has ls 6 [(0, .ref (q 12)), (1, .int a1), (2, .int a2), (3, .int a3), (4, .int a4)] := hl
  unfold r_tried at hf
  refine lv_iload_n hx hb dX4_tried_0 rfl (lv_at hl 1 rfl) ?_
  obtain ⟨x1, hx1, hf⟩ := bd_some hf
  refine q_Si C (ws' := wR G q da qc qh qt qs qo im pa sr ++ (wA G da 500 ta ++ (wN G qc sc ++ (wN G qh sh ++ (wT G qt tb.1 (qn 15) tb.2 ++ (wN G qn sn ++ (wS G qs ss ++ (wS G qo so ++ yy)))))))) (wr := []) (c_X4_isOrder (w := wR G q da qc qh qt qs qo im pa sr ++ (wA G da 500 ta ++ (wN G qc sc ++ (wN G qh sh ++ (wT G qt tb.1 (qn 15) tb.2 ++ (wN G qn sn ++ (wS G qs ss ++ (wS G qo so ++ yy)))))))) hx1) gX4_tried_X4_isOrder rfl ⟨rfl, rfl⟩ hdX4_isOrder ⟨(Nat.le_of_ble_eq_true rfl), (Nat.le_of_ble_eq_true rfl)⟩ rfl hP (dd_R hD) hS (List.Perm.refl _) (List.Perm.refl _) hl.1 (Nat.le_of_ble_eq_true rfl) ⟨Nat.zero_le _, Nat.zero_le _⟩ rfl dX4_tried_1 (fun H locs hP hS => ?_)
  refine lv_if_eq (tgt := 25) hx hb dX4_tried_4 (by decide) (fun c2 => ?_) (fun c2 => ?_)
  · have hf := if_t c2 hf
    refine lv_iconst (v := (-1)) hx hb dX4_tried_25 (by decide) ?_
    obtain rfl := Option.some.inj hf
    exact q_iret C hP hS rfl dX4_tried_26
  · have hf := if_f c2 hf
    refine lv_iload_n hx hb dX4_tried_7 rfl (lv_at hl 2 rfl) ?_
    obtain ⟨x3, hx3, hf⟩ := bd_some hf
    refine q_Si C (ws' := wR G q da qc qh qt qs qo im pa sr ++ (wA G da 500 ta ++ (wN G qc sc ++ (wN G qh sh ++ (wT G qt tb.1 (qn 15) tb.2 ++ (wN G qn sn ++ (wS G qs ss ++ (wS G qo so ++ yy)))))))) (wr := []) (c_X4_isStepLimit (w := wR G q da qc qh qt qs qo im pa sr ++ (wA G da 500 ta ++ (wN G qc sc ++ (wN G qh sh ++ (wT G qt tb.1 (qn 15) tb.2 ++ (wN G qn sn ++ (wS G qs ss ++ (wS G qo so ++ yy)))))))) hx3) gX4_tried_X4_isStepLimit rfl ⟨rfl, rfl⟩ hdX4_isStepLimit ⟨(Nat.le_of_ble_eq_true rfl), (Nat.le_of_ble_eq_true rfl)⟩ rfl hP (dd_R hD) hS (List.Perm.refl _) (List.Perm.refl _) hl.1 (Nat.le_of_ble_eq_true rfl) ⟨Nat.zero_le _, Nat.zero_le _⟩ rfl dX4_tried_8 (fun H locs hP hS => ?_)
    refine lv_if_eq (tgt := 25) hx hb dX4_tried_11 (by decide) (fun c4 => ?_) (fun c4 => ?_)
    · have hf := if_t c4 hf
      refine lv_iconst (v := (-1)) hx hb dX4_tried_25 (by decide) ?_
      obtain rfl := Option.some.inj hf
      exact q_iret C hP hS rfl dX4_tried_26
    · have hf := if_f c4 hf
      refine lv_iload hx hb dX4_tried_14 (lv_at hl 4 rfl) ?_
      refine lv_if_lt (tgt := 25) hx hb dX4_tried_16 (by decide) (fun c5 => ?_) (fun c5 => ?_)
      · have hf := if_t c5 hf
        refine lv_iconst (v := (-1)) hx hb dX4_tried_25 (by decide) ?_
        obtain rfl := Option.some.inj hf
        exact q_iret C hP hS rfl dX4_tried_26
      · have hf := if_f c5 hf
        refine lv_iload hx hb dX4_tried_19 (lv_at hl 4 rfl) ?_
        refine lv_iconst (v := 2) hx hb dX4_tried_21 (by decide) ?_
        refine lv_icmp_le (tgt := 27) hx hb dX4_tried_22 (by decide) (fun c6 => ?_) (fun c6 => ?_)
        · have hf := if_t c6 hf
          refine lv_aload_n hx hb dX4_tried_27 rfl (lv_at hl 0 rfl) ?_
          refine q_get (q0 := 0) C hP rfl rfl hiX4_tried_X4 3 (by decide) wdX4_tried_1 rfl dX4_tried_28 ?_
          refine lv_aload_n hx hb dX4_tried_31 rfl (lv_at hl 0 rfl) ?_
          refine q_get (q0 := 0) C hP rfl rfl hiX4_tried_X4 2 (by decide) wdX4_tried_2 rfl dX4_tried_32 ?_
          obtain ⟨x7, hx7, hf⟩ := bd_some hf
          refine q_Vv C (rc := (RX0, TX0, 15)) (q0 := 16) (ci := 0) (ws' := wR G q da qc qh qt qs qo im pa sr ++ (wA G da 500 ta ++ (wN G qc sc ++ (wN G qh x7 ++ (wT G qt tb.1 (qn 15) tb.2 ++ (wN G qn sn ++ (wS G qs ss ++ (wS G qo so ++ yy)))))))) (c_X0_become (qn := qh) (qn2 := qc) hx7) gX4_tried_X0_become rfl ⟨rfl, rfl⟩ hdX0_become ⟨(Nat.le_of_ble_eq_true rfl), (Nat.le_of_ble_eq_true rfl)⟩ rfl hP (dd_R hD) hS rfl rfl pr_32 pr_32.symm hl.1 (Nat.le_of_ble_eq_true rfl) ⟨Nat.zero_le _, Nat.zero_le _⟩ rfl dX4_tried_35 (fun H locs hP hS => ?_)
          refine lv_aload_n hx hb dX4_tried_38 rfl (lv_at hl 0 rfl) ?_
          refine q_get (q0 := 0) C hP rfl rfl hiX4_tried_X4 3 (by decide) wdX4_tried_1 rfl dX4_tried_39 ?_
          refine lv_iload_n hx hb dX4_tried_42 rfl (lv_at hl 1 rfl) ?_
          refine lv_iload_n hx hb dX4_tried_43 rfl (lv_at hl 2 rfl) ?_
          refine lv_iload_n hx hb dX4_tried_44 rfl (lv_at hl 3 rfl) ?_
          obtain ⟨x8, hx8, hf⟩ := bd_some hf
          refine q_Vi C (rc := (RX0, TX0, 15)) (q0 := 16) (ci := 0) (ws' := wR G q da qc qh qt qs qo im pa sr ++ (wA G da 500 ta ++ (wN G qc sc ++ (wN G qh x8.2 ++ (wT G qt tb.1 (qn 15) tb.2 ++ (wN G qn sn ++ (wS G qs ss ++ (wS G qo so ++ yy)))))))) (c_X0_goOn (qn := qh) hx8) gX4_tried_X0_goOn rfl ⟨rfl, rfl⟩ hdX0_goOn ⟨(Nat.le_of_ble_eq_true rfl), (Nat.le_of_ble_eq_true rfl)⟩ rfl hP (dd_R hD) hS rfl rfl pr_3 pr_3.symm hl.1 (Nat.le_of_ble_eq_true rfl) ⟨Nat.zero_le _, Nat.zero_le _⟩ rfl dX4_tried_45 (fun H locs hP hS => ?_)
          refine lv_istore (lv' := [(5, .int x8.1), (0, .ref (q 12)), (1, .int a1), (2, .int a2), (3, .int a3), (4, .int a4)]) hx hb dX4_tried_48 hl (by decide) rfl (fun ls hl => ?_)
          refine lv_iload hx hb dX4_tried_50 (lv_at hl 5 rfl) ?_
          by_cases c10 : a4 = 0
          · have hf := if_t c10 hf
            refine lv_lookup (off := 28) (tgt := 80) hx hb dX4_tried_52 (by decide) (by rw [c10]; rfl) (by decide) ?_
            refine lv_iload hx hb dX4_tried_80 (lv_at hl 0 rfl) ?_
            obtain rfl := Option.some.inj hf
            exact q_iret C hP hS rfl dX4_tried_82
          have hf := if_f c10 hf
          by_cases c11 : a4 = 1
          · have hf := if_t c11 hf
            refine lv_lookup (off := 31) (tgt := 83) hx hb dX4_tried_52 (by decide) (by rw [c11]; rfl) (by decide) ?_
            refine lv_aload_n hx hb dX4_tried_83 rfl (lv_at hl 1 rfl) ?_
            refine q_get (q0 := 0) C hP rfl rfl hiX4_tried_X4 3 (by decide) wdX4_tried_1 rfl dX4_tried_84 ?_
            refine q_getN (q0 := 16) C hP rfl rfl hiX4_tried_X0 14 (by decide) (List.mem_of_getElem? (i := 11) rfl) rfl dX4_tried_87 ?_
            obtain rfl := Option.some.inj hf
            exact q_iret C hP hS rfl dX4_tried_90
          have hf := if_f c11 hf
          refine lv_lookup (off := 39) (tgt := 91) hx hb dX4_tried_52 (by decide) (by show Op.lookupswitch.offset [(0, 28), (1, 31)] 39 _ = _; rw [lv_osw c10 (by decide), lv_osw c11 (by decide)]; rfl) (by decide) ?_
          refine lv_aload_n hx hb dX4_tried_91 rfl (lv_at hl 1 rfl) ?_
          refine q_get (q0 := 0) C hP rfl rfl hiX4_tried_X4 3 (by decide) wdX4_tried_1 rfl dX4_tried_92 ?_
          refine q_getN (q0 := 16) C hP rfl rfl hiX4_tried_X0 4 (by decide) (List.mem_of_getElem? (i := 2) rfl) rfl dX4_tried_95 ?_
          refine lv_iconst (v := 1) hx hb dX4_tried_98 (by decide) ?_
          obtain ⟨x9, hx9, hf⟩ := bd_some hf
          refine q_Vi C (rc := (RX1, TX1, 2)) (q0 := 21) (ci := 1) (ws' := wR G q da qc qh qt qs qo im pa sr ++ (wA G da 500 ta ++ (wN G qc sc ++ (wN G qh x8.2 ++ (wT G qt tb.1 (qn 15) tb.2 ++ (wN G qn sn ++ (wS G qs ss ++ (wS G qo so ++ yy)))))))) (c_X1_size (qp := qPp qh) hx9) gX4_tried_X1_size rfl ⟨rfl, rfl⟩ hdX1_size ⟨(Nat.le_of_ble_eq_true rfl), (Nat.le_of_ble_eq_true rfl)⟩ rfl hP (dd_R hD) hS rfl rfl (pm_sub pr_3 pm_NP1) (pm_sub pr_3 pm_NP1).symm hl.1 (Nat.le_of_ble_eq_true rfl) ⟨Nat.zero_le _, Nat.zero_le _⟩ rfl dX4_tried_99 (fun H locs hP hS => ?_)
          obtain rfl := Option.some.inj hf
          exact q_iret C hP hS rfl dX4_tried_102
        · have hf := if_f c6 hf
          refine lv_iconst (v := (-1)) hx hb dX4_tried_25 (by decide) ?_
          obtain rfl := Option.some.inj hf
          exact q_iret C hP hS rfl dX4_tried_26

-- X4_rounds
theorem hiX4_rounds_X4 : ∀ w ∈ u_ws RX4 TX4 12, w ∈ wsX4_rounds := mem_run (i := 144) (by decide +kernel)
theorem wdX4_rounds_1 : (Cond.fieldLink RX4 22 "CombinatorRing" "thought" "LCombinatorRing$Net;") ∈ wsX4_rounds := List.mem_of_getElem? (i := 1) rfl
theorem wdX4_rounds_2 : (Cond.fieldLink RX4 18 "CombinatorRing" "current" "LCombinatorRing$Net;") ∈ wsX4_rounds := List.mem_of_getElem? (i := 2) rfl
def r_rounds_13 : Nat → NSt → NSt → Int32 → Option (Int32 × NSt)
  | 0, _, _, _ => none
  | n + 1, sc, sh, v1 => if 500 < v1 then some ((-2), sh) else bd (n_goRound sh) fun x3 => if x3.1 = 0 then some (v1, x3.2) else r_rounds_13 n sc x3.2 (v1 + 1)
def r_rounds (sc : NSt) (sh : NSt)  : Option (Int32 × NSt) := bd (n_become sh sc) fun x1 => r_rounds_13 20000 sc x1 0
abbrev rmX4_rounds : Room := { frames := 6, cells := 0, slots := 0, locals := 143 }
theorem hdX4_rounds : yX4_rounds.cls = RX4 ∧ yX4_rounds.cls ≠ "java/lang/invoke/MethodHandle" ∧ yX4_rounds.cls ≠ "java/lang/invoke/VarHandle" ∧ (parseMethodDescriptor yX4_rounds.desc).map (fun d => d.parameters.length) = some 0 := by decide +kernel
set_option maxHeartbeats 4000000 in
set_option maxRecDepth 100000 in
theorem t_X4_rounds_13 {p : Program} {l : Launch} {e : Env} {s : State} {m : MethodId} {args : Array Value} {below : List Frame} {meth : Method} {c : Code} {A : Nat → Prop} {G : Gx} {q : Nat → Nat} {da : Nat} {qc qh qt qn qs qo : Nat → Nat} {im pa : Nat → Option Nat} {yy : va_W} {sr0 : OSt} {ta0 : (Nat → Int32)} {sc0 : NSt} {sh0 : NSt} {tb0 : (Nat × OSt)} {sn0 : NSt} {ss0 : OSt} {so0 : OSt} (C : Cx p s m args meth c G cX4_rounds wsX4_rounds RX4 (some .int) 2 A) (hD : va_D A (wR G q da qc qh qt qs qo im pa sr0 ++ (wA G da 500 ta0 ++ (wN G qc sc0 ++ (wN G qh sh0 ++ (wT G qt tb0.1 (qn 15) tb0.2 ++ (wN G qn sn0 ++ (wS G qs ss0 ++ (wS G qo so0 ++ yy))))))))) :
    ∀ {n : Nat} {sr : OSt} {ta : (Nat → Int32)} {sc : NSt} {sh : NSt} {tb : (Nat × OSt)} {sn : NSt} {ss : OSt} {so : OSt} {v1 : Int32} {x : Int32 × NSt}, r_rounds_13 n sc sh v1 = some x → ∀ {H : Heap} {locs : List Loc} {ls : Array Slot}, va_P G.1 vwCl (wR G q da qc qh qt qs qo im pa sr ++ (wA G da 500 ta ++ (wN G qc sc ++ (wN G qh sh ++ (wT G qt tb.1 (qn 15) tb.2 ++ (wN G qn sn ++ (wS G qs ss ++ (wS G qo so ++ yy)))))))) H → va_S A s.heap H locs → lv_has ls 2 [(0, .ref (q 12)), (1, .int v1)] → W p l e rmX4_rounds s m args below meth c H locs 0 0 (MQ below (qE G A (wR G q da qc qh qt qs qo im pa sr ++ (wA G da 500 ta ++ (wN G qc sc ++ (wN G qh x.2 ++ (wT G qt tb.1 (qn 15) tb.2 ++ (wN G qn sn ++ (wS G qs ss ++ (wS G qo so ++ yy)))))))) (some (.int x.1))) args s 0 0 A) (F0 m 13 ls []) := by
  have hx := C.1
  have hb := C.2.1
  intro n
  induction n with
  | zero => intro sr ta sc sh tb sn ss so v1 x hf; cases hf
  | succ n ih =>
    intro sr ta sc sh tb sn ss so v1 x hf H locs ls hP hS hl
    rw [r_rounds_13] at hf
    refine lv_iload_n hx hb dX4_rounds_13 rfl (lv_at hl 1 rfl) ?_
    refine lv_sipush (v := 500) hx hb dX4_rounds_14 (by decide) ?_
    refine lv_icmp_gt (tgt := 38) hx hb dX4_rounds_17 (by decide) (fun c2 => ?_) (fun c2 => ?_)
    · have hf := if_t c2 hf
      refine lv_bipush (v := (-2)) hx hb dX4_rounds_38 (by decide) ?_
      obtain rfl := Option.some.inj hf
      exact q_iret C hP hS rfl dX4_rounds_40
    · have hf := if_f c2 hf
      refine lv_aload_n hx hb dX4_rounds_20 rfl (lv_at hl 0 rfl) ?_
      refine q_get (q0 := 0) C hP rfl rfl hiX4_rounds_X4 3 (by decide) wdX4_rounds_1 rfl dX4_rounds_21 ?_
      obtain ⟨x3, hx3, hf⟩ := bd_some hf
      refine q_Vi C (rc := (RX0, TX0, 15)) (q0 := 16) (ci := 0) (ws' := wR G q da qc qh qt qs qo im pa sr ++ (wA G da 500 ta ++ (wN G qc sc ++ (wN G qh x3.2 ++ (wT G qt tb.1 (qn 15) tb.2 ++ (wN G qn sn ++ (wS G qs ss ++ (wS G qo so ++ yy)))))))) (c_X0_goRound (qn := qh) hx3) gX4_rounds_X0_goRound rfl ⟨rfl, rfl⟩ hdX0_goRound ⟨(Nat.le_of_ble_eq_true rfl), (Nat.le_of_ble_eq_true rfl)⟩ rfl hP (dd_R hD) hS rfl rfl pr_3 pr_3.symm hl.1 (Nat.le_of_ble_eq_true rfl) ⟨Nat.zero_le _, Nat.zero_le _⟩ rfl dX4_rounds_24 (fun H locs hP hS => ?_)
      refine lv_if_ne (tgt := 32) hx hb dX4_rounds_27 (by decide) (fun c4 => ?_) (fun c4 => ?_)
      · have hf := if_f c4 hf
        refine lv_iinc (v := (v1 + 1)) (lv' := [(1, .int (v1 + 1)), (0, .ref (q 12))]) hx hb dX4_rounds_32 hl (k := 1) rfl rfl (by decide) rfl (fun ls hl => ?_)
        refine lv_goto (tgt := 13) hx hb dX4_rounds_35 (by decide) ?_
        exact ih hf hP hS (lv_sub hl [1, 0] rfl)
      · have hf := if_t c4 hf
        refine lv_iload_n hx hb dX4_rounds_30 rfl (lv_at hl 1 rfl) ?_
        obtain rfl := Option.some.inj hf
        exact q_iret C hP hS rfl dX4_rounds_31
set_option maxHeartbeats 4000000 in
set_option maxRecDepth 100000 in
theorem c_X4_rounds {l : Launch} {G : Gx} {q : Nat → Nat} {da : Nat} {qc qh qt qn qs qo : Nat → Nat} {im pa : Nat → Option Nat} {yy : va_W} {sr : OSt} {ta : (Nat → Int32)} {sc : NSt} {sh : NSt} {tb : (Nat × OSt)} {sn : NSt} {ss : OSt} {so : OSt}  {x : Int32 × NSt} (hf : r_rounds sc sh = some x) : QM l G yX4_rounds wsX4_rounds rmX4_rounds [.ref (q 12)] (wR G q da qc qh qt qs qo im pa sr ++ (wA G da 500 ta ++ (wN G qc sc ++ (wN G qh sh ++ (wT G qt tb.1 (qn 15) tb.2 ++ (wN G qn sn ++ (wS G qs ss ++ (wS G qo so ++ yy)))))))) (wR G q da qc qh qt qs qo im pa sr ++ (wA G da 500 ta ++ (wN G qc sc ++ (wN G qh x.2 ++ (wT G qt tb.1 (qn 15) tb.2 ++ (wN G qn sn ++ (wS G qs ss ++ (wS G qo so ++ yy)))))))) (some (.int x.1)) := by
  refine QM.of (cc := cX4_rounds) (maxL := 2) (ret := (some .int)) (by decide) rfl (Nat.le_of_ble_eq_true rfl) ?_
  intro p e s m below meth c A ls C hD hP hS hl
  have hx := C.1
  have hb := C.2.1
  have hl : lv_has ls 2 [(0, .ref (q 12))] := hl
  unfold r_rounds at hf
  refine lv_aload_n hx hb dX4_rounds_0 rfl (lv_at hl 0 rfl) ?_
  refine q_get (q0 := 0) C hP rfl rfl hiX4_rounds_X4 3 (by decide) wdX4_rounds_1 rfl dX4_rounds_1 ?_
  refine lv_aload_n hx hb dX4_rounds_4 rfl (lv_at hl 0 rfl) ?_
  refine q_get (q0 := 0) C hP rfl rfl hiX4_rounds_X4 2 (by decide) wdX4_rounds_2 rfl dX4_rounds_5 ?_
  obtain ⟨x1, hx1, hf⟩ := bd_some hf
  refine q_Vv C (rc := (RX0, TX0, 15)) (q0 := 16) (ci := 0) (ws' := wR G q da qc qh qt qs qo im pa sr ++ (wA G da 500 ta ++ (wN G qc sc ++ (wN G qh x1 ++ (wT G qt tb.1 (qn 15) tb.2 ++ (wN G qn sn ++ (wS G qs ss ++ (wS G qo so ++ yy)))))))) (c_X0_become (qn := qh) (qn2 := qc) hx1) gX4_rounds_X0_become rfl ⟨rfl, rfl⟩ hdX0_become ⟨(Nat.le_of_ble_eq_true rfl), (Nat.le_of_ble_eq_true rfl)⟩ rfl hP (dd_R hD) hS rfl rfl pr_32 pr_32.symm hl.1 (Nat.le_of_ble_eq_true rfl) ⟨Nat.zero_le _, Nat.zero_le _⟩ rfl dX4_rounds_8 (fun H locs hP hS => ?_)
  refine lv_iconst (v := 0) hx hb dX4_rounds_11 (by decide) ?_
  refine lv_istore_n (lv' := [(1, .int 0), (0, .ref (q 12))]) hx hb dX4_rounds_12 rfl hl (by decide) rfl (fun ls hl => ?_)
  exact t_X4_rounds_13 C hD hf hP hS (lv_sub hl [1, 0] rfl)

theorem hiX4_looksAtEnd_X4 : ∀ w ∈ u_ws RX4 TX4 12, w ∈ wsX4_looksAtEnd := mem_run (i := 196) (by decide +kernel)
theorem wdX4_looksAtEnd_1 : (Cond.fieldLink RX4 22 "CombinatorRing" "thought" "LCombinatorRing$Net;") ∈ wsX4_looksAtEnd := List.mem_of_getElem? (i := 1) rfl
theorem wdX4_looksAtEnd_2 : (Cond.fieldLink RX4 18 "CombinatorRing" "current" "LCombinatorRing$Net;") ∈ wsX4_looksAtEnd := List.mem_of_getElem? (i := 2) rfl
def r_looksAtEnd6 (sc : NSt) (sh : NSt) (ss : OSt) (a1 : Int32) (a2 : Int32) (a3 : Int32) : Option (Int32 × NSt × OSt) := bd (n_become sh sc) fun x1 => bd (n_goOn x1 a1 a2 a3) fun x2 => bd (n_readyPairs x2.2) fun x3 => if x3 ≤ 0 then bd (g_look ss x2.2) fun x5 => some (1, x2.2, x5) else some (0, x2.2, ss)
abbrev rmX4_looksAtEnd : Room := { frames := 6, cells := 0, slots := 0, locals := 146 }
theorem hdX4_looksAtEnd : yX4_looksAtEnd.cls = RX4 ∧ yX4_looksAtEnd.cls ≠ "java/lang/invoke/MethodHandle" ∧ yX4_looksAtEnd.cls ≠ "java/lang/invoke/VarHandle" ∧ (parseMethodDescriptor yX4_looksAtEnd.desc).map (fun d => d.parameters.length) = some 4 := by decide +kernel
set_option maxHeartbeats 4000000 in
set_option maxRecDepth 100000 in
theorem c_X4_looksAtEnd6 {l : Launch} {G : Gx} {q : Nat → Nat} {da : Nat} {qc qh qt qn qs qo : Nat → Nat} {im pa : Nat → Option Nat} {yy : va_W} {sr : OSt} {ta : (Nat → Int32)} {sc : NSt} {sh : NSt} {tb : (Nat × OSt)} {sn : NSt} {ss : OSt} {so : OSt} {a1 : Int32} {a2 : Int32} {a3 : Int32} {x : Int32 × NSt × OSt} (hf : r_looksAtEnd6 sc sh ss a1 a2 a3 = some x) : QM l G yX4_looksAtEnd wsX4_looksAtEnd rmX4_looksAtEnd [.ref (q 12), .int a1, .int a2, .int a3, .ref (qs 8)] (wR G q da qc qh qt qs qo im pa sr ++ (wA G da 500 ta ++ (wN G qc sc ++ (wN G qh sh ++ (wT G qt tb.1 (qn 15) tb.2 ++ (wN G qn sn ++ (wS G qs ss ++ (wS G qo so ++ yy)))))))) (wR G q da qc qh qt qs qo im pa sr ++ (wA G da 500 ta ++ (wN G qc sc ++ (wN G qh x.2.1 ++ (wT G qt tb.1 (qn 15) tb.2 ++ (wN G qn sn ++ (wS G qs x.2.2 ++ (wS G qo so ++ yy)))))))) (some (.int x.1)) := by
  refine QM.of (cc := cX4_looksAtEnd) (maxL := 5) (ret := (some .boolean)) (by decide) rfl (Nat.le_of_ble_eq_true rfl) ?_
  intro p e s m below meth c A ls C hD hP hS hl
  have hx := C.1
  have hb := C.2.1
  have hl : lv_has ls 5 [(0, .ref (q 12)), (1, .int a1), (2, .int a2), (3, .int a3), (4, .ref (qs 8))] := hl
  unfold r_looksAtEnd6 at hf
  refine lv_aload_n hx hb dX4_looksAtEnd_0 rfl (lv_at hl 0 rfl) ?_
  refine q_get (q0 := 0) C hP rfl rfl hiX4_looksAtEnd_X4 3 (by decide) wdX4_looksAtEnd_1 rfl dX4_looksAtEnd_1 ?_
  refine lv_aload_n hx hb dX4_looksAtEnd_4 rfl (lv_at hl 0 rfl) ?_
  refine q_get (q0 := 0) C hP rfl rfl hiX4_looksAtEnd_X4 2 (by decide) wdX4_looksAtEnd_2 rfl dX4_looksAtEnd_5 ?_
  obtain ⟨x1, hx1, hf⟩ := bd_some hf
  refine q_Vv C (rc := (RX0, TX0, 15)) (q0 := 16) (ci := 0) (ws' := wR G q da qc qh qt qs qo im pa sr ++ (wA G da 500 ta ++ (wN G qc sc ++ (wN G qh x1 ++ (wT G qt tb.1 (qn 15) tb.2 ++ (wN G qn sn ++ (wS G qs ss ++ (wS G qo so ++ yy)))))))) (c_X0_become (qn := qh) (qn2 := qc) hx1) gX4_looksAtEnd_X0_become rfl ⟨rfl, rfl⟩ hdX0_become ⟨(Nat.le_of_ble_eq_true rfl), (Nat.le_of_ble_eq_true rfl)⟩ rfl hP (dd_R hD) hS rfl rfl pr_32 pr_32.symm hl.1 (Nat.le_of_ble_eq_true rfl) ⟨Nat.zero_le _, Nat.zero_le _⟩ rfl dX4_looksAtEnd_8 (fun H locs hP hS => ?_)
  refine lv_aload_n hx hb dX4_looksAtEnd_11 rfl (lv_at hl 0 rfl) ?_
  refine q_get (q0 := 0) C hP rfl rfl hiX4_looksAtEnd_X4 3 (by decide) wdX4_looksAtEnd_1 rfl dX4_looksAtEnd_12 ?_
  refine lv_iload_n hx hb dX4_looksAtEnd_15 rfl (lv_at hl 1 rfl) ?_
  refine lv_iload_n hx hb dX4_looksAtEnd_16 rfl (lv_at hl 2 rfl) ?_
  refine lv_iload_n hx hb dX4_looksAtEnd_17 rfl (lv_at hl 3 rfl) ?_
  obtain ⟨x2, hx2, hf⟩ := bd_some hf
  refine q_Vi C (rc := (RX0, TX0, 15)) (q0 := 16) (ci := 0) (ws' := wR G q da qc qh qt qs qo im pa sr ++ (wA G da 500 ta ++ (wN G qc sc ++ (wN G qh x2.2 ++ (wT G qt tb.1 (qn 15) tb.2 ++ (wN G qn sn ++ (wS G qs ss ++ (wS G qo so ++ yy)))))))) (c_X0_goOn (qn := qh) hx2) gX4_looksAtEnd_X0_goOn rfl ⟨rfl, rfl⟩ hdX0_goOn ⟨(Nat.le_of_ble_eq_true rfl), (Nat.le_of_ble_eq_true rfl)⟩ rfl hP (dd_R hD) hS rfl rfl pr_3 pr_3.symm hl.1 (Nat.le_of_ble_eq_true rfl) ⟨Nat.zero_le _, Nat.zero_le _⟩ rfl dX4_looksAtEnd_18 (fun H locs hP hS => ?_)
  refine lv_pop hx hb dX4_looksAtEnd_21 rfl ?_
  refine lv_aload_n hx hb dX4_looksAtEnd_22 rfl (lv_at hl 0 rfl) ?_
  refine q_get (q0 := 0) C hP rfl rfl hiX4_looksAtEnd_X4 3 (by decide) wdX4_looksAtEnd_1 rfl dX4_looksAtEnd_23 ?_
  obtain ⟨x3, hx3, hf⟩ := bd_some hf
  refine q_Vi C (rc := (RX0, TX0, 15)) (q0 := 16) (ci := 0) (ws' := wR G q da qc qh qt qs qo im pa sr ++ (wA G da 500 ta ++ (wN G qc sc ++ (wN G qh x2.2 ++ (wT G qt tb.1 (qn 15) tb.2 ++ (wN G qn sn ++ (wS G qs ss ++ (wS G qo so ++ yy)))))))) (c_X0_readyPairs (qn := qh) hx3) gX4_looksAtEnd_X0_readyPairs rfl ⟨rfl, rfl⟩ hdX0_readyPairs ⟨(Nat.le_of_ble_eq_true rfl), (Nat.le_of_ble_eq_true rfl)⟩ rfl hP (dd_R hD) hS rfl rfl pr_3 pr_3.symm hl.1 (Nat.le_of_ble_eq_true rfl) ⟨Nat.zero_le _, Nat.zero_le _⟩ rfl dX4_looksAtEnd_26 (fun H locs hP hS => ?_)
  refine lv_if_le (tgt := 34) hx hb dX4_looksAtEnd_29 (by decide) (fun c4 => ?_) (fun c4 => ?_)
  · have hf := if_t c4 hf
    refine lv_aload hx hb dX4_looksAtEnd_34 (lv_at hl 4 rfl) ?_
    refine lv_aload_n hx hb dX4_looksAtEnd_36 rfl (lv_at hl 0 rfl) ?_
    refine q_get (q0 := 0) C hP rfl rfl hiX4_looksAtEnd_X4 3 (by decide) wdX4_looksAtEnd_1 rfl dX4_looksAtEnd_37 ?_
    obtain ⟨x5, hx5, hf⟩ := bd_some hf
    refine q_Vv C (rc := (RX2, TX2, 8)) (q0 := 43) (ci := 2) (ws' := wR G q da qc qh qt qs qo im pa sr ++ (wA G da 500 ta ++ (wN G qc sc ++ (wN G qh x2.2 ++ (wT G qt tb.1 (qn 15) tb.2 ++ (wN G qn sn ++ (wS G qs x5 ++ (wS G qo so ++ yy)))))))) (c_X2_look (qs := qs) (qn := qh) hx5) gX4_looksAtEnd_X2_look rfl ⟨rfl, rfl⟩ hdX2_look ⟨(Nat.le_of_ble_eq_true rfl), (Nat.le_of_ble_eq_true rfl)⟩ rfl hP (dd_R hD) hS rfl rfl pr_63 pr_63.symm hl.1 (Nat.le_of_ble_eq_true rfl) ⟨Nat.zero_le _, Nat.zero_le _⟩ rfl dX4_looksAtEnd_40 (fun H locs hP hS => ?_)
    refine lv_iconst (v := 1) hx hb dX4_looksAtEnd_43 (by decide) ?_
    obtain rfl := Option.some.inj hf
    exact q_zret C hP hS rfl (gb_nar (Or.inr rfl)) dX4_looksAtEnd_44
  · have hf := if_f c4 hf
    refine lv_iconst (v := 0) hx hb dX4_looksAtEnd_32 (by decide) ?_
    obtain rfl := Option.some.inj hf
    exact q_zret C hP hS rfl (gb_nar (Or.inl rfl)) dX4_looksAtEnd_33

def r_looksAtEnd7 (sc : NSt) (sh : NSt) (so : OSt) (a1 : Int32) (a2 : Int32) (a3 : Int32) : Option (Int32 × NSt × OSt) := bd (n_become sh sc) fun x1 => bd (n_goOn x1 a1 a2 a3) fun x2 => bd (n_readyPairs x2.2) fun x3 => if x3 ≤ 0 then bd (g_look so x2.2) fun x5 => some (1, x2.2, x5) else some (0, x2.2, so)
set_option maxHeartbeats 4000000 in
set_option maxRecDepth 100000 in
theorem c_X4_looksAtEnd7 {l : Launch} {G : Gx} {q : Nat → Nat} {da : Nat} {qc qh qt qn qs qo : Nat → Nat} {im pa : Nat → Option Nat} {yy : va_W} {sr : OSt} {ta : (Nat → Int32)} {sc : NSt} {sh : NSt} {tb : (Nat × OSt)} {sn : NSt} {ss : OSt} {so : OSt} {a1 : Int32} {a2 : Int32} {a3 : Int32} {x : Int32 × NSt × OSt} (hf : r_looksAtEnd7 sc sh so a1 a2 a3 = some x) : QM l G yX4_looksAtEnd wsX4_looksAtEnd rmX4_looksAtEnd [.ref (q 12), .int a1, .int a2, .int a3, .ref (qo 8)] (wR G q da qc qh qt qs qo im pa sr ++ (wA G da 500 ta ++ (wN G qc sc ++ (wN G qh sh ++ (wT G qt tb.1 (qn 15) tb.2 ++ (wN G qn sn ++ (wS G qs ss ++ (wS G qo so ++ yy)))))))) (wR G q da qc qh qt qs qo im pa sr ++ (wA G da 500 ta ++ (wN G qc sc ++ (wN G qh x.2.1 ++ (wT G qt tb.1 (qn 15) tb.2 ++ (wN G qn sn ++ (wS G qs ss ++ (wS G qo x.2.2 ++ yy)))))))) (some (.int x.1)) := by
  refine QM.of (cc := cX4_looksAtEnd) (maxL := 5) (ret := (some .boolean)) (by decide) rfl (Nat.le_of_ble_eq_true rfl) ?_
  intro p e s m below meth c A ls C hD hP hS hl
  have hx := C.1
  have hb := C.2.1
  have hl : lv_has ls 5 [(0, .ref (q 12)), (1, .int a1), (2, .int a2), (3, .int a3), (4, .ref (qo 8))] := hl
  unfold r_looksAtEnd7 at hf
  refine lv_aload_n hx hb dX4_looksAtEnd_0 rfl (lv_at hl 0 rfl) ?_
  refine q_get (q0 := 0) C hP rfl rfl hiX4_looksAtEnd_X4 3 (by decide) wdX4_looksAtEnd_1 rfl dX4_looksAtEnd_1 ?_
  refine lv_aload_n hx hb dX4_looksAtEnd_4 rfl (lv_at hl 0 rfl) ?_
  refine q_get (q0 := 0) C hP rfl rfl hiX4_looksAtEnd_X4 2 (by decide) wdX4_looksAtEnd_2 rfl dX4_looksAtEnd_5 ?_
  obtain ⟨x1, hx1, hf⟩ := bd_some hf
  refine q_Vv C (rc := (RX0, TX0, 15)) (q0 := 16) (ci := 0) (ws' := wR G q da qc qh qt qs qo im pa sr ++ (wA G da 500 ta ++ (wN G qc sc ++ (wN G qh x1 ++ (wT G qt tb.1 (qn 15) tb.2 ++ (wN G qn sn ++ (wS G qs ss ++ (wS G qo so ++ yy)))))))) (c_X0_become (qn := qh) (qn2 := qc) hx1) gX4_looksAtEnd_X0_become rfl ⟨rfl, rfl⟩ hdX0_become ⟨(Nat.le_of_ble_eq_true rfl), (Nat.le_of_ble_eq_true rfl)⟩ rfl hP (dd_R hD) hS rfl rfl pr_32 pr_32.symm hl.1 (Nat.le_of_ble_eq_true rfl) ⟨Nat.zero_le _, Nat.zero_le _⟩ rfl dX4_looksAtEnd_8 (fun H locs hP hS => ?_)
  refine lv_aload_n hx hb dX4_looksAtEnd_11 rfl (lv_at hl 0 rfl) ?_
  refine q_get (q0 := 0) C hP rfl rfl hiX4_looksAtEnd_X4 3 (by decide) wdX4_looksAtEnd_1 rfl dX4_looksAtEnd_12 ?_
  refine lv_iload_n hx hb dX4_looksAtEnd_15 rfl (lv_at hl 1 rfl) ?_
  refine lv_iload_n hx hb dX4_looksAtEnd_16 rfl (lv_at hl 2 rfl) ?_
  refine lv_iload_n hx hb dX4_looksAtEnd_17 rfl (lv_at hl 3 rfl) ?_
  obtain ⟨x2, hx2, hf⟩ := bd_some hf
  refine q_Vi C (rc := (RX0, TX0, 15)) (q0 := 16) (ci := 0) (ws' := wR G q da qc qh qt qs qo im pa sr ++ (wA G da 500 ta ++ (wN G qc sc ++ (wN G qh x2.2 ++ (wT G qt tb.1 (qn 15) tb.2 ++ (wN G qn sn ++ (wS G qs ss ++ (wS G qo so ++ yy)))))))) (c_X0_goOn (qn := qh) hx2) gX4_looksAtEnd_X0_goOn rfl ⟨rfl, rfl⟩ hdX0_goOn ⟨(Nat.le_of_ble_eq_true rfl), (Nat.le_of_ble_eq_true rfl)⟩ rfl hP (dd_R hD) hS rfl rfl pr_3 pr_3.symm hl.1 (Nat.le_of_ble_eq_true rfl) ⟨Nat.zero_le _, Nat.zero_le _⟩ rfl dX4_looksAtEnd_18 (fun H locs hP hS => ?_)
  refine lv_pop hx hb dX4_looksAtEnd_21 rfl ?_
  refine lv_aload_n hx hb dX4_looksAtEnd_22 rfl (lv_at hl 0 rfl) ?_
  refine q_get (q0 := 0) C hP rfl rfl hiX4_looksAtEnd_X4 3 (by decide) wdX4_looksAtEnd_1 rfl dX4_looksAtEnd_23 ?_
  obtain ⟨x3, hx3, hf⟩ := bd_some hf
  refine q_Vi C (rc := (RX0, TX0, 15)) (q0 := 16) (ci := 0) (ws' := wR G q da qc qh qt qs qo im pa sr ++ (wA G da 500 ta ++ (wN G qc sc ++ (wN G qh x2.2 ++ (wT G qt tb.1 (qn 15) tb.2 ++ (wN G qn sn ++ (wS G qs ss ++ (wS G qo so ++ yy)))))))) (c_X0_readyPairs (qn := qh) hx3) gX4_looksAtEnd_X0_readyPairs rfl ⟨rfl, rfl⟩ hdX0_readyPairs ⟨(Nat.le_of_ble_eq_true rfl), (Nat.le_of_ble_eq_true rfl)⟩ rfl hP (dd_R hD) hS rfl rfl pr_3 pr_3.symm hl.1 (Nat.le_of_ble_eq_true rfl) ⟨Nat.zero_le _, Nat.zero_le _⟩ rfl dX4_looksAtEnd_26 (fun H locs hP hS => ?_)
  refine lv_if_le (tgt := 34) hx hb dX4_looksAtEnd_29 (by decide) (fun c4 => ?_) (fun c4 => ?_)
  · have hf := if_t c4 hf
    refine lv_aload hx hb dX4_looksAtEnd_34 (lv_at hl 4 rfl) ?_
    refine lv_aload_n hx hb dX4_looksAtEnd_36 rfl (lv_at hl 0 rfl) ?_
    refine q_get (q0 := 0) C hP rfl rfl hiX4_looksAtEnd_X4 3 (by decide) wdX4_looksAtEnd_1 rfl dX4_looksAtEnd_37 ?_
    obtain ⟨x5, hx5, hf⟩ := bd_some hf
    refine q_Vv C (rc := (RX2, TX2, 8)) (q0 := 49) (ci := 2) (ws' := wR G q da qc qh qt qs qo im pa sr ++ (wA G da 500 ta ++ (wN G qc sc ++ (wN G qh x2.2 ++ (wT G qt tb.1 (qn 15) tb.2 ++ (wN G qn sn ++ (wS G qs ss ++ (wS G qo x5 ++ yy)))))))) (c_X2_look (qs := qo) (qn := qh) hx5) gX4_looksAtEnd_X2_look rfl ⟨rfl, rfl⟩ hdX2_look ⟨(Nat.le_of_ble_eq_true rfl), (Nat.le_of_ble_eq_true rfl)⟩ rfl hP (dd_R hD) hS rfl rfl pr_73 pr_73.symm hl.1 (Nat.le_of_ble_eq_true rfl) ⟨Nat.zero_le _, Nat.zero_le _⟩ rfl dX4_looksAtEnd_40 (fun H locs hP hS => ?_)
    refine lv_iconst (v := 1) hx hb dX4_looksAtEnd_43 (by decide) ?_
    obtain rfl := Option.some.inj hf
    exact q_zret C hP hS rfl (gb_nar (Or.inr rfl)) dX4_looksAtEnd_44
  · have hf := if_f c4 hf
    refine lv_iconst (v := 0) hx hb dX4_looksAtEnd_32 (by decide) ?_
    obtain rfl := Option.some.inj hf
    exact q_zret C hP hS rfl (gb_nar (Or.inl rfl)) dX4_looksAtEnd_33

-- X4_alike
theorem hiX4_alike_X4 : ∀ w ∈ u_ws RX4 TX4 12, w ∈ wsX4_alike := mem_run (i := 213) (by decide +kernel)
theorem wdX4_alike_1 : (Cond.fieldLink RX4 35 "CombinatorRing" "sight" "LCombinatorRing$Sight;") ∈ wsX4_alike := List.mem_of_getElem? (i := 1) rfl
theorem wdX4_alike_2 : (Cond.fieldLink RX4 39 "CombinatorRing" "otherSight" "LCombinatorRing$Sight;") ∈ wsX4_alike := List.mem_of_getElem? (i := 2) rfl
def r_alike (sc : NSt) (sh : NSt) (ss : OSt) (so : OSt) (a1 : Int32) (a2 : Int32) (a3 : Int32) (a4 : Int32) : Option (Int32 × NSt × OSt × OSt) := bd (r_isOrder a1) fun x1 => if x1 = 0 then some ((-1), sh, ss, so) else bd (r_isOrder a2) fun x3 => if x3 = 0 then some ((-1), sh, ss, so) else bd (r_isStepLimit a3) fun x5 => if x5 = 0 then some ((-1), sh, ss, so) else bd (r_looksAtEnd6 sc sh ss a1 a3 a4) fun x7 => if x7.1 = 0 then some ((-2), x7.2.1, x7.2.2, so) else bd (r_looksAtEnd7 sc x7.2.1 so a2 a3 a4) fun x9 => if x9.1 = 0 then some ((-2), x9.2.1, x7.2.2, x9.2.2) else bd (g_isLike x7.2.2 x9.2.2) fun x11 => if x11 = 0 then some (0, x9.2.1, x7.2.2, x9.2.2) else some (1, x9.2.1, x7.2.2, x9.2.2)
abbrev rmX4_alike : Room := { frames := 7, cells := 0, slots := 0, locals := 170 }
theorem hdX4_alike : yX4_alike.cls = RX4 ∧ yX4_alike.cls ≠ "java/lang/invoke/MethodHandle" ∧ yX4_alike.cls ≠ "java/lang/invoke/VarHandle" ∧ (parseMethodDescriptor yX4_alike.desc).map (fun d => d.parameters.length) = some 4 := by decide +kernel
set_option maxHeartbeats 4000000 in
set_option maxRecDepth 100000 in
theorem c_X4_alike {l : Launch} {G : Gx} {q : Nat → Nat} {da : Nat} {qc qh qt qn qs qo : Nat → Nat} {im pa : Nat → Option Nat} {yy : va_W} {sr : OSt} {ta : (Nat → Int32)} {sc : NSt} {sh : NSt} {tb : (Nat × OSt)} {sn : NSt} {ss : OSt} {so : OSt} {a1 : Int32} {a2 : Int32} {a3 : Int32} {a4 : Int32} {x : Int32 × NSt × OSt × OSt} (hf : r_alike sc sh ss so a1 a2 a3 a4 = some x) : QM l G yX4_alike wsX4_alike rmX4_alike [.ref (q 12), .int a1, .int a2, .int a3, .int a4] (wR G q da qc qh qt qs qo im pa sr ++ (wA G da 500 ta ++ (wN G qc sc ++ (wN G qh sh ++ (wT G qt tb.1 (qn 15) tb.2 ++ (wN G qn sn ++ (wS G qs ss ++ (wS G qo so ++ yy)))))))) (wR G q da qc qh qt qs qo im pa sr ++ (wA G da 500 ta ++ (wN G qc sc ++ (wN G qh x.2.1 ++ (wT G qt tb.1 (qn 15) tb.2 ++ (wN G qn sn ++ (wS G qs x.2.2.1 ++ (wS G qo x.2.2.2 ++ yy)))))))) (some (.int x.1)) := by
  refine QM.of (cc := cX4_alike) (maxL := 5) (ret := (some .int)) (by decide) rfl (Nat.le_of_ble_eq_true rfl) ?_
  intro p e s m below meth c A ls C hD hP hS hl
  have hx := C.1
  have hb := C.2.1
  have hl : lv_has ls 5 [(0, .ref (q 12)), (1, .int a1), (2, .int a2), (3, .int a3), (4, .int a4)] := hl
  unfold r_alike at hf
  refine lv_iload_n hx hb dX4_alike_0 rfl (lv_at hl 1 rfl) ?_
  obtain ⟨x1, hx1, hf⟩ := bd_some hf
  refine q_Si C (ws' := wR G q da qc qh qt qs qo im pa sr ++ (wA G da 500 ta ++ (wN G qc sc ++ (wN G qh sh ++ (wT G qt tb.1 (qn 15) tb.2 ++ (wN G qn sn ++ (wS G qs ss ++ (wS G qo so ++ yy)))))))) (wr := []) (c_X4_isOrder (w := wR G q da qc qh qt qs qo im pa sr ++ (wA G da 500 ta ++ (wN G qc sc ++ (wN G qh sh ++ (wT G qt tb.1 (qn 15) tb.2 ++ (wN G qn sn ++ (wS G qs ss ++ (wS G qo so ++ yy)))))))) hx1) gX4_alike_X4_isOrder rfl ⟨rfl, rfl⟩ hdX4_isOrder ⟨(Nat.le_of_ble_eq_true rfl), (Nat.le_of_ble_eq_true rfl)⟩ rfl hP (dd_R hD) hS (List.Perm.refl _) (List.Perm.refl _) hl.1 (Nat.le_of_ble_eq_true rfl) ⟨Nat.zero_le _, Nat.zero_le _⟩ rfl dX4_alike_1 (fun H locs hP hS => ?_)
  refine lv_if_eq (tgt := 21) hx hb dX4_alike_4 (by decide) (fun c2 => ?_) (fun c2 => ?_)
  · have hf := if_t c2 hf
    refine lv_iconst (v := (-1)) hx hb dX4_alike_21 (by decide) ?_
    obtain rfl := Option.some.inj hf
    exact q_iret C hP hS rfl dX4_alike_22
  · have hf := if_f c2 hf
    refine lv_iload_n hx hb dX4_alike_7 rfl (lv_at hl 2 rfl) ?_
    obtain ⟨x3, hx3, hf⟩ := bd_some hf
    refine q_Si C (ws' := wR G q da qc qh qt qs qo im pa sr ++ (wA G da 500 ta ++ (wN G qc sc ++ (wN G qh sh ++ (wT G qt tb.1 (qn 15) tb.2 ++ (wN G qn sn ++ (wS G qs ss ++ (wS G qo so ++ yy)))))))) (wr := []) (c_X4_isOrder (w := wR G q da qc qh qt qs qo im pa sr ++ (wA G da 500 ta ++ (wN G qc sc ++ (wN G qh sh ++ (wT G qt tb.1 (qn 15) tb.2 ++ (wN G qn sn ++ (wS G qs ss ++ (wS G qo so ++ yy)))))))) hx3) gX4_alike_X4_isOrder rfl ⟨rfl, rfl⟩ hdX4_isOrder ⟨(Nat.le_of_ble_eq_true rfl), (Nat.le_of_ble_eq_true rfl)⟩ rfl hP (dd_R hD) hS (List.Perm.refl _) (List.Perm.refl _) hl.1 (Nat.le_of_ble_eq_true rfl) ⟨Nat.zero_le _, Nat.zero_le _⟩ rfl dX4_alike_8 (fun H locs hP hS => ?_)
    refine lv_if_eq (tgt := 21) hx hb dX4_alike_11 (by decide) (fun c4 => ?_) (fun c4 => ?_)
    · have hf := if_t c4 hf
      refine lv_iconst (v := (-1)) hx hb dX4_alike_21 (by decide) ?_
      obtain rfl := Option.some.inj hf
      exact q_iret C hP hS rfl dX4_alike_22
    · have hf := if_f c4 hf
      refine lv_iload_n hx hb dX4_alike_14 rfl (lv_at hl 3 rfl) ?_
      obtain ⟨x5, hx5, hf⟩ := bd_some hf
      refine q_Si C (ws' := wR G q da qc qh qt qs qo im pa sr ++ (wA G da 500 ta ++ (wN G qc sc ++ (wN G qh sh ++ (wT G qt tb.1 (qn 15) tb.2 ++ (wN G qn sn ++ (wS G qs ss ++ (wS G qo so ++ yy)))))))) (wr := []) (c_X4_isStepLimit (w := wR G q da qc qh qt qs qo im pa sr ++ (wA G da 500 ta ++ (wN G qc sc ++ (wN G qh sh ++ (wT G qt tb.1 (qn 15) tb.2 ++ (wN G qn sn ++ (wS G qs ss ++ (wS G qo so ++ yy)))))))) hx5) gX4_alike_X4_isStepLimit rfl ⟨rfl, rfl⟩ hdX4_isStepLimit ⟨(Nat.le_of_ble_eq_true rfl), (Nat.le_of_ble_eq_true rfl)⟩ rfl hP (dd_R hD) hS (List.Perm.refl _) (List.Perm.refl _) hl.1 (Nat.le_of_ble_eq_true rfl) ⟨Nat.zero_le _, Nat.zero_le _⟩ rfl dX4_alike_15 (fun H locs hP hS => ?_)
      refine lv_if_ne (tgt := 23) hx hb dX4_alike_18 (by decide) (fun c6 => ?_) (fun c6 => ?_)
      · have hf := if_f c6 hf
        refine lv_aload_n hx hb dX4_alike_23 rfl (lv_at hl 0 rfl) ?_
        refine lv_iload_n hx hb dX4_alike_24 rfl (lv_at hl 1 rfl) ?_
        refine lv_iload_n hx hb dX4_alike_25 rfl (lv_at hl 3 rfl) ?_
        refine lv_iload hx hb dX4_alike_26 (lv_at hl 4 rfl) ?_
        refine lv_aload_n hx hb dX4_alike_28 rfl (lv_at hl 0 rfl) ?_
        refine q_get (q0 := 0) C hP rfl rfl hiX4_alike_X4 5 (by decide) wdX4_alike_1 rfl dX4_alike_29 ?_
        obtain ⟨x7, hx7, hf⟩ := bd_some hf
        refine q_Vi C (rc := (RX4, TX4, 12)) (q0 := 0) (ci := 4) (ws' := wR G q da qc qh qt qs qo im pa sr ++ (wA G da 500 ta ++ (wN G qc sc ++ (wN G qh x7.2.1 ++ (wT G qt tb.1 (qn 15) tb.2 ++ (wN G qn sn ++ (wS G qs x7.2.2 ++ (wS G qo so ++ yy)))))))) (wr := []) (c_X4_looksAtEnd6 hx7) gX4_alike_X4_looksAtEnd rfl ⟨rfl, rfl⟩ hdX4_looksAtEnd ⟨(Nat.le_of_ble_eq_true rfl), (Nat.le_of_ble_eq_true rfl)⟩ rfl hP (dd_R hD) hS rfl rfl (List.Perm.refl _) (List.Perm.refl _) hl.1 (Nat.le_of_ble_eq_true rfl) ⟨Nat.zero_le _, Nat.zero_le _⟩ rfl dX4_alike_32 (fun H locs hP hS => ?_)
        refine lv_if_eq (tgt := 53) hx hb dX4_alike_35 (by decide) (fun c8 => ?_) (fun c8 => ?_)
        · have hf := if_t c8 hf
          refine lv_bipush (v := (-2)) hx hb dX4_alike_53 (by decide) ?_
          obtain rfl := Option.some.inj hf
          exact q_iret C hP hS rfl dX4_alike_55
        · have hf := if_f c8 hf
          refine lv_aload_n hx hb dX4_alike_38 rfl (lv_at hl 0 rfl) ?_
          refine lv_iload_n hx hb dX4_alike_39 rfl (lv_at hl 2 rfl) ?_
          refine lv_iload_n hx hb dX4_alike_40 rfl (lv_at hl 3 rfl) ?_
          refine lv_iload hx hb dX4_alike_41 (lv_at hl 4 rfl) ?_
          refine lv_aload_n hx hb dX4_alike_43 rfl (lv_at hl 0 rfl) ?_
          refine q_get (q0 := 0) C hP rfl rfl hiX4_alike_X4 6 (by decide) wdX4_alike_2 rfl dX4_alike_44 ?_
          obtain ⟨x9, hx9, hf⟩ := bd_some hf
          refine q_Vi C (rc := (RX4, TX4, 12)) (q0 := 0) (ci := 4) (ws' := wR G q da qc qh qt qs qo im pa sr ++ (wA G da 500 ta ++ (wN G qc sc ++ (wN G qh x9.2.1 ++ (wT G qt tb.1 (qn 15) tb.2 ++ (wN G qn sn ++ (wS G qs x7.2.2 ++ (wS G qo x9.2.2 ++ yy)))))))) (wr := []) (c_X4_looksAtEnd7 hx9) gX4_alike_X4_looksAtEnd rfl ⟨rfl, rfl⟩ hdX4_looksAtEnd ⟨(Nat.le_of_ble_eq_true rfl), (Nat.le_of_ble_eq_true rfl)⟩ rfl hP (dd_R hD) hS rfl rfl (List.Perm.refl _) (List.Perm.refl _) hl.1 (Nat.le_of_ble_eq_true rfl) ⟨Nat.zero_le _, Nat.zero_le _⟩ rfl dX4_alike_47 (fun H locs hP hS => ?_)
          refine lv_if_ne (tgt := 56) hx hb dX4_alike_50 (by decide) (fun c10 => ?_) (fun c10 => ?_)
          · have hf := if_f c10 hf
            refine lv_aload_n hx hb dX4_alike_56 rfl (lv_at hl 0 rfl) ?_
            refine q_get (q0 := 0) C hP rfl rfl hiX4_alike_X4 5 (by decide) wdX4_alike_1 rfl dX4_alike_57 ?_
            refine lv_aload_n hx hb dX4_alike_60 rfl (lv_at hl 0 rfl) ?_
            refine q_get (q0 := 0) C hP rfl rfl hiX4_alike_X4 6 (by decide) wdX4_alike_2 rfl dX4_alike_61 ?_
            obtain ⟨x11, hx11, hf⟩ := bd_some hf
            refine q_Vi C (rc := (RX2, TX2, 8)) (q0 := 43) (ci := 2) (ws' := wR G q da qc qh qt qs qo im pa sr ++ (wA G da 500 ta ++ (wN G qc sc ++ (wN G qh x9.2.1 ++ (wT G qt tb.1 (qn 15) tb.2 ++ (wN G qn sn ++ (wS G qs x7.2.2 ++ (wS G qo x9.2.2 ++ yy)))))))) (c_X2_isLike (qs := qs) (qs2 := qo) hx11) gX4_alike_X2_isLike rfl ⟨rfl, rfl⟩ hdX2_isLike ⟨(Nat.le_of_ble_eq_true rfl), (Nat.le_of_ble_eq_true rfl)⟩ rfl hP (dd_R hD) hS rfl rfl pr_67 pr_67.symm hl.1 (Nat.le_of_ble_eq_true rfl) ⟨Nat.zero_le _, Nat.zero_le _⟩ rfl dX4_alike_64 (fun H locs hP hS => ?_)
            refine lv_if_eq (tgt := 74) hx hb dX4_alike_67 (by decide) (fun c12 => ?_) (fun c12 => ?_)
            · have hf := if_t c12 hf
              refine lv_iconst (v := 0) hx hb dX4_alike_74 (by decide) ?_
              obtain rfl := Option.some.inj hf
              exact q_iret C hP hS rfl dX4_alike_75
            · have hf := if_f c12 hf
              refine lv_iconst (v := 1) hx hb dX4_alike_70 (by decide) ?_
              refine lv_goto (tgt := 75) hx hb dX4_alike_71 (by decide) ?_
              obtain rfl := Option.some.inj hf
              exact q_iret C hP hS rfl dX4_alike_75
          · have hf := if_t c10 hf
            refine lv_bipush (v := (-2)) hx hb dX4_alike_53 (by decide) ?_
            obtain rfl := Option.some.inj hf
            exact q_iret C hP hS rfl dX4_alike_55
      · have hf := if_t c6 hf
        refine lv_iconst (v := (-1)) hx hb dX4_alike_21 (by decide) ?_
        obtain rfl := Option.some.inj hf
        exact q_iret C hP hS rfl dX4_alike_22
