-- X2_tell
theorem hiX2_tell_X2 : ∀ w ∈ u_ws RX2 TX2 8, w ∈ wsX2_tell := mem_run (i := 3) (by decide +kernel)
theorem wdX2_tell_1 : (Cond.fieldLink RX2 37 "CombinatorRing$Sight" "toldCount" "I") ∈ wsX2_tell := List.mem_of_getElem? (i := 1) rfl
theorem wdX2_tell_2 : (Cond.fieldLink RX2 21 "CombinatorRing$Sight" "told" "[I") ∈ wsX2_tell := List.mem_of_getElem? (i := 2) rfl
def g_tell (ss : OSt) (a1 : Int32) : Option (OSt) := if 632 ≤ (ss.1 5) then some ss else gd (ss.1 5) 632 (nm (sA ss 4 (upd (ss.2 4) (ss.1 5).toNatClampNeg a1)) fun s2 => nm (sI s2 5 ((s2.1 5) + 1)) fun s3 => some s3)
abbrev rmX2_tell : Room := { frames := 0, cells := 0, slots := 0, locals := 0 }
theorem hdX2_tell : yX2_tell.cls = RX2 ∧ yX2_tell.cls ≠ "java/lang/invoke/MethodHandle" ∧ yX2_tell.cls ≠ "java/lang/invoke/VarHandle" ∧ (parseMethodDescriptor yX2_tell.desc).map (fun d => d.parameters.length) = some 1 := by decide +kernel
set_option maxHeartbeats 4000000 in
set_option maxRecDepth 100000 in
theorem c_X2_tell {l : Launch} {G : Gx} {qs : Nat → Nat} {ss : OSt} {a1 : Int32} {x : OSt} (hf : g_tell ss a1 = some x) : QM l G yX2_tell wsX2_tell rmX2_tell [.ref (qs 8), .int a1] (wS G qs ss) (wS G qs x) none := by
  refine QM.of (cc := cX2_tell) (maxL := 2) (ret := none) (by decide) rfl (Nat.le_of_ble_eq_true rfl) ?_
  intro p e s m below meth c A ls C hD hP hS hl
  have hx := C.1
  have hb := C.2.1
  have hl : lv_has ls 2 [(0, .ref (qs 8)), (1, .int a1)] := hl
  unfold g_tell at hf
  refine lv_aload_n hx hb dX2_tell_0 rfl (lv_at hl 0 rfl) ?_
  refine q_get C hP (q0 := 0) rfl rfl hiX2_tell_X2 5 (by decide) wdX2_tell_1 rfl dX2_tell_1 ?_
  refine lv_sipush (v := 632) hx hb dX2_tell_4 (by decide) ?_
  refine lv_icmp_ge (tgt := 30) hx hb dX2_tell_7 (by decide) (fun c1 => ?_) (fun c1 => ?_)
  · have hf := if_t c1 hf
    cases hf
    exact q_vret C hP hS rfl dX2_tell_30
  · have hf := if_f c1 hf
    refine lv_aload_n hx hb dX2_tell_10 rfl (lv_at hl 0 rfl) ?_
    refine q_get C hP (q0 := 0) rfl rfl hiX2_tell_X2 4 (by decide) wdX2_tell_2 rfl dX2_tell_11 ?_
    refine lv_aload_n hx hb dX2_tell_14 rfl (lv_at hl 0 rfl) ?_
    refine q_get C hP (q0 := 0) rfl rfl hiX2_tell_X2 5 (by decide) wdX2_tell_1 rfl dX2_tell_15 ?_
    refine lv_iload_n hx hb dX2_tell_18 rfl (lv_at hl 1 rfl) ?_
    obtain ⟨hin, hf⟩ := gd_some hf
    obtain ⟨s2, es2, hf⟩ := nm_ex hf
    refine q_iast C hP (dd_S hD) hS (q0 := 4) rfl rfl rfl hin dX2_tell_19 (fun H locs hP hS => ?_)
    have hP : va_P G.1 vwCl (wS G qs s2) H := by rw [← es2]; exact hP
    refine lv_aload_n hx hb dX2_tell_20 rfl (lv_at hl 0 rfl) ?_
    refine lv_dup hx hb dX2_tell_21 rfl ?_
    refine q_get C hP (q0 := 0) rfl rfl hiX2_tell_X2 5 (by decide) wdX2_tell_1 rfl dX2_tell_22 ?_
    refine lv_iconst (v := 1) hx hb dX2_tell_25 (by decide) ?_
    refine lv_iadd hx hb dX2_tell_26 ?_
    obtain ⟨s3, es3, hf⟩ := nm_ex hf
    refine q_put C hP (dd_S hD) hS (q0 := 0) rfl rfl hiX2_tell_X2 tyX2_ok nmX2 5 (by decide) wdX2_tell_1 rfl rfl rfl (Nat.le_of_ble_eq_true rfl) rfl dX2_tell_27 (fun H locs hP hS => ?_)
    have hP : va_P G.1 vwCl (wS G qs s3) H := by rw [← es3]; exact hP
    cases hf
    exact q_vret C hP hS rfl dX2_tell_30

-- X2_leaveOpen
theorem hiX2_leaveOpen_X2 : ∀ w ∈ u_ws RX2 TX2 8, w ∈ wsX2_leaveOpen := mem_run (i := 3) (by decide +kernel)
theorem wdX2_leaveOpen_1 : (Cond.fieldLink RX2 54 "CombinatorRing$Sight" "openCount" "I") ∈ wsX2_leaveOpen := List.mem_of_getElem? (i := 1) rfl
theorem wdX2_leaveOpen_2 : (Cond.fieldLink RX2 24 "CombinatorRing$Sight" "open" "[I") ∈ wsX2_leaveOpen := List.mem_of_getElem? (i := 2) rfl
def g_leaveOpen (ss : OSt) (a1 : Int32) : Option (OSt) := if 601 ≤ (ss.1 7) then some ss else gd (ss.1 7) 601 (nm (sA ss 6 (upd (ss.2 6) (ss.1 7).toNatClampNeg a1)) fun s2 => nm (sI s2 7 ((s2.1 7) + 1)) fun s3 => some s3)
abbrev rmX2_leaveOpen : Room := { frames := 0, cells := 0, slots := 0, locals := 0 }
theorem hdX2_leaveOpen : yX2_leaveOpen.cls = RX2 ∧ yX2_leaveOpen.cls ≠ "java/lang/invoke/MethodHandle" ∧ yX2_leaveOpen.cls ≠ "java/lang/invoke/VarHandle" ∧ (parseMethodDescriptor yX2_leaveOpen.desc).map (fun d => d.parameters.length) = some 1 := by decide +kernel
set_option maxHeartbeats 4000000 in
set_option maxRecDepth 100000 in
theorem c_X2_leaveOpen {l : Launch} {G : Gx} {qs : Nat → Nat} {ss : OSt} {a1 : Int32} {x : OSt} (hf : g_leaveOpen ss a1 = some x) : QM l G yX2_leaveOpen wsX2_leaveOpen rmX2_leaveOpen [.ref (qs 8), .int a1] (wS G qs ss) (wS G qs x) none := by
  refine QM.of (cc := cX2_leaveOpen) (maxL := 2) (ret := none) (by decide) rfl (Nat.le_of_ble_eq_true rfl) ?_
  intro p e s m below meth c A ls C hD hP hS hl
  have hx := C.1
  have hb := C.2.1
  have hl : lv_has ls 2 [(0, .ref (qs 8)), (1, .int a1)] := hl
  unfold g_leaveOpen at hf
  refine lv_aload_n hx hb dX2_leaveOpen_0 rfl (lv_at hl 0 rfl) ?_
  refine q_get C hP (q0 := 0) rfl rfl hiX2_leaveOpen_X2 7 (by decide) wdX2_leaveOpen_1 rfl dX2_leaveOpen_1 ?_
  refine lv_sipush (v := 601) hx hb dX2_leaveOpen_4 (by decide) ?_
  refine lv_icmp_ge (tgt := 30) hx hb dX2_leaveOpen_7 (by decide) (fun c1 => ?_) (fun c1 => ?_)
  · have hf := if_t c1 hf
    cases hf
    exact q_vret C hP hS rfl dX2_leaveOpen_30
  · have hf := if_f c1 hf
    refine lv_aload_n hx hb dX2_leaveOpen_10 rfl (lv_at hl 0 rfl) ?_
    refine q_get C hP (q0 := 0) rfl rfl hiX2_leaveOpen_X2 6 (by decide) wdX2_leaveOpen_2 rfl dX2_leaveOpen_11 ?_
    refine lv_aload_n hx hb dX2_leaveOpen_14 rfl (lv_at hl 0 rfl) ?_
    refine q_get C hP (q0 := 0) rfl rfl hiX2_leaveOpen_X2 7 (by decide) wdX2_leaveOpen_1 rfl dX2_leaveOpen_15 ?_
    refine lv_iload_n hx hb dX2_leaveOpen_18 rfl (lv_at hl 1 rfl) ?_
    obtain ⟨hin, hf⟩ := gd_some hf
    obtain ⟨s2, es2, hf⟩ := nm_ex hf
    refine q_iast C hP (dd_S hD) hS (q0 := 5) rfl rfl rfl hin dX2_leaveOpen_19 (fun H locs hP hS => ?_)
    have hP : va_P G.1 vwCl (wS G qs s2) H := by rw [← es2]; exact hP
    refine lv_aload_n hx hb dX2_leaveOpen_20 rfl (lv_at hl 0 rfl) ?_
    refine lv_dup hx hb dX2_leaveOpen_21 rfl ?_
    refine q_get C hP (q0 := 0) rfl rfl hiX2_leaveOpen_X2 7 (by decide) wdX2_leaveOpen_1 rfl dX2_leaveOpen_22 ?_
    refine lv_iconst (v := 1) hx hb dX2_leaveOpen_25 (by decide) ?_
    refine lv_iadd hx hb dX2_leaveOpen_26 ?_
    obtain ⟨s3, es3, hf⟩ := nm_ex hf
    refine q_put C hP (dd_S hD) hS (q0 := 0) rfl rfl hiX2_leaveOpen_X2 tyX2_ok nmX2 7 (by decide) wdX2_leaveOpen_1 rfl rfl rfl (Nat.le_of_ble_eq_true rfl) rfl dX2_leaveOpen_27 (fun H locs hP hS => ?_)
    have hP : va_P G.1 vwCl (wS G qs s3) H := by rw [← es3]; exact hP
    cases hf
    exact q_vret C hP hS rfl dX2_leaveOpen_30

-- X2_meet
theorem hiX2_meet_X2 : ∀ w ∈ u_ws RX2 TX2 8, w ∈ wsX2_meet := mem_run (i := 5) (by decide +kernel)
theorem wdX2_meet_1 : (Cond.fieldLink RX2 33 "CombinatorRing$Sight" "metCount" "I") ∈ wsX2_meet := List.mem_of_getElem? (i := 1) rfl
theorem wdX2_meet_2 : (Cond.fieldLink RX2 18 "CombinatorRing$Sight" "metAs" "[I") ∈ wsX2_meet := List.mem_of_getElem? (i := 2) rfl
theorem wdX2_meet_3 : (Cond.fieldLink RX2 9 "CombinatorRing$Sight" "metNodes" "[I") ∈ wsX2_meet := List.mem_of_getElem? (i := 3) rfl
theorem wdX2_meet_4 : (Cond.fieldLink RX2 15 "CombinatorRing$Sight" "metPorts" "[I") ∈ wsX2_meet := List.mem_of_getElem? (i := 4) rfl
def g_meet (ss : OSt) (a1 : Int32) (a2 : Int32) : Option (OSt) := if 300 ≤ (ss.1 3) then some ss else gd a1 300 (nm (sA ss 2 (upd (ss.2 2) a1.toNatClampNeg (ss.1 3))) fun s2 => gd (s2.1 3) 300 (nm (sA s2 0 (upd (s2.2 0) (s2.1 3).toNatClampNeg a1)) fun s3 => gd (s3.1 3) 300 (nm (sA s3 1 (upd (s3.2 1) (s3.1 3).toNatClampNeg a2)) fun s4 => nm (sI s4 3 ((s4.1 3) + 1)) fun s5 => some s5)))
abbrev rmX2_meet : Room := { frames := 0, cells := 0, slots := 0, locals := 0 }
theorem hdX2_meet : yX2_meet.cls = RX2 ∧ yX2_meet.cls ≠ "java/lang/invoke/MethodHandle" ∧ yX2_meet.cls ≠ "java/lang/invoke/VarHandle" ∧ (parseMethodDescriptor yX2_meet.desc).map (fun d => d.parameters.length) = some 2 := by decide +kernel
set_option maxHeartbeats 4000000 in
set_option maxRecDepth 100000 in
theorem c_X2_meet {l : Launch} {G : Gx} {qs : Nat → Nat} {ss : OSt} {a1 : Int32} {a2 : Int32} {x : OSt} (hf : g_meet ss a1 a2 = some x) : QM l G yX2_meet wsX2_meet rmX2_meet [.ref (qs 8), .int a1, .int a2] (wS G qs ss) (wS G qs x) none := by
  refine QM.of (cc := cX2_meet) (maxL := 3) (ret := none) (by decide) rfl (Nat.le_of_ble_eq_true rfl) ?_
  intro p e s m below meth c A ls C hD hP hS hl
  have hx := C.1
  have hb := C.2.1
  have hl : lv_has ls 3 [(0, .ref (qs 8)), (1, .int a1), (2, .int a2)] := hl
  unfold g_meet at hf
  refine lv_aload_n hx hb dX2_meet_0 rfl (lv_at hl 0 rfl) ?_
  refine q_get C hP (q0 := 0) rfl rfl hiX2_meet_X2 3 (by decide) wdX2_meet_1 rfl dX2_meet_1 ?_
  refine lv_sipush (v := 300) hx hb dX2_meet_4 (by decide) ?_
  refine lv_icmp_ge (tgt := 50) hx hb dX2_meet_7 (by decide) (fun c1 => ?_) (fun c1 => ?_)
  · have hf := if_t c1 hf
    cases hf
    exact q_vret C hP hS rfl dX2_meet_50
  · have hf := if_f c1 hf
    refine lv_aload_n hx hb dX2_meet_10 rfl (lv_at hl 0 rfl) ?_
    refine q_get C hP (q0 := 0) rfl rfl hiX2_meet_X2 2 (by decide) wdX2_meet_2 rfl dX2_meet_11 ?_
    refine lv_iload_n hx hb dX2_meet_14 rfl (lv_at hl 1 rfl) ?_
    refine lv_aload_n hx hb dX2_meet_15 rfl (lv_at hl 0 rfl) ?_
    refine q_get C hP (q0 := 0) rfl rfl hiX2_meet_X2 3 (by decide) wdX2_meet_1 rfl dX2_meet_16 ?_
    obtain ⟨hin, hf⟩ := gd_some hf
    obtain ⟨s2, es2, hf⟩ := nm_ex hf
    refine q_iast C hP (dd_S hD) hS (q0 := 3) rfl rfl rfl hin dX2_meet_19 (fun H locs hP hS => ?_)
    have hP : va_P G.1 vwCl (wS G qs s2) H := by rw [← es2]; exact hP
    refine lv_aload_n hx hb dX2_meet_20 rfl (lv_at hl 0 rfl) ?_
    refine q_get C hP (q0 := 0) rfl rfl hiX2_meet_X2 0 (by decide) wdX2_meet_3 rfl dX2_meet_21 ?_
    refine lv_aload_n hx hb dX2_meet_24 rfl (lv_at hl 0 rfl) ?_
    refine q_get C hP (q0 := 0) rfl rfl hiX2_meet_X2 3 (by decide) wdX2_meet_1 rfl dX2_meet_25 ?_
    refine lv_iload_n hx hb dX2_meet_28 rfl (lv_at hl 1 rfl) ?_
    obtain ⟨hin, hf⟩ := gd_some hf
    obtain ⟨s3, es3, hf⟩ := nm_ex hf
    refine q_iast C hP (dd_S hD) hS (q0 := 1) rfl rfl rfl hin dX2_meet_29 (fun H locs hP hS => ?_)
    have hP : va_P G.1 vwCl (wS G qs s3) H := by rw [← es3]; exact hP
    refine lv_aload_n hx hb dX2_meet_30 rfl (lv_at hl 0 rfl) ?_
    refine q_get C hP (q0 := 0) rfl rfl hiX2_meet_X2 1 (by decide) wdX2_meet_4 rfl dX2_meet_31 ?_
    refine lv_aload_n hx hb dX2_meet_34 rfl (lv_at hl 0 rfl) ?_
    refine q_get C hP (q0 := 0) rfl rfl hiX2_meet_X2 3 (by decide) wdX2_meet_1 rfl dX2_meet_35 ?_
    refine lv_iload_n hx hb dX2_meet_38 rfl (lv_at hl 2 rfl) ?_
    obtain ⟨hin, hf⟩ := gd_some hf
    obtain ⟨s4, es4, hf⟩ := nm_ex hf
    refine q_iast C hP (dd_S hD) hS (q0 := 2) rfl rfl rfl hin dX2_meet_39 (fun H locs hP hS => ?_)
    have hP : va_P G.1 vwCl (wS G qs s4) H := by rw [← es4]; exact hP
    refine lv_aload_n hx hb dX2_meet_40 rfl (lv_at hl 0 rfl) ?_
    refine lv_dup hx hb dX2_meet_41 rfl ?_
    refine q_get C hP (q0 := 0) rfl rfl hiX2_meet_X2 3 (by decide) wdX2_meet_1 rfl dX2_meet_42 ?_
    refine lv_iconst (v := 1) hx hb dX2_meet_45 (by decide) ?_
    refine lv_iadd hx hb dX2_meet_46 ?_
    obtain ⟨s5, es5, hf⟩ := nm_ex hf
    refine q_put C hP (dd_S hD) hS (q0 := 0) rfl rfl hiX2_meet_X2 tyX2_ok nmX2 3 (by decide) wdX2_meet_1 rfl rfl rfl (Nat.le_of_ble_eq_true rfl) rfl dX2_meet_47 (fun H locs hP hS => ?_)
    have hP : va_P G.1 vwCl (wS G qs s5) H := by rw [← es5]; exact hP
    cases hf
    exact q_vret C hP hS rfl dX2_meet_50

-- X2_leaveOthersOpen
def g_leaveOthersOpen_2 : Nat → OSt → Int32 → Int32 → Int32 → Option (OSt)
  | 0, _, _, _, _ => none
  | n + 1, ss, v1, v2, v3 => if v3 < 0 then some ss else if v3 = v2 then g_leaveOthersOpen_2 n ss v1 v2 (v3 + (-1)) else bd (g_leaveOpen ss ((3 * v1) + v3)) fun x4 => g_leaveOthersOpen_2 n x4 v1 v2 (v3 + (-1))
def g_leaveOthersOpen (ss : OSt) (a1 : Int32) (a2 : Int32) : Option (OSt) := bd (g_leaveOthersOpen_2 20000 ss a1 a2 2) fun x1 => some x1
abbrev rmX2_leaveOthersOpen : Room := { frames := 1, cells := 0, slots := 0, locals := 21 }
theorem hdX2_leaveOthersOpen : yX2_leaveOthersOpen.cls = RX2 ∧ yX2_leaveOthersOpen.cls ≠ "java/lang/invoke/MethodHandle" ∧ yX2_leaveOthersOpen.cls ≠ "java/lang/invoke/VarHandle" ∧ (parseMethodDescriptor yX2_leaveOthersOpen.desc).map (fun d => d.parameters.length) = some 2 := by decide +kernel
set_option maxHeartbeats 4000000 in
set_option maxRecDepth 100000 in
theorem t_X2_leaveOthersOpen_2 {p : Program} {l : Launch} {e : Env} {s : State} {m : MethodId} {args : Array Value} {below : List Frame} {meth : Method} {c : Code} {Q : State → Prop} {A : Nat → Prop} {G : Gx} {qs : Nat → Nat} {ss0 : OSt} (C : Cx p s m args meth c G cX2_leaveOthersOpen wsX2_leaveOthersOpen RX2 none 4 A) (hD : va_D A (wS G qs ss0)) :
    ∀ {n : Nat} {ss : OSt} {v1 : Int32} {v2 : Int32} {v3 : Int32} {x : OSt}, g_leaveOthersOpen_2 n ss v1 v2 v3 = some x → ∀ {H : Heap} {locs : List Loc} {ls : Array Slot}, va_P G.1 vwCl (wS G qs ss) H → va_S A s.heap H locs → lv_has ls 4 [(0, .ref (qs 8)), (1, .int v1), (2, .int v2), (3, .int v3)] → (∀ {H : Heap} {locs : List Loc} {ls : Array Slot}, va_P G.1 vwCl (wS G qs x) H → va_S A s.heap H locs → lv_has ls 4 [] → W p l e rmX2_leaveOthersOpen s m args below meth c H locs 0 0 Q (F0 m 26 ls [])) → W p l e rmX2_leaveOthersOpen s m args below meth c H locs 0 0 Q (F0 m 2 ls []) := by
  have hx := C.1
  have hb := C.2.1
  intro n
  induction n with
  | zero => intro ss v1 v2 v3 x hf; cases hf
  | succ n ih =>
    intro ss v1 v2 v3 x hf H locs ls hP hS hl kk
    rw [g_leaveOthersOpen_2] at hf
    refine lv_iload_n hx hb dX2_leaveOthersOpen_2 rfl (lv_at hl 3 rfl) ?_
    refine lv_if_lt (tgt := 26) hx hb dX2_leaveOthersOpen_3 (by decide) (fun c2 => ?_) (fun c2 => ?_)
    · have hf := if_t c2 hf
      cases hf
      exact kk hP hS (lv_sub hl [] rfl)
    · have hf := if_f c2 hf
      refine lv_iload_n hx hb dX2_leaveOthersOpen_6 rfl (lv_at hl 3 rfl) ?_
      refine lv_iload_n hx hb dX2_leaveOthersOpen_7 rfl (lv_at hl 2 rfl) ?_
      refine lv_icmp_eq (tgt := 20) hx hb dX2_leaveOthersOpen_8 (by decide) (fun c3 => ?_) (fun c3 => ?_)
      · have hf := if_t c3 hf
        refine lv_iinc (v := (v3 + (-1))) (lv' := [(3, .int (v3 + (-1))), (0, .ref (qs 8)), (1, .int v1), (2, .int v2)]) hx hb dX2_leaveOthersOpen_20 hl (k := 3) rfl rfl (by decide) rfl (fun ls hl => ?_)
        refine lv_goto (tgt := 2) hx hb dX2_leaveOthersOpen_23 (by decide) ?_
        exact ih hf hP hS (lv_sub hl [1, 2, 3, 0] rfl) kk
      · have hf := if_f c3 hf
        refine lv_aload_n hx hb dX2_leaveOthersOpen_11 rfl (lv_at hl 0 rfl) ?_
        refine lv_iconst (v := 3) hx hb dX2_leaveOthersOpen_12 (by decide) ?_
        refine lv_iload_n hx hb dX2_leaveOthersOpen_13 rfl (lv_at hl 1 rfl) ?_
        refine lv_imul hx hb dX2_leaveOthersOpen_14 ?_
        refine lv_iload_n hx hb dX2_leaveOthersOpen_15 rfl (lv_at hl 3 rfl) ?_
        refine lv_iadd hx hb dX2_leaveOthersOpen_16 ?_
        obtain ⟨x4, hx4, hf⟩ := bd_some hf
        refine q_Vv C (rc := (RX2, TX2, 8)) (q0 := 0) (ci := 2) (ws' := wS G qs x4) (wr := []) (c_X2_leaveOpen hx4) gX2_leaveOthersOpen_X2_leaveOpen rfl ⟨rfl, rfl⟩ hdX2_leaveOpen ⟨(Nat.le_of_ble_eq_true rfl), (Nat.le_of_ble_eq_true rfl)⟩ rfl hP (dd_S hD) hS rfl rfl (List.Perm.refl _) (List.Perm.refl _) hl.1 (Nat.le_of_ble_eq_true rfl) ⟨Nat.zero_le _, Nat.zero_le _⟩ rfl dX2_leaveOthersOpen_17 (fun H locs hP hS => ?_)
        refine lv_iinc (v := (v3 + (-1))) (lv' := [(3, .int (v3 + (-1))), (0, .ref (qs 8)), (1, .int v1), (2, .int v2)]) hx hb dX2_leaveOthersOpen_20 hl (k := 3) rfl rfl (by decide) rfl (fun ls hl => ?_)
        refine lv_goto (tgt := 2) hx hb dX2_leaveOthersOpen_23 (by decide) ?_
        exact ih hf hP hS (lv_sub hl [1, 2, 3, 0] rfl) kk
set_option maxHeartbeats 4000000 in
set_option maxRecDepth 100000 in
theorem c_X2_leaveOthersOpen {l : Launch} {G : Gx} {qs : Nat → Nat} {ss : OSt} {a1 : Int32} {a2 : Int32} {x : OSt} (hf : g_leaveOthersOpen ss a1 a2 = some x) : QM l G yX2_leaveOthersOpen wsX2_leaveOthersOpen rmX2_leaveOthersOpen [.ref (qs 8), .int a1, .int a2] (wS G qs ss) (wS G qs x) none := by
  refine QM.of (cc := cX2_leaveOthersOpen) (maxL := 4) (ret := none) (by decide) rfl (Nat.le_of_ble_eq_true rfl) ?_
  intro p e s m below meth c A ls C hD hP hS hl
  have hx := C.1
  have hb := C.2.1
  have hl : lv_has ls 4 [(0, .ref (qs 8)), (1, .int a1), (2, .int a2)] := hl
  unfold g_leaveOthersOpen at hf
  refine lv_iconst (v := 2) hx hb dX2_leaveOthersOpen_0 (by decide) ?_
  refine lv_istore_n (lv' := [(3, .int 2), (0, .ref (qs 8)), (1, .int a1), (2, .int a2)]) hx hb dX2_leaveOthersOpen_1 rfl hl (by decide) rfl (fun ls hl => ?_)
  obtain ⟨x1, hx1, hf⟩ := bd_some hf
  refine t_X2_leaveOthersOpen_2 C hD hx1 hP hS (lv_sub hl [1, 2, 3, 0] rfl) (fun {H locs ls} hP hS hl => ?_)
  cases hf
  exact q_vret C hP hS rfl dX2_leaveOthersOpen_26

-- X2_come
theorem hiX2_come_X2 : ∀ w ∈ u_ws RX2 TX2 8, w ∈ wsX2_come := mem_run (i := 32) (by decide +kernel)
theorem wdX2_come_1 : (Cond.fieldLink RX2 18 "CombinatorRing$Sight" "metAs" "[I") ∈ wsX2_come := List.mem_of_getElem? (i := 1) rfl
def g_come_17 (ss : OSt) (sn : NSt) (v2 : Int32) (v3 : Int32) (k0 : Int32) : Option (OSt) := if k0 = (-1) then bd (g_tell ss v2) fun x10 => some x10 else gd v3 300 (if (ss.2 2 v3.toNatClampNeg) = (-1) then bd (g_meet ss v3 (v2 - v2 / 3 * 3)) fun x5 => bd (g_tell x5 ((3 * (v2 - v2 / 3 * 3)) + k0)) fun x6 => if k0 = 0 then some x6 else bd (g_leaveOthersOpen x6 v3 (v2 - v2 / 3 * 3)) fun x8 => some x8 else gd v3 300 (bd (g_tell ss ((10 + (3 * (ss.2 2 v3.toNatClampNeg))) + (v2 - v2 / 3 * 3))) fun x9 => some x9))
def g_come (ss : OSt) (sn : NSt) (a2 : Int32) : Option (OSt) := if 0 ≤ a2 then bd (n_kindOf sn (a2 / 3)) fun x2 => g_come_17 ss sn a2 (a2 / 3) x2 else g_come_17 ss sn a2 (a2 / 3) (-1)
abbrev rmX2_come : Room := { frames := 2, cells := 0, slots := 0, locals := 44 }
theorem hdX2_come : yX2_come.cls = RX2 ∧ yX2_come.cls ≠ "java/lang/invoke/MethodHandle" ∧ yX2_come.cls ≠ "java/lang/invoke/VarHandle" ∧ (parseMethodDescriptor yX2_come.desc).map (fun d => d.parameters.length) = some 2 := by decide +kernel
set_option maxHeartbeats 4000000 in
set_option maxRecDepth 100000 in
theorem t_X2_come_17 {p : Program} {l : Launch} {e : Env} {s : State} {m : MethodId} {args : Array Value} {below : List Frame} {meth : Method} {c : Code} {A : Nat → Prop} {G : Gx} {qs : Nat → Nat} {qn : Nat → Nat} {ss0 : OSt} {sn0 : NSt} (C : Cx p s m args meth c G cX2_come wsX2_come RX2 none 5 A) (hD : va_D A (wS G qs ss0 ++ wN G qn sn0)) :
    ∀ {ss : OSt} {sn : NSt} {v2 : Int32} {v3 : Int32} {k0 : Int32} {x : OSt}, g_come_17 ss sn v2 v3 k0 = some x → ∀ {H : Heap} {locs : List Loc} {ls : Array Slot}, va_P G.1 vwCl (wS G qs ss ++ wN G qn sn) H → va_S A s.heap H locs → lv_has ls 5 [(0, .ref (qs 8)), (2, .int v2), (3, .int v3)] → W p l e rmX2_come s m args below meth c H locs 0 0 (MQ below (qE G A (wS G qs x ++ wN G qn sn) none) args s 0 0 A) (F0 m 17 ls [.int k0]) := by
  have hx := C.1
  have hb := C.2.1
  intro ss sn v2 v3 k0 x hf H locs ls hP hS hl
  unfold g_come_17 at hf
  refine lv_istore (lv' := [(4, .int k0), (0, .ref (qs 8)), (2, .int v2), (3, .int v3)]) hx hb dX2_come_17 hl (by decide) rfl (fun ls hl => ?_)
  refine lv_iload hx hb dX2_come_19 (lv_at hl 0 rfl) ?_
  refine lv_iconst (v := (-1)) hx hb dX2_come_21 (by decide) ?_
  refine lv_icmp_ne (tgt := 33) hx hb dX2_come_22 (by decide) (fun c3 => ?_) (fun c3 => ?_)
  · have hf := if_f c3 hf
    refine lv_aload_n hx hb dX2_come_33 rfl (lv_at hl 1 rfl) ?_
    refine q_get C hP (q0 := 0) rfl rfl hiX2_come_X2 2 (by decide) wdX2_come_1 rfl dX2_come_34 ?_
    refine lv_iload_n hx hb dX2_come_37 rfl (lv_at hl 3 rfl) ?_
    obtain ⟨hin, hf⟩ := gd_some hf
    refine q_iald C hP (q0 := 3) rfl rfl hin dX2_come_38 ?_
    refine lv_iconst (v := (-1)) hx hb dX2_come_39 (by decide) ?_
    refine lv_icmp_eq (tgt := 65) hx hb dX2_come_40 (by decide) (fun c4 => ?_) (fun c4 => ?_)
    · have hf := if_t c4 hf
      refine lv_aload_n hx hb dX2_come_65 rfl (lv_at hl 1 rfl) ?_
      refine lv_iload_n hx hb dX2_come_66 rfl (lv_at hl 3 rfl) ?_
      refine lv_iload_n hx hb dX2_come_67 rfl (lv_at hl 2 rfl) ?_
      refine lv_iconst (v := 3) hx hb dX2_come_68 (by decide) ?_
      refine lv_irem hx hb dX2_come_69 (by decide) ?_
      obtain ⟨x5, hx5, hf⟩ := bd_some hf
      refine q_Vv C (rc := (RX2, TX2, 8)) (q0 := 0) (ci := 2) (ws' := wS G qs x5 ++ wN G qn sn) (c_X2_meet hx5) gX2_come_X2_meet rfl ⟨rfl, rfl⟩ hdX2_meet ⟨(Nat.le_of_ble_eq_true rfl), (Nat.le_of_ble_eq_true rfl)⟩ rfl hP (dd_SN hD) hS rfl rfl List.perm_append_comm List.perm_append_comm hl.1 (Nat.le_of_ble_eq_true rfl) ⟨Nat.zero_le _, Nat.zero_le _⟩ rfl dX2_come_70 (fun H locs hP hS => ?_)
      refine lv_aload_n hx hb dX2_come_73 rfl (lv_at hl 1 rfl) ?_
      refine lv_iconst (v := 3) hx hb dX2_come_74 (by decide) ?_
      refine lv_iload_n hx hb dX2_come_75 rfl (lv_at hl 2 rfl) ?_
      refine lv_iconst (v := 3) hx hb dX2_come_76 (by decide) ?_
      refine lv_irem hx hb dX2_come_77 (by decide) ?_
      refine lv_imul hx hb dX2_come_78 ?_
      refine lv_iload hx hb dX2_come_79 (lv_at hl 0 rfl) ?_
      refine lv_iadd hx hb dX2_come_81 ?_
      obtain ⟨x6, hx6, hf⟩ := bd_some hf
      refine q_Vv C (rc := (RX2, TX2, 8)) (q0 := 0) (ci := 2) (ws' := wS G qs x6 ++ wN G qn sn) (c_X2_tell hx6) gX2_come_X2_tell rfl ⟨rfl, rfl⟩ hdX2_tell ⟨(Nat.le_of_ble_eq_true rfl), (Nat.le_of_ble_eq_true rfl)⟩ rfl hP (dd_SN hD) hS rfl rfl List.perm_append_comm List.perm_append_comm hl.1 (Nat.le_of_ble_eq_true rfl) ⟨Nat.zero_le _, Nat.zero_le _⟩ rfl dX2_come_82 (fun H locs hP hS => ?_)
      refine lv_iload hx hb dX2_come_85 (lv_at hl 0 rfl) ?_
      refine lv_if_eq (tgt := 98) hx hb dX2_come_87 (by decide) (fun c7 => ?_) (fun c7 => ?_)
      · have hf := if_t c7 hf
        cases hf
        exact q_vret C hP hS rfl dX2_come_98
      · have hf := if_f c7 hf
        refine lv_aload_n hx hb dX2_come_90 rfl (lv_at hl 1 rfl) ?_
        refine lv_iload_n hx hb dX2_come_91 rfl (lv_at hl 3 rfl) ?_
        refine lv_iload_n hx hb dX2_come_92 rfl (lv_at hl 2 rfl) ?_
        refine lv_iconst (v := 3) hx hb dX2_come_93 (by decide) ?_
        refine lv_irem hx hb dX2_come_94 (by decide) ?_
        obtain ⟨x8, hx8, hf⟩ := bd_some hf
        refine q_Vv C (rc := (RX2, TX2, 8)) (q0 := 0) (ci := 2) (ws' := wS G qs x8 ++ wN G qn sn) (c_X2_leaveOthersOpen hx8) gX2_come_X2_leaveOthersOpen rfl ⟨rfl, rfl⟩ hdX2_leaveOthersOpen ⟨(Nat.le_of_ble_eq_true rfl), (Nat.le_of_ble_eq_true rfl)⟩ rfl hP (dd_SN hD) hS rfl rfl List.perm_append_comm List.perm_append_comm hl.1 (Nat.le_of_ble_eq_true rfl) ⟨Nat.zero_le _, Nat.zero_le _⟩ rfl dX2_come_95 (fun H locs hP hS => ?_)
        cases hf
        exact q_vret C hP hS rfl dX2_come_98
    · have hf := if_f c4 hf
      refine lv_aload_n hx hb dX2_come_43 rfl (lv_at hl 1 rfl) ?_
      refine lv_bipush (v := 10) hx hb dX2_come_44 (by decide) ?_
      refine lv_iconst (v := 3) hx hb dX2_come_46 (by decide) ?_
      refine lv_aload_n hx hb dX2_come_47 rfl (lv_at hl 1 rfl) ?_
      refine q_get C hP (q0 := 0) rfl rfl hiX2_come_X2 2 (by decide) wdX2_come_1 rfl dX2_come_48 ?_
      refine lv_iload_n hx hb dX2_come_51 rfl (lv_at hl 3 rfl) ?_
      obtain ⟨hin, hf⟩ := gd_some hf
      refine q_iald C hP (q0 := 3) rfl rfl hin dX2_come_52 ?_
      refine lv_imul hx hb dX2_come_53 ?_
      refine lv_iadd hx hb dX2_come_54 ?_
      refine lv_iload_n hx hb dX2_come_55 rfl (lv_at hl 2 rfl) ?_
      refine lv_iconst (v := 3) hx hb dX2_come_56 (by decide) ?_
      refine lv_irem hx hb dX2_come_57 (by decide) ?_
      refine lv_iadd hx hb dX2_come_58 ?_
      obtain ⟨x9, hx9, hf⟩ := bd_some hf
      refine q_Vv C (rc := (RX2, TX2, 8)) (q0 := 0) (ci := 2) (ws' := wS G qs x9 ++ wN G qn sn) (c_X2_tell hx9) gX2_come_X2_tell rfl ⟨rfl, rfl⟩ hdX2_tell ⟨(Nat.le_of_ble_eq_true rfl), (Nat.le_of_ble_eq_true rfl)⟩ rfl hP (dd_SN hD) hS rfl rfl List.perm_append_comm List.perm_append_comm hl.1 (Nat.le_of_ble_eq_true rfl) ⟨Nat.zero_le _, Nat.zero_le _⟩ rfl dX2_come_59 (fun H locs hP hS => ?_)
      refine lv_goto (tgt := 98) hx hb dX2_come_62 (by decide) ?_
      cases hf
      exact q_vret C hP hS rfl dX2_come_98
  · have hf := if_t c3 hf
    refine lv_aload_n hx hb dX2_come_25 rfl (lv_at hl 1 rfl) ?_
    refine lv_iload_n hx hb dX2_come_26 rfl (lv_at hl 2 rfl) ?_
    obtain ⟨x10, hx10, hf⟩ := bd_some hf
    refine q_Vv C (rc := (RX2, TX2, 8)) (q0 := 0) (ci := 2) (ws' := wS G qs x10 ++ wN G qn sn) (c_X2_tell hx10) gX2_come_X2_tell rfl ⟨rfl, rfl⟩ hdX2_tell ⟨(Nat.le_of_ble_eq_true rfl), (Nat.le_of_ble_eq_true rfl)⟩ rfl hP (dd_SN hD) hS rfl rfl List.perm_append_comm List.perm_append_comm hl.1 (Nat.le_of_ble_eq_true rfl) ⟨Nat.zero_le _, Nat.zero_le _⟩ rfl dX2_come_27 (fun H locs hP hS => ?_)
    refine lv_goto (tgt := 98) hx hb dX2_come_30 (by decide) ?_
    cases hf
    exact q_vret C hP hS rfl dX2_come_98
set_option maxHeartbeats 4000000 in
set_option maxRecDepth 100000 in
theorem c_X2_come {l : Launch} {G : Gx} {qs : Nat → Nat} {qn : Nat → Nat} {ss : OSt} {sn : NSt} {a2 : Int32} {x : OSt} (hf : g_come ss sn a2 = some x) : QM l G yX2_come wsX2_come rmX2_come [.ref (qs 8), .ref (qn 15), .int a2] (wS G qs ss ++ wN G qn sn) (wS G qs x ++ wN G qn sn) none := by
  refine QM.of (cc := cX2_come) (maxL := 5) (ret := none) (by decide) rfl (Nat.le_of_ble_eq_true rfl) ?_
  intro p e s m below meth c A ls C hD hP hS hl
  have hx := C.1
  have hb := C.2.1
  have hl : lv_has ls 5 [(0, .ref (qs 8)), (1, .ref (qn 15)), (2, .int a2)] := hl
  unfold g_come at hf
  refine lv_iload_n hx hb dX2_come_0 rfl (lv_at hl 2 rfl) ?_
  refine lv_iconst (v := 3) hx hb dX2_come_1 (by decide) ?_
  refine lv_idiv hx hb dX2_come_2 (by decide) ?_
  refine lv_istore_n (lv' := [(3, .int (a2 / 3)), (0, .ref (qs 8)), (1, .ref (qn 15)), (2, .int a2)]) hx hb dX2_come_3 rfl hl (by decide) rfl (fun ls hl => ?_)
  refine lv_iload_n hx hb dX2_come_4 rfl (lv_at hl 3 rfl) ?_
  refine lv_if_ge (tgt := 12) hx hb dX2_come_5 (by decide) (fun c1 => ?_) (fun c1 => ?_)
  · have hf := if_t c1 hf
    refine lv_aload_n hx hb dX2_come_12 rfl (lv_at hl 2 rfl) ?_
    refine lv_iload_n hx hb dX2_come_13 rfl (lv_at hl 0 rfl) ?_
    obtain ⟨x2, hx2, hf⟩ := bd_some hf
    refine q_Vi C (rc := (RX0, TX0, 15)) (q0 := 6) (ci := 0) (ws' := wS G qs ss ++ wN G qn sn) (wr := wS G qs ss) (c_X0_kindOf (qn := qn) hx2) gX2_come_X0_kindOf rfl ⟨rfl, rfl⟩ hdX0_kindOf ⟨(Nat.le_of_ble_eq_true rfl), (Nat.le_of_ble_eq_true rfl)⟩ rfl hP (dd_SN hD) hS rfl rfl (List.Perm.refl _) (List.Perm.refl _) hl.1 (Nat.le_of_ble_eq_true rfl) ⟨Nat.zero_le _, Nat.zero_le _⟩ rfl dX2_come_14 (fun H locs hP hS => ?_)
    exact t_X2_come_17 C hD hf hP hS (lv_sub hl [1, 3, 0] rfl)
  · have hf := if_f c1 hf
    refine lv_iconst (v := (-1)) hx hb dX2_come_8 (by decide) ?_
    refine lv_goto (tgt := 17) hx hb dX2_come_9 (by decide) ?_
    exact t_X2_come_17 C hD hf hP hS (lv_sub hl [1, 3, 0] rfl)

-- X2_lookFrom
theorem hiX2_lookFrom_X2 : ∀ w ∈ u_ws RX2 TX2 8, w ∈ wsX2_lookFrom := mem_run (i := 41) (by decide +kernel)
theorem wdX2_lookFrom_1 : (Cond.fieldLink RX2 54 "CombinatorRing$Sight" "openCount" "I") ∈ wsX2_lookFrom := List.mem_of_getElem? (i := 1) rfl
theorem wdX2_lookFrom_2 : (Cond.fieldLink RX2 24 "CombinatorRing$Sight" "open" "[I") ∈ wsX2_lookFrom := List.mem_of_getElem? (i := 2) rfl
def g_lookFrom_12 : Nat → OSt → NSt → Int32 → Option (OSt)
  | 0, _, _, _ => none
  | n + 1, ss, sn, v3 => if 632 ≤ v3 then some ss else if (ss.1 7) ≤ 0 then some ss else nm (sI ss 7 ((ss.1 7) - 1)) fun s6 => gd (s6.1 7) 601 (bd (n_at sn (s6.2 6 (s6.1 7).toNatClampNeg)) fun x7 => bd (g_come s6 sn x7) fun x8 => g_lookFrom_12 n x8 sn (v3 + 1))
def g_lookFrom (ss : OSt) (sn : NSt) (a2 : Int32) : Option (OSt) := nm (sI ss 7 0) fun s1 => bd (g_leaveOpen s1 a2) fun x2 => bd (g_lookFrom_12 20000 x2 sn 0) fun x3 => some x3
abbrev rmX2_lookFrom : Room := { frames := 3, cells := 0, slots := 0, locals := 68 }
theorem hdX2_lookFrom : yX2_lookFrom.cls = RX2 ∧ yX2_lookFrom.cls ≠ "java/lang/invoke/MethodHandle" ∧ yX2_lookFrom.cls ≠ "java/lang/invoke/VarHandle" ∧ (parseMethodDescriptor yX2_lookFrom.desc).map (fun d => d.parameters.length) = some 2 := by decide +kernel
set_option maxHeartbeats 4000000 in
set_option maxRecDepth 100000 in
theorem t_X2_lookFrom_12 {p : Program} {l : Launch} {e : Env} {s : State} {m : MethodId} {args : Array Value} {below : List Frame} {meth : Method} {c : Code} {Q : State → Prop} {A : Nat → Prop} {G : Gx} {qs : Nat → Nat} {qn : Nat → Nat} {ss0 : OSt} {sn0 : NSt} (C : Cx p s m args meth c G cX2_lookFrom wsX2_lookFrom RX2 none 4 A) (hD : va_D A (wS G qs ss0 ++ wN G qn sn0)) :
    ∀ {n : Nat} {ss : OSt} {sn : NSt} {v3 : Int32} {x : OSt}, g_lookFrom_12 n ss sn v3 = some x → ∀ {H : Heap} {locs : List Loc} {ls : Array Slot}, va_P G.1 vwCl (wS G qs ss ++ wN G qn sn) H → va_S A s.heap H locs → lv_has ls 4 [(0, .ref (qs 8)), (1, .ref (qn 15)), (3, .int v3)] → (∀ {H : Heap} {locs : List Loc} {ls : Array Slot}, va_P G.1 vwCl (wS G qs x ++ wN G qn sn) H → va_S A s.heap H locs → lv_has ls 4 [] → W p l e rmX2_lookFrom s m args below meth c H locs 0 0 Q (F0 m 60 ls [])) → W p l e rmX2_lookFrom s m args below meth c H locs 0 0 Q (F0 m 12 ls []) := by
  have hx := C.1
  have hb := C.2.1
  intro n
  induction n with
  | zero => intro ss sn v3 x hf; cases hf
  | succ n ih =>
    intro ss sn v3 x hf H locs ls hP hS hl kk
    rw [g_lookFrom_12] at hf
    refine lv_iload_n hx hb dX2_lookFrom_12 rfl (lv_at hl 2 rfl) ?_
    refine lv_sipush (v := 632) hx hb dX2_lookFrom_13 (by decide) ?_
    refine lv_icmp_ge (tgt := 60) hx hb dX2_lookFrom_16 (by decide) (fun c4 => ?_) (fun c4 => ?_)
    · have hf := if_t c4 hf
      cases hf
      exact kk hP hS (lv_sub hl [] rfl)
    · have hf := if_f c4 hf
      refine lv_aload_n hx hb dX2_lookFrom_19 rfl (lv_at hl 0 rfl) ?_
      refine q_get C hP (q0 := 0) rfl rfl hiX2_lookFrom_X2 7 (by decide) wdX2_lookFrom_1 rfl dX2_lookFrom_20 ?_
      refine lv_if_le (tgt := 60) hx hb dX2_lookFrom_23 (by decide) (fun c5 => ?_) (fun c5 => ?_)
      · have hf := if_t c5 hf
        cases hf
        exact kk hP hS (lv_sub hl [] rfl)
      · have hf := if_f c5 hf
        refine lv_aload_n hx hb dX2_lookFrom_26 rfl (lv_at hl 0 rfl) ?_
        refine lv_dup hx hb dX2_lookFrom_27 rfl ?_
        refine q_get C hP (q0 := 0) rfl rfl hiX2_lookFrom_X2 7 (by decide) wdX2_lookFrom_1 rfl dX2_lookFrom_28 ?_
        refine lv_iconst (v := 1) hx hb dX2_lookFrom_31 (by decide) ?_
        refine lv_isub hx hb dX2_lookFrom_32 ?_
        obtain ⟨s6, es6, hf⟩ := nm_ex hf
        refine q_put C hP (dd_SN hD) hS (q0 := 0) rfl rfl hiX2_lookFrom_X2 tyX2_ok nmX2 7 (by decide) wdX2_lookFrom_1 rfl rfl rfl (Nat.le_of_ble_eq_true rfl) rfl dX2_lookFrom_33 (fun H locs hP hS => ?_)
        have hP : va_P G.1 vwCl (wS G qs s6 ++ wN G qn sn) H := by rw [← es6]; exact hP
        refine lv_aload_n hx hb dX2_lookFrom_36 rfl (lv_at hl 0 rfl) ?_
        refine lv_aload_n hx hb dX2_lookFrom_37 rfl (lv_at hl 1 rfl) ?_
        refine lv_aload_n hx hb dX2_lookFrom_38 rfl (lv_at hl 1 rfl) ?_
        refine lv_aload_n hx hb dX2_lookFrom_39 rfl (lv_at hl 0 rfl) ?_
        refine q_get C hP (q0 := 0) rfl rfl hiX2_lookFrom_X2 6 (by decide) wdX2_lookFrom_2 rfl dX2_lookFrom_40 ?_
        refine lv_aload_n hx hb dX2_lookFrom_43 rfl (lv_at hl 0 rfl) ?_
        refine q_get C hP (q0 := 0) rfl rfl hiX2_lookFrom_X2 7 (by decide) wdX2_lookFrom_1 rfl dX2_lookFrom_44 ?_
        obtain ⟨hin, hf⟩ := gd_some hf
        refine q_iald C hP (q0 := 5) rfl rfl hin dX2_lookFrom_47 ?_
        obtain ⟨x7, hx7, hf⟩ := bd_some hf
        refine q_Vi C (rc := (RX0, TX0, 15)) (q0 := 6) (ci := 0) (ws' := wS G qs s6 ++ wN G qn sn) (wr := wS G qs s6) (c_X0_at (qn := qn) hx7) gX2_lookFrom_X0_at rfl ⟨rfl, rfl⟩ hdX0_at ⟨(Nat.le_of_ble_eq_true rfl), (Nat.le_of_ble_eq_true rfl)⟩ rfl hP (dd_SN hD) hS rfl rfl (List.Perm.refl _) (List.Perm.refl _) hl.1 (Nat.le_of_ble_eq_true rfl) ⟨Nat.zero_le _, Nat.zero_le _⟩ rfl dX2_lookFrom_48 (fun H locs hP hS => ?_)
        obtain ⟨x8, hx8, hf⟩ := bd_some hf
        refine q_Vv C (rc := (RX2, TX2, 8)) (q0 := 0) (ci := 2) (ws' := wS G qs x8 ++ wN G qn sn) (wr := []) (c_X2_come hx8) gX2_lookFrom_X2_come rfl ⟨rfl, rfl⟩ hdX2_come ⟨(Nat.le_of_ble_eq_true rfl), (Nat.le_of_ble_eq_true rfl)⟩ rfl hP (dd_SN hD) hS rfl rfl (List.Perm.refl _) (List.Perm.refl _) hl.1 (Nat.le_of_ble_eq_true rfl) ⟨Nat.zero_le _, Nat.zero_le _⟩ rfl dX2_lookFrom_51 (fun H locs hP hS => ?_)
        refine lv_iinc (v := (v3 + 1)) (lv' := [(3, .int (v3 + 1)), (0, .ref (qs 8)), (1, .ref (qn 15))]) hx hb dX2_lookFrom_54 hl (k := 2) rfl rfl (by decide) rfl (fun ls hl => ?_)
        refine lv_goto (tgt := 12) hx hb dX2_lookFrom_57 (by decide) ?_
        exact ih hf hP hS (lv_sub hl [1, 2, 0] rfl) kk
set_option maxHeartbeats 4000000 in
set_option maxRecDepth 100000 in
theorem c_X2_lookFrom {l : Launch} {G : Gx} {qs : Nat → Nat} {qn : Nat → Nat} {ss : OSt} {sn : NSt} {a2 : Int32} {x : OSt} (hf : g_lookFrom ss sn a2 = some x) : QM l G yX2_lookFrom wsX2_lookFrom rmX2_lookFrom [.ref (qs 8), .ref (qn 15), .int a2] (wS G qs ss ++ wN G qn sn) (wS G qs x ++ wN G qn sn) none := by
  refine QM.of (cc := cX2_lookFrom) (maxL := 4) (ret := none) (by decide) rfl (Nat.le_of_ble_eq_true rfl) ?_
  intro p e s m below meth c A ls C hD hP hS hl
  have hx := C.1
  have hb := C.2.1
  have hl : lv_has ls 4 [(0, .ref (qs 8)), (1, .ref (qn 15)), (2, .int a2)] := hl
  unfold g_lookFrom at hf
  refine lv_aload_n hx hb dX2_lookFrom_0 rfl (lv_at hl 0 rfl) ?_
  refine lv_iconst (v := 0) hx hb dX2_lookFrom_1 (by decide) ?_
  obtain ⟨s1, es1, hf⟩ := nm_ex hf
  refine q_put C hP (dd_SN hD) hS (q0 := 0) rfl rfl hiX2_lookFrom_X2 tyX2_ok nmX2 7 (by decide) wdX2_lookFrom_1 rfl rfl rfl (Nat.le_of_ble_eq_true rfl) rfl dX2_lookFrom_2 (fun H locs hP hS => ?_)
  have hP : va_P G.1 vwCl (wS G qs s1 ++ wN G qn sn) H := by rw [← es1]; exact hP
  refine lv_aload_n hx hb dX2_lookFrom_5 rfl (lv_at hl 0 rfl) ?_
  refine lv_iload_n hx hb dX2_lookFrom_6 rfl (lv_at hl 2 rfl) ?_
  obtain ⟨x2, hx2, hf⟩ := bd_some hf
  refine q_Vv C (rc := (RX2, TX2, 8)) (q0 := 0) (ci := 2) (ws' := wS G qs x2 ++ wN G qn sn) (c_X2_leaveOpen hx2) gX2_lookFrom_X2_leaveOpen rfl ⟨rfl, rfl⟩ hdX2_leaveOpen ⟨(Nat.le_of_ble_eq_true rfl), (Nat.le_of_ble_eq_true rfl)⟩ rfl hP (dd_SN hD) hS rfl rfl List.perm_append_comm List.perm_append_comm hl.1 (Nat.le_of_ble_eq_true rfl) ⟨Nat.zero_le _, Nat.zero_le _⟩ rfl dX2_lookFrom_7 (fun H locs hP hS => ?_)
  refine lv_iconst (v := 0) hx hb dX2_lookFrom_10 (by decide) ?_
  refine lv_istore_n (lv' := [(3, .int 0), (0, .ref (qs 8)), (1, .ref (qn 15)), (2, .int a2)]) hx hb dX2_lookFrom_11 rfl hl (by decide) rfl (fun ls hl => ?_)
  obtain ⟨x3, hx3, hf⟩ := bd_some hf
  refine t_X2_lookFrom_12 C hD hx3 hP hS (lv_sub hl [1, 2, 0] rfl) (fun {H locs ls} hP hS hl => ?_)
  cases hf
  exact q_vret C hP hS rfl dX2_lookFrom_60

-- X2_look
theorem hiX2_look_X2 : ∀ w ∈ u_ws RX2 TX2 8, w ∈ wsX2_look := mem_run (i := 53) (by decide +kernel)
theorem wdX2_look_1 : (Cond.fieldLink RX2 18 "CombinatorRing$Sight" "metAs" "[I") ∈ wsX2_look := List.mem_of_getElem? (i := 1) rfl
theorem wdX2_look_3 : (Cond.fieldLink RX2 37 "CombinatorRing$Sight" "toldCount" "I") ∈ wsX2_look := List.mem_of_getElem? (i := 3) rfl
theorem wdX2_look_2 : (Cond.fieldLink RX2 33 "CombinatorRing$Sight" "metCount" "I") ∈ wsX2_look := List.mem_of_getElem? (i := 2) rfl
def g_look_20 : Nat → OSt → NSt → Int32 → Option (OSt)
  | 0, _, _, _ => none
  | n + 1, ss, sn, v2 => if 16 ≤ v2 then some ss else bd (n_hasRoot sn v2) fun x6 => if x6 = 0 then g_look_20 n ss sn (v2 + 1) else bd (g_tell ss (2000 + v2)) fun x8 => bd (g_lookFrom x8 sn (1000 + v2)) fun x9 => g_look_20 n x9 sn (v2 + 1)
def g_look (ss : OSt) (sn : NSt)  : Option (OSt) := bd (j_fill_53 300 (ss.2 2) (-1)) fun x1 => nm (sI (sA ss 2 x1) 3 0) fun s2 => nm (sI s2 5 0) fun s3 => bd (g_look_20 20000 s3 sn 0) fun x4 => some x4
abbrev rmX2_look : Room := { frames := 4, cells := 0, slots := 0, locals := 91 }
theorem hdX2_look : yX2_look.cls = RX2 ∧ yX2_look.cls ≠ "java/lang/invoke/MethodHandle" ∧ yX2_look.cls ≠ "java/lang/invoke/VarHandle" ∧ (parseMethodDescriptor yX2_look.desc).map (fun d => d.parameters.length) = some 1 := by decide +kernel
set_option maxHeartbeats 4000000 in
set_option maxRecDepth 100000 in
theorem t_X2_look_20 {p : Program} {l : Launch} {e : Env} {s : State} {m : MethodId} {args : Array Value} {below : List Frame} {meth : Method} {c : Code} {Q : State → Prop} {A : Nat → Prop} {G : Gx} {qs : Nat → Nat} {qn : Nat → Nat} {ss0 : OSt} {sn0 : NSt} (C : Cx p s m args meth c G cX2_look wsX2_look RX2 none 3 A) (hD : va_D A (wS G qs ss0 ++ wN G qn sn0)) :
    ∀ {n : Nat} {ss : OSt} {sn : NSt} {v2 : Int32} {x : OSt}, g_look_20 n ss sn v2 = some x → ∀ {H : Heap} {locs : List Loc} {ls : Array Slot}, va_P G.1 vwCl (wS G qs ss ++ wN G qn sn) H → va_S A s.heap H locs → lv_has ls 3 [(0, .ref (qs 8)), (1, .ref (qn 15)), (2, .int v2)] → (∀ {H : Heap} {locs : List Loc} {ls : Array Slot}, va_P G.1 vwCl (wS G qs x ++ wN G qn sn) H → va_S A s.heap H locs → lv_has ls 3 [] → W p l e rmX2_look s m args below meth c H locs 0 0 Q (F0 m 59 ls [])) → W p l e rmX2_look s m args below meth c H locs 0 0 Q (F0 m 20 ls []) := by
  have hx := C.1
  have hb := C.2.1
  intro n
  induction n with
  | zero => intro ss sn v2 x hf; cases hf
  | succ n ih =>
    intro ss sn v2 x hf H locs ls hP hS hl kk
    rw [g_look_20] at hf
    refine lv_iload_n hx hb dX2_look_20 rfl (lv_at hl 2 rfl) ?_
    refine lv_bipush (v := 16) hx hb dX2_look_21 (by decide) ?_
    refine lv_icmp_ge (tgt := 59) hx hb dX2_look_23 (by decide) (fun c5 => ?_) (fun c5 => ?_)
    · have hf := if_t c5 hf
      cases hf
      exact kk hP hS (lv_sub hl [] rfl)
    · have hf := if_f c5 hf
      refine lv_aload_n hx hb dX2_look_26 rfl (lv_at hl 1 rfl) ?_
      refine lv_iload_n hx hb dX2_look_27 rfl (lv_at hl 2 rfl) ?_
      obtain ⟨x6, hx6, hf⟩ := bd_some hf
      refine q_Vi C (rc := (RX0, TX0, 15)) (q0 := 6) (ci := 0) (ws' := wS G qs ss ++ wN G qn sn) (wr := wS G qs ss) (c_X0_hasRoot (qn := qn) hx6) gX2_look_X0_hasRoot rfl ⟨rfl, rfl⟩ hdX0_hasRoot ⟨(Nat.le_of_ble_eq_true rfl), (Nat.le_of_ble_eq_true rfl)⟩ rfl hP (dd_SN hD) hS rfl rfl (List.Perm.refl _) (List.Perm.refl _) hl.1 (Nat.le_of_ble_eq_true rfl) ⟨Nat.zero_le _, Nat.zero_le _⟩ rfl dX2_look_28 (fun H locs hP hS => ?_)
      refine lv_if_eq (tgt := 53) hx hb dX2_look_31 (by decide) (fun c7 => ?_) (fun c7 => ?_)
      · have hf := if_t c7 hf
        refine lv_iinc (v := (v2 + 1)) (lv' := [(2, .int (v2 + 1)), (0, .ref (qs 8)), (1, .ref (qn 15))]) hx hb dX2_look_53 hl (k := 2) rfl rfl (by decide) rfl (fun ls hl => ?_)
        refine lv_goto (tgt := 20) hx hb dX2_look_56 (by decide) ?_
        exact ih hf hP hS (lv_sub hl [1, 2, 0] rfl) kk
      · have hf := if_f c7 hf
        refine lv_aload_n hx hb dX2_look_34 rfl (lv_at hl 0 rfl) ?_
        refine lv_sipush (v := 2000) hx hb dX2_look_35 (by decide) ?_
        refine lv_iload_n hx hb dX2_look_38 rfl (lv_at hl 2 rfl) ?_
        refine lv_iadd hx hb dX2_look_39 ?_
        obtain ⟨x8, hx8, hf⟩ := bd_some hf
        refine q_Vv C (rc := (RX2, TX2, 8)) (q0 := 0) (ci := 2) (ws' := wS G qs x8 ++ wN G qn sn) (c_X2_tell hx8) gX2_look_X2_tell rfl ⟨rfl, rfl⟩ hdX2_tell ⟨(Nat.le_of_ble_eq_true rfl), (Nat.le_of_ble_eq_true rfl)⟩ rfl hP (dd_SN hD) hS rfl rfl List.perm_append_comm List.perm_append_comm hl.1 (Nat.le_of_ble_eq_true rfl) ⟨Nat.zero_le _, Nat.zero_le _⟩ rfl dX2_look_40 (fun H locs hP hS => ?_)
        refine lv_aload_n hx hb dX2_look_43 rfl (lv_at hl 0 rfl) ?_
        refine lv_aload_n hx hb dX2_look_44 rfl (lv_at hl 1 rfl) ?_
        refine lv_sipush (v := 1000) hx hb dX2_look_45 (by decide) ?_
        refine lv_iload_n hx hb dX2_look_48 rfl (lv_at hl 2 rfl) ?_
        refine lv_iadd hx hb dX2_look_49 ?_
        obtain ⟨x9, hx9, hf⟩ := bd_some hf
        refine q_Vv C (rc := (RX2, TX2, 8)) (q0 := 0) (ci := 2) (ws' := wS G qs x9 ++ wN G qn sn) (wr := []) (c_X2_lookFrom hx9) gX2_look_X2_lookFrom rfl ⟨rfl, rfl⟩ hdX2_lookFrom ⟨(Nat.le_of_ble_eq_true rfl), (Nat.le_of_ble_eq_true rfl)⟩ rfl hP (dd_SN hD) hS rfl rfl (List.Perm.refl _) (List.Perm.refl _) hl.1 (Nat.le_of_ble_eq_true rfl) ⟨Nat.zero_le _, Nat.zero_le _⟩ rfl dX2_look_50 (fun H locs hP hS => ?_)
        refine lv_iinc (v := (v2 + 1)) (lv' := [(2, .int (v2 + 1)), (0, .ref (qs 8)), (1, .ref (qn 15))]) hx hb dX2_look_53 hl (k := 2) rfl rfl (by decide) rfl (fun ls hl => ?_)
        refine lv_goto (tgt := 20) hx hb dX2_look_56 (by decide) ?_
        exact ih hf hP hS (lv_sub hl [1, 2, 0] rfl) kk
set_option maxHeartbeats 4000000 in
set_option maxRecDepth 100000 in
theorem c_X2_look {l : Launch} {G : Gx} {qs : Nat → Nat} {qn : Nat → Nat} {ss : OSt} {sn : NSt}  {x : OSt} (hf : g_look ss sn = some x) : QM l G yX2_look wsX2_look rmX2_look [.ref (qs 8), .ref (qn 15)] (wS G qs ss ++ wN G qn sn) (wS G qs x ++ wN G qn sn) none := by
  refine QM.of (cc := cX2_look) (maxL := 3) (ret := none) (by decide) rfl (Nat.le_of_ble_eq_true rfl) ?_
  intro p e s m below meth c A ls C hD hP hS hl
  have hx := C.1
  have hb := C.2.1
  have hl : lv_has ls 3 [(0, .ref (qs 8)), (1, .ref (qn 15))] := hl
  unfold g_look at hf
  refine lv_aload_n hx hb dX2_look_0 rfl (lv_at hl 0 rfl) ?_
  refine q_get C hP (q0 := 0) rfl rfl hiX2_look_X2 2 (by decide) wdX2_look_1 rfl dX2_look_1 ?_
  refine lv_iconst (v := (-1)) hx hb dX2_look_4 (by decide) ?_
  obtain ⟨x1, hx1, hf⟩ := bd_some hf
  refine q_Sv C (ws' := wS G qs (sA ss 2 x1) ++ wN G qn sn) (c_J7_fill_53178 (da := (qs 2)) (ka := 300) hx1) gX2_look_J7_fill_53178 rfl ⟨rfl, rfl⟩ hdJ7_fill_53178 ⟨(Nat.le_of_ble_eq_true rfl), (Nat.le_of_ble_eq_true rfl)⟩ rfl hP (dd_SN hD) hS (pm_at (p := 3) rfl) (pm_at' (p := 3) rfl rfl) hl.1 (Nat.le_of_ble_eq_true rfl) ⟨Nat.zero_le _, Nat.zero_le _⟩ rfl dX2_look_5 (fun H locs hP hS => ?_)
  refine lv_aload_n hx hb dX2_look_8 rfl (lv_at hl 0 rfl) ?_
  refine lv_iconst (v := 0) hx hb dX2_look_9 (by decide) ?_
  obtain ⟨s2, es2, hf⟩ := nm_ex hf
  refine q_put C hP (dd_SN hD) hS (q0 := 0) rfl rfl hiX2_look_X2 tyX2_ok nmX2 3 (by decide) wdX2_look_2 rfl rfl rfl (Nat.le_of_ble_eq_true rfl) rfl dX2_look_10 (fun H locs hP hS => ?_)
  have hP : va_P G.1 vwCl (wS G qs s2 ++ wN G qn sn) H := by rw [← es2]; exact hP
  refine lv_aload_n hx hb dX2_look_13 rfl (lv_at hl 0 rfl) ?_
  refine lv_iconst (v := 0) hx hb dX2_look_14 (by decide) ?_
  obtain ⟨s3, es3, hf⟩ := nm_ex hf
  refine q_put C hP (dd_SN hD) hS (q0 := 0) rfl rfl hiX2_look_X2 tyX2_ok nmX2 5 (by decide) wdX2_look_3 rfl rfl rfl (Nat.le_of_ble_eq_true rfl) rfl dX2_look_15 (fun H locs hP hS => ?_)
  have hP : va_P G.1 vwCl (wS G qs s3 ++ wN G qn sn) H := by rw [← es3]; exact hP
  refine lv_iconst (v := 0) hx hb dX2_look_18 (by decide) ?_
  refine lv_istore_n (lv' := [(2, .int 0), (0, .ref (qs 8)), (1, .ref (qn 15))]) hx hb dX2_look_19 rfl hl (by decide) rfl (fun ls hl => ?_)
  obtain ⟨x4, hx4, hf⟩ := bd_some hf
  refine t_X2_look_20 C hD hx4 hP hS (lv_sub hl [1, 2, 0] rfl) (fun {H locs ls} hP hS hl => ?_)
  cases hf
  exact q_vret C hP hS rfl dX2_look_59

-- X2_isLike
theorem hiX2_isLike_X2 : ∀ w ∈ u_ws RX2 TX2 8, w ∈ wsX2_isLike := mem_run (i := 3) (by decide +kernel)
theorem wdX2_isLike_1 : (Cond.fieldLink RX2 37 "CombinatorRing$Sight" "toldCount" "I") ∈ wsX2_isLike := List.mem_of_getElem? (i := 1) rfl
theorem wdX2_isLike_2 : (Cond.fieldLink RX2 21 "CombinatorRing$Sight" "told" "[I") ∈ wsX2_isLike := List.mem_of_getElem? (i := 2) rfl
def g_isLike_15 : Nat → OSt → OSt → Int32 → Option (Int32)
  | 0, _, _, _ => none
  | n + 1, ss, ss2, v2 => if (ss.1 5) ≤ v2 then some 1 else gd v2 632 (gd v2 632 (if (ss.2 4 v2.toNatClampNeg) = (ss2.2 4 v2.toNatClampNeg) then g_isLike_15 n ss ss2 (v2 + 1) else some 0))
def g_isLike (ss : OSt) (ss2 : OSt)  : Option (Int32) := if (ss.1 5) = (ss2.1 5) then g_isLike_15 20000 ss ss2 0 else some 0
abbrev rmX2_isLike : Room := { frames := 0, cells := 0, slots := 0, locals := 0 }
theorem hdX2_isLike : yX2_isLike.cls = RX2 ∧ yX2_isLike.cls ≠ "java/lang/invoke/MethodHandle" ∧ yX2_isLike.cls ≠ "java/lang/invoke/VarHandle" ∧ (parseMethodDescriptor yX2_isLike.desc).map (fun d => d.parameters.length) = some 1 := by decide +kernel
set_option maxHeartbeats 4000000 in
set_option maxRecDepth 100000 in
theorem t_X2_isLike_15 {p : Program} {l : Launch} {e : Env} {s : State} {m : MethodId} {args : Array Value} {below : List Frame} {meth : Method} {c : Code} {A : Nat → Prop} {G : Gx} {qs : Nat → Nat} {qs2 : Nat → Nat} {ss0 : OSt} {ss20 : OSt} (C : Cx p s m args meth c G cX2_isLike wsX2_isLike RX2 (some .boolean) 3 A) (hD : va_D A (wS G qs ss0 ++ wS G qs2 ss20)) :
    ∀ {n : Nat} {ss : OSt} {ss2 : OSt} {v2 : Int32} {x : Int32}, g_isLike_15 n ss ss2 v2 = some x → ∀ {H : Heap} {locs : List Loc} {ls : Array Slot}, va_P G.1 vwCl (wS G qs ss ++ wS G qs2 ss2) H → va_S A s.heap H locs → lv_has ls 3 [(0, .ref (qs 8)), (1, .ref (qs2 8)), (2, .int v2)] → W p l e rmX2_isLike s m args below meth c H locs 0 0 (MQ below (qE G A (wS G qs ss ++ wS G qs2 ss2) (some (.int x))) args s 0 0 A) (F0 m 15 ls []) := by
  have hx := C.1
  have hb := C.2.1
  intro n
  induction n with
  | zero => intro ss ss2 v2 x hf; cases hf
  | succ n ih =>
    intro ss ss2 v2 x hf H locs ls hP hS hl
    rw [g_isLike_15] at hf
    refine lv_iload_n hx hb dX2_isLike_15 rfl (lv_at hl 2 rfl) ?_
    refine lv_aload_n hx hb dX2_isLike_16 rfl (lv_at hl 0 rfl) ?_
    refine q_get C hP (q0 := 0) rfl rfl hiX2_isLike_X2 5 (by decide) wdX2_isLike_1 rfl dX2_isLike_17 ?_
    refine lv_icmp_ge (tgt := 46) hx hb dX2_isLike_20 (by decide) (fun c2 => ?_) (fun c2 => ?_)
    · have hf := if_t c2 hf
      refine lv_iconst (v := 1) hx hb dX2_isLike_46 (by decide) ?_
      cases hf
      exact q_zret C hP hS rfl (gb_nar (Or.inr rfl)) dX2_isLike_47
    · have hf := if_f c2 hf
      refine lv_aload_n hx hb dX2_isLike_23 rfl (lv_at hl 0 rfl) ?_
      refine q_get C hP (q0 := 0) rfl rfl hiX2_isLike_X2 4 (by decide) wdX2_isLike_2 rfl dX2_isLike_24 ?_
      refine lv_iload_n hx hb dX2_isLike_27 rfl (lv_at hl 2 rfl) ?_
      obtain ⟨hin, hf⟩ := gd_some hf
      refine q_iald C hP (q0 := 4) rfl rfl hin dX2_isLike_28 ?_
      refine lv_aload_n hx hb dX2_isLike_29 rfl (lv_at hl 1 rfl) ?_
      refine q_get C hP (q0 := 6) rfl rfl hiX2_isLike_X2 4 (by decide) wdX2_isLike_2 rfl dX2_isLike_30 ?_
      refine lv_iload_n hx hb dX2_isLike_33 rfl (lv_at hl 2 rfl) ?_
      obtain ⟨hin, hf⟩ := gd_some hf
      refine q_iald C hP (q0 := 10) rfl rfl hin dX2_isLike_34 ?_
      refine lv_icmp_eq (tgt := 40) hx hb dX2_isLike_35 (by decide) (fun c3 => ?_) (fun c3 => ?_)
      · have hf := if_t c3 hf
        refine lv_iinc (v := (v2 + 1)) (lv' := [(2, .int (v2 + 1)), (0, .ref (qs 8)), (1, .ref (qs2 8))]) hx hb dX2_isLike_40 hl (k := 2) rfl rfl (by decide) rfl (fun ls hl => ?_)
        refine lv_goto (tgt := 15) hx hb dX2_isLike_43 (by decide) ?_
        exact ih hf hP hS (lv_sub hl [1, 2, 0] rfl)
      · have hf := if_f c3 hf
        refine lv_iconst (v := 0) hx hb dX2_isLike_38 (by decide) ?_
        cases hf
        exact q_zret C hP hS rfl (gb_nar (Or.inl rfl)) dX2_isLike_39
set_option maxHeartbeats 4000000 in
set_option maxRecDepth 100000 in
theorem c_X2_isLike {l : Launch} {G : Gx} {qs : Nat → Nat} {qs2 : Nat → Nat} {ss : OSt} {ss2 : OSt}  {x : Int32} (hf : g_isLike ss ss2 = some x) : QM l G yX2_isLike wsX2_isLike rmX2_isLike [.ref (qs 8), .ref (qs2 8)] (wS G qs ss ++ wS G qs2 ss2) (wS G qs ss ++ wS G qs2 ss2) (some (.int x)) := by
  refine QM.of (cc := cX2_isLike) (maxL := 3) (ret := (some .boolean)) (by decide) rfl (Nat.le_of_ble_eq_true rfl) ?_
  intro p e s m below meth c A ls C hD hP hS hl
  have hx := C.1
  have hb := C.2.1
  have hl : lv_has ls 3 [(0, .ref (qs 8)), (1, .ref (qs2 8))] := hl
  unfold g_isLike at hf
  refine lv_aload_n hx hb dX2_isLike_0 rfl (lv_at hl 0 rfl) ?_
  refine q_get C hP (q0 := 0) rfl rfl hiX2_isLike_X2 5 (by decide) wdX2_isLike_1 rfl dX2_isLike_1 ?_
  refine lv_aload_n hx hb dX2_isLike_4 rfl (lv_at hl 1 rfl) ?_
  refine q_get C hP (q0 := 6) rfl rfl hiX2_isLike_X2 5 (by decide) wdX2_isLike_1 rfl dX2_isLike_5 ?_
  refine lv_icmp_eq (tgt := 13) hx hb dX2_isLike_8 (by decide) (fun c1 => ?_) (fun c1 => ?_)
  · have hf := if_t c1 hf
    refine lv_iconst (v := 0) hx hb dX2_isLike_13 (by decide) ?_
    refine lv_istore_n (lv' := [(2, .int 0), (0, .ref (qs 8)), (1, .ref (qs2 8))]) hx hb dX2_isLike_14 rfl hl (by decide) rfl (fun ls hl => ?_)
    exact t_X2_isLike_15 C hD hf hP hS (lv_sub hl [1, 2, 0] rfl)
  · have hf := if_f c1 hf
    refine lv_iconst (v := 0) hx hb dX2_isLike_11 (by decide) ?_
    cases hf
    exact q_zret C hP hS rfl (gb_nar (Or.inl rfl)) dX2_isLike_12
