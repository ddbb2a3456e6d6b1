-- X5_thrown
theorem hiX5_thrown_X5 : ∀ w ∈ u_ws RX5 TX5 42, w ∈ wsX5_thrown := mem_run (i := 2) (by decide +kernel)
theorem wdX5_thrown_1 : (Cond.fieldLink RX5 1 "CombinatorRingModel" "thrown" "I") ∈ wsX5_thrown := List.mem_of_getElem? (i := 1) rfl
def m_thrown (st : OSt)  : Option (Int32) := some (st.1 0)
abbrev rmX5_thrown : Room := { frames := 0, cells := 0, slots := 0, locals := 0 }
theorem hdX5_thrown : yX5_thrown.cls = RX5 ∧ yX5_thrown.cls ≠ "java/lang/invoke/MethodHandle" ∧ yX5_thrown.cls ≠ "java/lang/invoke/VarHandle" ∧ (parseMethodDescriptor yX5_thrown.desc).map (fun d => d.parameters.length) = some 0 := by decide +kernel
set_option maxHeartbeats 4000000 in
set_option maxRecDepth 100000 in
theorem c_X5_thrown {l : Launch} {G : Gx} {q : Nat → Nat} {st : OSt}  {x : Int32} (hf : m_thrown st = some x) : QM l G yX5_thrown wsX5_thrown rmX5_thrown [.ref (q 42)] (wM G q st) (wM G q st) (some (.int x)) := by
  refine QM.of (cc := cX5_thrown) (maxL := 1) (ret := (some .int)) (by decide) rfl (Nat.le_of_ble_eq_true rfl) ?_
  intro p e s m below meth c A ls C hD hP hS hl
  have hx := C.1
  have hb := C.2.1
  have hl : lv_has ls 1 [(0, .ref (q 42))] := hl
  unfold m_thrown at hf
  refine lv_aload_n hx hb dX5_thrown_0 rfl (lv_at hl 0 rfl) ?_
  refine q_get C hP wM_o rfl hiX5_thrown_X5 0 (by decide) wdX5_thrown_1 rfl dX5_thrown_1 ?_
  cases hf
  exact q_iret C hP hS rfl dX5_thrown_4

-- X5_within
def m_within  (a1 : Int32) (a2 : Int32) (a3 : Int32) : Option (Int32) := if a1 < a2 then some 0 else if a3 < a1 then some 0 else some 1
abbrev rmX5_within : Room := { frames := 0, cells := 0, slots := 0, locals := 0 }
theorem hdX5_within : yX5_within.cls ≠ "java/lang/invoke/MethodHandle" ∧ yX5_within.cls ≠ "java/lang/invoke/VarHandle" ∧ (parseMethodDescriptor yX5_within.desc).map (fun d => d.parameters.length) = some 3 := by decide +kernel
set_option maxHeartbeats 4000000 in
set_option maxRecDepth 100000 in
theorem c_X5_within {l : Launch} {G : Gx} {w : va_W}  {a1 : Int32} {a2 : Int32} {a3 : Int32} {x : Int32} (hf : m_within a1 a2 a3 = some x) : QM l G yX5_within wsX5_within rmX5_within [.int a1, .int a2, .int a3] (w) (w) (some (.int x)) := by
  refine QM.of (cc := cX5_within) (maxL := 3) (ret := (some .boolean)) (by decide) rfl (Nat.le_of_ble_eq_true rfl) ?_
  intro p e s m below meth c A ls C hD hP hS hl
  have hx := C.1
  have hb := C.2.1
  have hl : lv_has ls 3 [(0, .int a1), (1, .int a2), (2, .int a3)] := hl
  unfold m_within at hf
  refine lv_iload_n hx hb dX5_within_0 rfl (lv_at hl 0 rfl) ?_
  refine lv_iload_n hx hb dX5_within_1 rfl (lv_at hl 1 rfl) ?_
  refine lv_icmp_lt (tgt := 14) hx hb dX5_within_2 (by decide) (fun c1 => ?_) (fun c1 => ?_)
  · have hf := if_t c1 hf
    refine lv_iconst (v := 0) hx hb dX5_within_14 (by decide) ?_
    cases hf
    exact q_zret C hP hS rfl (gb_nar (Or.inl rfl)) dX5_within_15
  · have hf := if_f c1 hf
    refine lv_iload_n hx hb dX5_within_5 rfl (lv_at hl 0 rfl) ?_
    refine lv_iload_n hx hb dX5_within_6 rfl (lv_at hl 2 rfl) ?_
    refine lv_icmp_gt (tgt := 14) hx hb dX5_within_7 (by decide) (fun c2 => ?_) (fun c2 => ?_)
    · have hf := if_t c2 hf
      refine lv_iconst (v := 0) hx hb dX5_within_14 (by decide) ?_
      cases hf
      exact q_zret C hP hS rfl (gb_nar (Or.inl rfl)) dX5_within_15
    · have hf := if_f c2 hf
      refine lv_iconst (v := 1) hx hb dX5_within_10 (by decide) ?_
      refine lv_goto (tgt := 15) hx hb dX5_within_11 (by decide) ?_
      cases hf
      exact q_zret C hP hS rfl (gb_nar (Or.inr rfl)) dX5_within_15

-- X5_copies
def m_copies_3 : Nat → Nat → (Nat → Int32) → Nat → (Nat → Int32) → Int32 → Int32 → Int32 → Option ((Nat → Int32))
  | 0, _, _, _, _, _, _, _ => none
  | n + 1, ka, sa, ka2, sa2, v1, v3, v4 => if 1646 ≤ v4 then some sa2 else gd (v1 + v4) ka (gd (v3 + v4) ka2 (nm (upd sa2 (v3 + v4).toNatClampNeg (sa (v1 + v4).toNatClampNeg)) fun s3 => m_copies_3 n ka sa ka2 s3 v1 v3 (v4 + 1)))
def m_copies (ka : Nat) (sa : (Nat → Int32)) (ka2 : Nat) (sa2 : (Nat → Int32)) (a2 : Int32) (a4 : Int32) : Option ((Nat → Int32)) := bd (m_copies_3 20000 ka sa ka2 sa2 a2 a4 0) fun x1 => some x1
abbrev rmX5_copies : Room := { frames := 0, cells := 0, slots := 0, locals := 0 }
theorem hdX5_copies : yX5_copies.cls ≠ "java/lang/invoke/MethodHandle" ∧ yX5_copies.cls ≠ "java/lang/invoke/VarHandle" ∧ (parseMethodDescriptor yX5_copies.desc).map (fun d => d.parameters.length) = some 4 := by decide +kernel
set_option maxHeartbeats 4000000 in
set_option maxRecDepth 100000 in
theorem t_X5_copies_3 {p : Program} {l : Launch} {e : Env} {s : State} {m : MethodId} {args : Array Value} {below : List Frame} {meth : Method} {c : Code} {Q : State → Prop} {A : Nat → Prop} {G : Gx} {da ka : Nat} {da2 ka2 : Nat} {sa0 : (Nat → Int32)} {sa20 : (Nat → Int32)} (C : Cx p s m args meth c G cX5_copies wsX5_copies RX5 none 5 A) (hD : va_D A (wA G da ka sa0 ++ wA G da2 ka2 sa20)) :
    ∀ {n : Nat} {sa : (Nat → Int32)} {sa2 : (Nat → Int32)} {v1 : Int32} {v3 : Int32} {v4 : Int32} {x : (Nat → Int32)}, m_copies_3 n ka sa ka2 sa2 v1 v3 v4 = some x → ∀ {H : Heap} {locs : List Loc} {ls : Array Slot}, va_P G.1 vwCl (wA G da ka sa ++ wA G da2 ka2 sa2) H → va_S A s.heap H locs → lv_has ls 5 [(0, .ref da), (1, .int v1), (2, .ref da2), (3, .int v3), (4, .int v4)] → (∀ {H : Heap} {locs : List Loc} {ls : Array Slot}, va_P G.1 vwCl (wA G da ka sa ++ wA G da2 ka2 x) H → va_S A s.heap H locs → lv_has ls 5 [] → W p l e rmX5_copies s m args below meth c H locs 0 0 Q (F0 m 29 ls [])) → W p l e rmX5_copies s m args below meth c H locs 0 0 Q (F0 m 3 ls []) := by
  have hx := C.1
  have hb := C.2.1
  intro n
  induction n with
  | zero => intro sa sa2 v1 v3 v4 x hf; cases hf
  | succ n ih =>
    intro sa sa2 v1 v3 v4 x hf H locs ls hP hS hl kk
    rw [m_copies_3] at hf
    refine lv_iload hx hb dX5_copies_3 (lv_at hl 4 rfl) ?_
    refine lv_sipush (v := 1646) hx hb dX5_copies_5 (by decide) ?_
    refine lv_icmp_ge (tgt := 29) hx hb dX5_copies_8 (by decide) (fun c2 => ?_) (fun c2 => ?_)
    · have hf := if_t c2 hf
      cases hf
      exact kk hP hS (lv_sub hl [] rfl)
    · have hf := if_f c2 hf
      refine lv_aload_n hx hb dX5_copies_11 rfl (lv_at hl 2 rfl) ?_
      refine lv_iload_n hx hb dX5_copies_12 rfl (lv_at hl 3 rfl) ?_
      refine lv_iload hx hb dX5_copies_13 (lv_at hl 4 rfl) ?_
      refine lv_iadd hx hb dX5_copies_15 ?_
      refine lv_aload_n hx hb dX5_copies_16 rfl (lv_at hl 0 rfl) ?_
      refine lv_iload_n hx hb dX5_copies_17 rfl (lv_at hl 1 rfl) ?_
      refine lv_iload hx hb dX5_copies_18 (lv_at hl 4 rfl) ?_
      refine lv_iadd hx hb dX5_copies_20 ?_
      obtain ⟨hin, hf⟩ := gd_some hf
      refine q_iald C hP (q0 := 0) rfl rfl hin dX5_copies_21 ?_
      obtain ⟨hin, hf⟩ := gd_some hf
      obtain ⟨s3, es3, hf⟩ := nm_ex hf
      refine q_iast C hP (dd_AA hD) hS (q0 := 1) rfl rfl rfl hin dX5_copies_22 (fun H locs hP hS => ?_)
      have hP : va_P G.1 vwCl (wA G da ka sa ++ wA G da2 ka2 s3) H := by rw [← es3]; exact hP
      refine lv_iinc (v := (v4 + 1)) (lv' := [(4, .int (v4 + 1)), (0, .ref da), (1, .int v1), (2, .ref da2), (3, .int v3)]) hx hb dX5_copies_23 hl (k := 4) rfl rfl (by decide) rfl (fun ls hl => ?_)
      refine lv_goto (tgt := 3) hx hb dX5_copies_26 (by decide) ?_
      exact ih hf hP hS (lv_sub hl [1, 2, 3, 4, 0] rfl) kk
set_option maxHeartbeats 4000000 in
set_option maxRecDepth 100000 in
theorem c_X5_copies {l : Launch} {G : Gx} {da ka : Nat} {da2 ka2 : Nat} {sa : (Nat → Int32)} {sa2 : (Nat → Int32)} {a2 : Int32} {a4 : Int32} {x : (Nat → Int32)} (hf : m_copies ka sa ka2 sa2 a2 a4 = some x) : QM l G yX5_copies wsX5_copies rmX5_copies [.ref da, .int a2, .ref da2, .int a4] (wA G da ka sa ++ wA G da2 ka2 sa2) (wA G da ka sa ++ wA G da2 ka2 x) none := by
  refine QM.of (cc := cX5_copies) (maxL := 5) (ret := none) (by decide) rfl (Nat.le_of_ble_eq_true rfl) ?_
  intro p e s m below meth c A ls C hD hP hS hl
  have hx := C.1
  have hb := C.2.1
  have hl : lv_has ls 5 [(0, .ref da), (1, .int a2), (2, .ref da2), (3, .int a4)] := hl
  unfold m_copies at hf
  refine lv_iconst (v := 0) hx hb dX5_copies_0 (by decide) ?_
  refine lv_istore (lv' := [(4, .int 0), (0, .ref da), (1, .int a2), (2, .ref da2), (3, .int a4)]) hx hb dX5_copies_1 hl (by decide) rfl (fun ls hl => ?_)
  obtain ⟨x1, hx1, hf⟩ := bd_some hf
  refine t_X5_copies_3 C hD hx1 hP hS (lv_sub hl [1, 2, 3, 4, 0] rfl) (fun {H locs ls} hP hS hl => ?_)
  cases hf
  exact q_vret C hP hS rfl dX5_copies_29

-- X5_empties
theorem hiX5_empties_X5 : ∀ w ∈ u_ws RX5 TX5 42, w ∈ wsX5_empties := mem_run (i := 2) (by decide +kernel)
theorem wdX5_empties_1 : (Cond.fieldLink RX5 7 "CombinatorRingModel" "now" "[I") ∈ wsX5_empties := List.mem_of_getElem? (i := 1) rfl
def m_empties_2 : Nat → OSt → Int32 → Int32 → Option (OSt)
  | 0, _, _, _ => none
  | n + 1, st, v1, v2 => if 1646 ≤ v2 then some st else gd v2 1646 (nm (sA st 1 (upd (st.2 1) v2.toNatClampNeg 0)) fun s4 => m_empties_2 n s4 v1 (v2 + 1))
def m_empties (st : OSt) (a1 : Int32) : Option (OSt) := bd (m_empties_2 20000 st a1 0) fun x1 => nm (sA x1 1 (upd (x1.2 1) 0 a1)) fun s2 => some s2
abbrev rmX5_empties : Room := { frames := 0, cells := 0, slots := 0, locals := 0 }
theorem hdX5_empties : yX5_empties.cls = RX5 ∧ yX5_empties.cls ≠ "java/lang/invoke/MethodHandle" ∧ yX5_empties.cls ≠ "java/lang/invoke/VarHandle" ∧ (parseMethodDescriptor yX5_empties.desc).map (fun d => d.parameters.length) = some 1 := by decide +kernel
set_option maxHeartbeats 4000000 in
set_option maxRecDepth 100000 in
theorem t_X5_empties_2 {p : Program} {l : Launch} {e : Env} {s : State} {m : MethodId} {args : Array Value} {below : List Frame} {meth : Method} {c : Code} {Q : State → Prop} {A : Nat → Prop} {G : Gx} {q : Nat → Nat} {st0 : OSt} (C : Cx p s m args meth c G cX5_empties wsX5_empties RX5 none 3 A) (hD : va_D A (wM G q st0)) :
    ∀ {n : Nat} {st : OSt} {v1 : Int32} {v2 : Int32} {x : OSt}, m_empties_2 n st v1 v2 = some x → ∀ {H : Heap} {locs : List Loc} {ls : Array Slot}, va_P G.1 vwCl (wM G q st) H → va_S A s.heap H locs → lv_has ls 3 [(0, .ref (q 42)), (1, .int v1), (2, .int v2)] → (∀ {H : Heap} {locs : List Loc} {ls : Array Slot}, va_P G.1 vwCl (wM G q x) H → va_S A s.heap H locs → lv_has ls 3 [(0, .ref (q 42)), (1, .int v1)] → W p l e rmX5_empties s m args below meth c H locs 0 0 Q (F0 m 22 ls [])) → W p l e rmX5_empties s m args below meth c H locs 0 0 Q (F0 m 2 ls []) := by
  have hx := C.1
  have hb := C.2.1
  intro n
  induction n with
  | zero => intro st v1 v2 x hf; cases hf
  | succ n ih =>
    intro st v1 v2 x hf H locs ls hP hS hl kk
    rw [m_empties_2] at hf
    refine lv_iload_n hx hb dX5_empties_2 rfl (lv_at hl 2 rfl) ?_
    refine lv_sipush (v := 1646) hx hb dX5_empties_3 (by decide) ?_
    refine lv_icmp_ge (tgt := 22) hx hb dX5_empties_6 (by decide) (fun c3 => ?_) (fun c3 => ?_)
    · have hf := if_t c3 hf
      cases hf
      exact kk hP hS (lv_sub hl [0, 1] rfl)
    · have hf := if_f c3 hf
      refine lv_aload_n hx hb dX5_empties_9 rfl (lv_at hl 0 rfl) ?_
      refine q_get C hP wM_o rfl hiX5_empties_X5 1 (by decide) wdX5_empties_1 rfl dX5_empties_10 ?_
      refine lv_iload_n hx hb dX5_empties_13 rfl (lv_at hl 2 rfl) ?_
      refine lv_iconst (v := 0) hx hb dX5_empties_14 (by decide) ?_
      obtain ⟨hin, hf⟩ := gd_some hf
      obtain ⟨s4, es4, hf⟩ := nm_ex hf
      refine q_iast C hP (dd_M hD) hS wM_a_1 rfl wM_sA_1 hin dX5_empties_15 (fun H locs hP hS => ?_)
      rw [es4] at hP
      refine lv_iinc (v := (v2 + 1)) (lv' := [(2, .int (v2 + 1)), (0, .ref (q 42)), (1, .int v1)]) hx hb dX5_empties_16 hl (k := 2) rfl rfl (by decide) rfl (fun ls hl => ?_)
      refine lv_goto (tgt := 2) hx hb dX5_empties_19 (by decide) ?_
      exact ih hf hP hS (lv_sub hl [1, 2, 0] rfl) kk
set_option maxHeartbeats 4000000 in
set_option maxRecDepth 100000 in
theorem c_X5_empties {l : Launch} {G : Gx} {q : Nat → Nat} {st : OSt} {a1 : Int32} {x : OSt} (hf : m_empties st a1 = some x) : QM l G yX5_empties wsX5_empties rmX5_empties [.ref (q 42), .int a1] (wM G q st) (wM G q x) none := by
  refine QM.of (cc := cX5_empties) (maxL := 3) (ret := none) (by decide) rfl (Nat.le_of_ble_eq_true rfl) ?_
  intro p e s m below meth c A ls C hD hP hS hl
  have hx := C.1
  have hb := C.2.1
  have hl : lv_has ls 3 [(0, .ref (q 42)), (1, .int a1)] := hl
  unfold m_empties at hf
  refine lv_iconst (v := 0) hx hb dX5_empties_0 (by decide) ?_
  refine lv_istore_n (lv' := [(2, .int 0), (0, .ref (q 42)), (1, .int a1)]) hx hb dX5_empties_1 rfl hl (by decide) rfl (fun ls hl => ?_)
  obtain ⟨x1, hx1, hf⟩ := bd_some hf
  refine t_X5_empties_2 C hD hx1 hP hS (lv_sub hl [1, 2, 0] rfl) (fun {H locs ls} hP hS hl => ?_)
  refine lv_aload_n hx hb dX5_empties_22 rfl (lv_at hl 0 rfl) ?_
  refine q_get C hP wM_o rfl hiX5_empties_X5 1 (by decide) wdX5_empties_1 rfl dX5_empties_23 ?_
  refine lv_iconst (v := 0) hx hb dX5_empties_26 (by decide) ?_
  refine lv_iload_n hx hb dX5_empties_27 rfl (lv_at hl 1 rfl) ?_
  obtain ⟨s2, es2, hf⟩ := nm_ex hf
  refine q_iast C hP (dd_M hD) hS wM_a_1 (j := 0) (by decide) wM_sA_1 (vp_k (j := 0) (by decide) (by decide) (by decide)) dX5_empties_28 (fun H locs hP hS => ?_)
  rw [es2] at hP
  cases hf
  exact q_vret C hP hS rfl dX5_empties_29

-- X5_isNode
theorem hiX5_isNode_X5 : ∀ w ∈ u_ws RX5 TX5 42, w ∈ wsX5_isNode := mem_run (i := 6) (by decide +kernel)
theorem wdX5_isNode_1 : (Cond.fieldLink RX5 7 "CombinatorRingModel" "now" "[I") ∈ wsX5_isNode := List.mem_of_getElem? (i := 1) rfl
def m_isNode (st : OSt) (a1 : Int32) : Option (Int32) := bd (m_within a1 0 299) fun x1 => if x1 = 0 then some 0 else gd (30 + a1) 1646 (if (st.2 1 (30 + a1).toNatClampNeg) ≤ 0 then some 0 else some 1)
abbrev rmX5_isNode : Room := { frames := 1, cells := 0, slots := 0, locals := 22 }
theorem hdX5_isNode : yX5_isNode.cls = RX5 ∧ yX5_isNode.cls ≠ "java/lang/invoke/MethodHandle" ∧ yX5_isNode.cls ≠ "java/lang/invoke/VarHandle" ∧ (parseMethodDescriptor yX5_isNode.desc).map (fun d => d.parameters.length) = some 1 := by decide +kernel
set_option maxHeartbeats 4000000 in
set_option maxRecDepth 100000 in
theorem c_X5_isNode {l : Launch} {G : Gx} {q : Nat → Nat} {st : OSt} {a1 : Int32} {x : Int32} (hf : m_isNode st a1 = some x) : QM l G yX5_isNode wsX5_isNode rmX5_isNode [.ref (q 42), .int a1] (wM G q st) (wM G q st) (some (.int x)) := by
  refine QM.of (cc := cX5_isNode) (maxL := 2) (ret := (some .boolean)) (by decide) rfl (Nat.le_of_ble_eq_true rfl) ?_
  intro p e s m below meth c A ls C hD hP hS hl
  have hx := C.1
  have hb := C.2.1
  have hl : lv_has ls 2 [(0, .ref (q 42)), (1, .int a1)] := hl
  unfold m_isNode at hf
  refine lv_iload_n hx hb dX5_isNode_0 rfl (lv_at hl 1 rfl) ?_
  refine lv_iconst (v := 0) hx hb dX5_isNode_1 (by decide) ?_
  refine lv_sipush (v := 299) hx hb dX5_isNode_2 (by decide) ?_
  obtain ⟨x1, hx1, hf⟩ := bd_some hf
  refine q_Si C (ws' := wM G q st) (wr := []) (c_X5_within (w := wM G q st) hx1) gX5_isNode_X5_within rfl ⟨rfl, rfl⟩ hdX5_within ⟨(Nat.le_of_ble_eq_true rfl), (Nat.le_of_ble_eq_true rfl)⟩ rfl hP (dd_M hD) hS (List.Perm.refl _) (List.Perm.refl _) hl.1 (Nat.le_of_ble_eq_true rfl) ⟨Nat.zero_le _, Nat.zero_le _⟩ rfl dX5_isNode_5 (fun H locs hP hS => ?_)
  refine lv_if_eq (tgt := 27) hx hb dX5_isNode_8 (by decide) (fun c2 => ?_) (fun c2 => ?_)
  · have hf := if_t c2 hf
    refine lv_iconst (v := 0) hx hb dX5_isNode_27 (by decide) ?_
    cases hf
    exact q_zret C hP hS rfl (gb_nar (Or.inl rfl)) dX5_isNode_28
  · have hf := if_f c2 hf
    refine lv_aload_n hx hb dX5_isNode_11 rfl (lv_at hl 0 rfl) ?_
    refine q_get C hP wM_o rfl hiX5_isNode_X5 1 (by decide) wdX5_isNode_1 rfl dX5_isNode_12 ?_
    refine lv_bipush (v := 30) hx hb dX5_isNode_15 (by decide) ?_
    refine lv_iload_n hx hb dX5_isNode_17 rfl (lv_at hl 1 rfl) ?_
    refine lv_iadd hx hb dX5_isNode_18 ?_
    obtain ⟨hin, hf⟩ := gd_some hf
    refine q_iald C hP wM_a_1 rfl hin dX5_isNode_19 ?_
    refine lv_if_le (tgt := 27) hx hb dX5_isNode_20 (by decide) (fun c3 => ?_) (fun c3 => ?_)
    · have hf := if_t c3 hf
      refine lv_iconst (v := 0) hx hb dX5_isNode_27 (by decide) ?_
      cases hf
      exact q_zret C hP hS rfl (gb_nar (Or.inl rfl)) dX5_isNode_28
    · have hf := if_f c3 hf
      refine lv_iconst (v := 1) hx hb dX5_isNode_23 (by decide) ?_
      refine lv_goto (tgt := 28) hx hb dX5_isNode_24 (by decide) ?_
      cases hf
      exact q_zret C hP hS rfl (gb_nar (Or.inr rfl)) dX5_isNode_28

-- X5_kindOf
theorem hiX5_kindOf_X5 : ∀ w ∈ u_ws RX5 TX5 42, w ∈ wsX5_kindOf := mem_run (i := 2) (by decide +kernel)
theorem wdX5_kindOf_1 : (Cond.fieldLink RX5 7 "CombinatorRingModel" "now" "[I") ∈ wsX5_kindOf := List.mem_of_getElem? (i := 1) rfl
def m_kindOf (st : OSt) (a1 : Int32) : Option (Int32) := gd (30 + a1) 1646 (some ((st.2 1 (30 + a1).toNatClampNeg) - 1))
abbrev rmX5_kindOf : Room := { frames := 0, cells := 0, slots := 0, locals := 0 }
theorem hdX5_kindOf : yX5_kindOf.cls = RX5 ∧ yX5_kindOf.cls ≠ "java/lang/invoke/MethodHandle" ∧ yX5_kindOf.cls ≠ "java/lang/invoke/VarHandle" ∧ (parseMethodDescriptor yX5_kindOf.desc).map (fun d => d.parameters.length) = some 1 := by decide +kernel
set_option maxHeartbeats 4000000 in
set_option maxRecDepth 100000 in
theorem c_X5_kindOf {l : Launch} {G : Gx} {q : Nat → Nat} {st : OSt} {a1 : Int32} {x : Int32} (hf : m_kindOf st a1 = some x) : QM l G yX5_kindOf wsX5_kindOf rmX5_kindOf [.ref (q 42), .int a1] (wM G q st) (wM G q st) (some (.int x)) := by
  refine QM.of (cc := cX5_kindOf) (maxL := 2) (ret := (some .int)) (by decide) rfl (Nat.le_of_ble_eq_true rfl) ?_
  intro p e s m below meth c A ls C hD hP hS hl
  have hx := C.1
  have hb := C.2.1
  have hl : lv_has ls 2 [(0, .ref (q 42)), (1, .int a1)] := hl
  unfold m_kindOf at hf
  refine lv_aload_n hx hb dX5_kindOf_0 rfl (lv_at hl 0 rfl) ?_
  refine q_get C hP wM_o rfl hiX5_kindOf_X5 1 (by decide) wdX5_kindOf_1 rfl dX5_kindOf_1 ?_
  refine lv_bipush (v := 30) hx hb dX5_kindOf_4 (by decide) ?_
  refine lv_iload_n hx hb dX5_kindOf_6 rfl (lv_at hl 1 rfl) ?_
  refine lv_iadd hx hb dX5_kindOf_7 ?_
  obtain ⟨hin, hf⟩ := gd_some hf
  refine q_iald C hP wM_a_1 rfl hin dX5_kindOf_8 ?_
  refine lv_iconst (v := 1) hx hb dX5_kindOf_9 (by decide) ?_
  refine lv_isub hx hb dX5_kindOf_10 ?_
  cases hf
  exact q_iret C hP hS rfl dX5_kindOf_11

-- X5_linkOf
theorem hiX5_linkOf_X5 : ∀ w ∈ u_ws RX5 TX5 42, w ∈ wsX5_linkOf := mem_run (i := 2) (by decide +kernel)
theorem wdX5_linkOf_1 : (Cond.fieldLink RX5 7 "CombinatorRingModel" "now" "[I") ∈ wsX5_linkOf := List.mem_of_getElem? (i := 1) rfl
def m_linkOf (st : OSt) (a1 : Int32) : Option (Int32) := gd (630 + a1) 1646 (some (st.2 1 (630 + a1).toNatClampNeg))
abbrev rmX5_linkOf : Room := { frames := 0, cells := 0, slots := 0, locals := 0 }
theorem hdX5_linkOf : yX5_linkOf.cls = RX5 ∧ yX5_linkOf.cls ≠ "java/lang/invoke/MethodHandle" ∧ yX5_linkOf.cls ≠ "java/lang/invoke/VarHandle" ∧ (parseMethodDescriptor yX5_linkOf.desc).map (fun d => d.parameters.length) = some 1 := by decide +kernel
set_option maxHeartbeats 4000000 in
set_option maxRecDepth 100000 in
theorem c_X5_linkOf {l : Launch} {G : Gx} {q : Nat → Nat} {st : OSt} {a1 : Int32} {x : Int32} (hf : m_linkOf st a1 = some x) : QM l G yX5_linkOf wsX5_linkOf rmX5_linkOf [.ref (q 42), .int a1] (wM G q st) (wM G q st) (some (.int x)) := by
  refine QM.of (cc := cX5_linkOf) (maxL := 2) (ret := (some .int)) (by decide) rfl (Nat.le_of_ble_eq_true rfl) ?_
  intro p e s m below meth c A ls C hD hP hS hl
  have hx := C.1
  have hb := C.2.1
  have hl : lv_has ls 2 [(0, .ref (q 42)), (1, .int a1)] := hl
  unfold m_linkOf at hf
  refine lv_aload_n hx hb dX5_linkOf_0 rfl (lv_at hl 0 rfl) ?_
  refine q_get C hP wM_o rfl hiX5_linkOf_X5 1 (by decide) wdX5_linkOf_1 rfl dX5_linkOf_1 ?_
  refine lv_sipush (v := 630) hx hb dX5_linkOf_4 (by decide) ?_
  refine lv_iload_n hx hb dX5_linkOf_7 rfl (lv_at hl 1 rfl) ?_
  refine lv_iadd hx hb dX5_linkOf_8 ?_
  obtain ⟨hin, hf⟩ := gd_some hf
  refine q_iald C hP wM_a_1 rfl hin dX5_linkOf_9 ?_
  cases hf
  exact q_iret C hP hS rfl dX5_linkOf_10

-- X5_links
theorem hiX5_links_X5 : ∀ w ∈ u_ws RX5 TX5 42, w ∈ wsX5_links := mem_run (i := 2) (by decide +kernel)
theorem wdX5_links_1 : (Cond.fieldLink RX5 7 "CombinatorRingModel" "now" "[I") ∈ wsX5_links := List.mem_of_getElem? (i := 1) rfl
def m_links (st : OSt) (a1 : Int32) (a2 : Int32) : Option (OSt) := gd (630 + a1) 1646 (nm (sA st 1 (upd (st.2 1) (630 + a1).toNatClampNeg a2)) fun s1 => gd (630 + a2) 1646 (nm (sA s1 1 (upd (s1.2 1) (630 + a2).toNatClampNeg a1)) fun s2 => some s2))
abbrev rmX5_links : Room := { frames := 0, cells := 0, slots := 0, locals := 0 }
theorem hdX5_links : yX5_links.cls = RX5 ∧ yX5_links.cls ≠ "java/lang/invoke/MethodHandle" ∧ yX5_links.cls ≠ "java/lang/invoke/VarHandle" ∧ (parseMethodDescriptor yX5_links.desc).map (fun d => d.parameters.length) = some 2 := by decide +kernel
set_option maxHeartbeats 4000000 in
set_option maxRecDepth 100000 in
theorem c_X5_links {l : Launch} {G : Gx} {q : Nat → Nat} {st : OSt} {a1 : Int32} {a2 : Int32} {x : OSt} (hf : m_links st a1 a2 = some x) : QM l G yX5_links wsX5_links rmX5_links [.ref (q 42), .int a1, .int a2] (wM G q st) (wM G q x) none := by
  refine QM.of (cc := cX5_links) (maxL := 3) (ret := none) (by decide) rfl (Nat.le_of_ble_eq_true rfl) ?_
  intro p e s m below meth c A ls C hD hP hS hl
  have hx := C.1
  have hb := C.2.1
  have hl : lv_has ls 3 [(0, .ref (q 42)), (1, .int a1), (2, .int a2)] := hl
  unfold m_links at hf
  refine lv_aload_n hx hb dX5_links_0 rfl (lv_at hl 0 rfl) ?_
  refine q_get C hP wM_o rfl hiX5_links_X5 1 (by decide) wdX5_links_1 rfl dX5_links_1 ?_
  refine lv_sipush (v := 630) hx hb dX5_links_4 (by decide) ?_
  refine lv_iload_n hx hb dX5_links_7 rfl (lv_at hl 1 rfl) ?_
  refine lv_iadd hx hb dX5_links_8 ?_
  refine lv_iload_n hx hb dX5_links_9 rfl (lv_at hl 2 rfl) ?_
  obtain ⟨hin, hf⟩ := gd_some hf
  obtain ⟨s1, es1, hf⟩ := nm_ex hf
  refine q_iast C hP (dd_M hD) hS wM_a_1 rfl wM_sA_1 hin dX5_links_10 (fun H locs hP hS => ?_)
  rw [es1] at hP
  refine lv_aload_n hx hb dX5_links_11 rfl (lv_at hl 0 rfl) ?_
  refine q_get C hP wM_o rfl hiX5_links_X5 1 (by decide) wdX5_links_1 rfl dX5_links_12 ?_
  refine lv_sipush (v := 630) hx hb dX5_links_15 (by decide) ?_
  refine lv_iload_n hx hb dX5_links_18 rfl (lv_at hl 2 rfl) ?_
  refine lv_iadd hx hb dX5_links_19 ?_
  refine lv_iload_n hx hb dX5_links_20 rfl (lv_at hl 1 rfl) ?_
  obtain ⟨hin, hf⟩ := gd_some hf
  obtain ⟨s2, es2, hf⟩ := nm_ex hf
  refine q_iast C hP (dd_M hD) hS wM_a_1 rfl wM_sA_1 hin dX5_links_21 (fun H locs hP hS => ?_)
  rw [es2] at hP
  cases hf
  exact q_vret C hP hS rfl dX5_links_22

-- X5_makes
theorem hiX5_makes_X5 : ∀ w ∈ u_ws RX5 TX5 42, w ∈ wsX5_makes := mem_run (i := 2) (by decide +kernel)
theorem wdX5_makes_1 : (Cond.fieldLink RX5 7 "CombinatorRingModel" "now" "[I") ∈ wsX5_makes := List.mem_of_getElem? (i := 1) rfl
def m_makes_55 (st : OSt) (v1 : Int32) (v2 : Int32) : Option (Int32 × OSt) := gd (30 + v2) 1646 (nm (sA st 1 (upd (st.2 1) (30 + v2).toNatClampNeg (v1 + 1))) fun s5 => nm (sA s5 1 (upd (s5.2 1) 1 ((s5.2 1 1) + 1))) fun s6 => nm (sA s6 1 (upd (s6.2 1) 2 ((s6.2 1 2) + 1))) fun s7 => some (v2, s7))
def m_makes (st : OSt) (a1 : Int32) : Option (Int32 × OSt) := if (st.2 1 5) ≤ 0 then nm (sA st 1 (upd (st.2 1) 4 ((st.2 1 4) + 1))) fun s2 => m_makes_55 s2 a1 (st.2 1 4) else nm (sA st 1 (upd (st.2 1) 5 ((st.2 1 5) - 1))) fun s3 => gd (330 + (s3.2 1 5)) 1646 (nm ((s3.2 1 (330 + (s3.2 1 5)).toNatClampNeg)) fun y4 => m_makes_55 s3 a1 y4)
abbrev rmX5_makes : Room := { frames := 0, cells := 0, slots := 0, locals := 0 }
theorem hdX5_makes : yX5_makes.cls = RX5 ∧ yX5_makes.cls ≠ "java/lang/invoke/MethodHandle" ∧ yX5_makes.cls ≠ "java/lang/invoke/VarHandle" ∧ (parseMethodDescriptor yX5_makes.desc).map (fun d => d.parameters.length) = some 1 := by decide +kernel
set_option maxHeartbeats 4000000 in
set_option maxRecDepth 100000 in
theorem t_X5_makes_55 {p : Program} {l : Launch} {e : Env} {s : State} {m : MethodId} {args : Array Value} {below : List Frame} {meth : Method} {c : Code} {A : Nat → Prop} {G : Gx} {q : Nat → Nat} {st0 : OSt} (C : Cx p s m args meth c G cX5_makes wsX5_makes RX5 (some .int) 3 A) (hD : va_D A (wM G q st0)) :
    ∀ {st : OSt} {v1 : Int32} {v2 : Int32} {x : Int32 × OSt}, m_makes_55 st v1 v2 = some x → ∀ {H : Heap} {locs : List Loc} {ls : Array Slot}, va_P G.1 vwCl (wM G q st) H → va_S A s.heap H locs → lv_has ls 3 [(0, .ref (q 42)), (1, .int v1), (2, .int v2)] → W p l e rmX5_makes s m args below meth c H locs 0 0 (MQ below (qE G A (wM G q x.2) (some (.int x.1))) args s 0 0 A) (F0 m 55 ls []) := by
  have hx := C.1
  have hb := C.2.1
  intro st v1 v2 x hf H locs ls hP hS hl
  unfold m_makes_55 at hf
  refine lv_aload_n hx hb dX5_makes_55 rfl (lv_at hl 0 rfl) ?_
  refine q_get C hP wM_o rfl hiX5_makes_X5 1 (by decide) wdX5_makes_1 rfl dX5_makes_56 ?_
  refine lv_bipush (v := 30) hx hb dX5_makes_59 (by decide) ?_
  refine lv_iload_n hx hb dX5_makes_61 rfl (lv_at hl 2 rfl) ?_
  refine lv_iadd hx hb dX5_makes_62 ?_
  refine lv_iload_n hx hb dX5_makes_63 rfl (lv_at hl 1 rfl) ?_
  refine lv_iconst (v := 1) hx hb dX5_makes_64 (by decide) ?_
  refine lv_iadd hx hb dX5_makes_65 ?_
  obtain ⟨hin, hf⟩ := gd_some hf
  obtain ⟨s5, es5, hf⟩ := nm_ex hf
  refine q_iast C hP (dd_M hD) hS wM_a_1 rfl wM_sA_1 hin dX5_makes_66 (fun H locs hP hS => ?_)
  rw [es5] at hP
  refine lv_aload_n hx hb dX5_makes_67 rfl (lv_at hl 0 rfl) ?_
  refine q_get C hP wM_o rfl hiX5_makes_X5 1 (by decide) wdX5_makes_1 rfl dX5_makes_68 ?_
  refine lv_iconst (v := 1) hx hb dX5_makes_71 (by decide) ?_
  refine lv_dup2_11 hx hb dX5_makes_72 rfl rfl ?_
  refine q_iald C hP wM_a_1 (j := 1) (by decide) (vp_k (j := 1) (by decide) (by decide) (by decide)) dX5_makes_73 ?_
  refine lv_iconst (v := 1) hx hb dX5_makes_74 (by decide) ?_
  refine lv_iadd hx hb dX5_makes_75 ?_
  obtain ⟨s6, es6, hf⟩ := nm_ex hf
  refine q_iast C hP (dd_M hD) hS wM_a_1 (j := 1) (by decide) wM_sA_1 (vp_k (j := 1) (by decide) (by decide) (by decide)) dX5_makes_76 (fun H locs hP hS => ?_)
  rw [es6] at hP
  refine lv_aload_n hx hb dX5_makes_77 rfl (lv_at hl 0 rfl) ?_
  refine q_get C hP wM_o rfl hiX5_makes_X5 1 (by decide) wdX5_makes_1 rfl dX5_makes_78 ?_
  refine lv_iconst (v := 2) hx hb dX5_makes_81 (by decide) ?_
  refine lv_dup2_11 hx hb dX5_makes_82 rfl rfl ?_
  refine q_iald C hP wM_a_1 (j := 2) (by decide) (vp_k (j := 2) (by decide) (by decide) (by decide)) dX5_makes_83 ?_
  refine lv_iconst (v := 1) hx hb dX5_makes_84 (by decide) ?_
  refine lv_iadd hx hb dX5_makes_85 ?_
  obtain ⟨s7, es7, hf⟩ := nm_ex hf
  refine q_iast C hP (dd_M hD) hS wM_a_1 (j := 2) (by decide) wM_sA_1 (vp_k (j := 2) (by decide) (by decide) (by decide)) dX5_makes_86 (fun H locs hP hS => ?_)
  rw [es7] at hP
  refine lv_iload_n hx hb dX5_makes_87 rfl (lv_at hl 2 rfl) ?_
  cases hf
  exact q_iret C hP hS rfl dX5_makes_88
set_option maxHeartbeats 4000000 in
set_option maxRecDepth 100000 in
theorem c_X5_makes {l : Launch} {G : Gx} {q : Nat → Nat} {st : OSt} {a1 : Int32} {x : Int32 × OSt} (hf : m_makes st a1 = some x) : QM l G yX5_makes wsX5_makes rmX5_makes [.ref (q 42), .int a1] (wM G q st) (wM G q x.2) (some (.int x.1)) := by
  refine QM.of (cc := cX5_makes) (maxL := 3) (ret := (some .int)) (by decide) rfl (Nat.le_of_ble_eq_true rfl) ?_
  intro p e s m below meth c A ls C hD hP hS hl
  have hx := C.1
  have hb := C.2.1
  have hl : lv_has ls 3 [(0, .ref (q 42)), (1, .int a1)] := hl
  unfold m_makes at hf
  refine lv_aload_n hx hb dX5_makes_0 rfl (lv_at hl 0 rfl) ?_
  refine q_get C hP wM_o rfl hiX5_makes_X5 1 (by decide) wdX5_makes_1 rfl dX5_makes_1 ?_
  refine lv_iconst (v := 5) hx hb dX5_makes_4 (by decide) ?_
  refine q_iald C hP wM_a_1 (j := 5) (by decide) (vp_k (j := 5) (by decide) (by decide) (by decide)) dX5_makes_5 ?_
  refine lv_if_le (tgt := 38) hx hb dX5_makes_6 (by decide) (fun c1 => ?_) (fun c1 => ?_)
  · have hf := if_t c1 hf
    refine lv_aload_n hx hb dX5_makes_38 rfl (lv_at hl 0 rfl) ?_
    refine q_get C hP wM_o rfl hiX5_makes_X5 1 (by decide) wdX5_makes_1 rfl dX5_makes_39 ?_
    refine lv_iconst (v := 4) hx hb dX5_makes_42 (by decide) ?_
    refine q_iald C hP wM_a_1 (j := 4) (by decide) (vp_k (j := 4) (by decide) (by decide) (by decide)) dX5_makes_43 ?_
    refine lv_istore_n (lv' := [(2, .int (st.2 1 4)), (0, .ref (q 42)), (1, .int a1)]) hx hb dX5_makes_44 rfl hl (by decide) rfl (fun ls hl => ?_)
    refine lv_aload_n hx hb dX5_makes_45 rfl (lv_at hl 1 rfl) ?_
    refine q_get C hP wM_o rfl hiX5_makes_X5 1 (by decide) wdX5_makes_1 rfl dX5_makes_46 ?_
    refine lv_iconst (v := 4) hx hb dX5_makes_49 (by decide) ?_
    refine lv_dup2_11 hx hb dX5_makes_50 rfl rfl ?_
    refine q_iald C hP wM_a_1 (j := 4) (by decide) (vp_k (j := 4) (by decide) (by decide) (by decide)) dX5_makes_51 ?_
    refine lv_iconst (v := 1) hx hb dX5_makes_52 (by decide) ?_
    refine lv_iadd hx hb dX5_makes_53 ?_
    obtain ⟨s2, es2, hf⟩ := nm_ex hf
    refine q_iast C hP (dd_M hD) hS wM_a_1 (j := 4) (by decide) wM_sA_1 (vp_k (j := 4) (by decide) (by decide) (by decide)) dX5_makes_54 (fun H locs hP hS => ?_)
    rw [es2] at hP
    exact t_X5_makes_55 C hD hf hP hS (lv_sub hl [1, 2, 0] rfl)
  · have hf := if_f c1 hf
    refine lv_aload_n hx hb dX5_makes_9 rfl (lv_at hl 0 rfl) ?_
    refine q_get C hP wM_o rfl hiX5_makes_X5 1 (by decide) wdX5_makes_1 rfl dX5_makes_10 ?_
    refine lv_iconst (v := 5) hx hb dX5_makes_13 (by decide) ?_
    refine lv_dup2_11 hx hb dX5_makes_14 rfl rfl ?_
    refine q_iald C hP wM_a_1 (j := 5) (by decide) (vp_k (j := 5) (by decide) (by decide) (by decide)) dX5_makes_15 ?_
    refine lv_iconst (v := 1) hx hb dX5_makes_16 (by decide) ?_
    refine lv_isub hx hb dX5_makes_17 ?_
    obtain ⟨s3, es3, hf⟩ := nm_ex hf
    refine q_iast C hP (dd_M hD) hS wM_a_1 (j := 5) (by decide) wM_sA_1 (vp_k (j := 5) (by decide) (by decide) (by decide)) dX5_makes_18 (fun H locs hP hS => ?_)
    rw [es3] at hP
    refine lv_aload_n hx hb dX5_makes_19 rfl (lv_at hl 0 rfl) ?_
    refine q_get C hP wM_o rfl hiX5_makes_X5 1 (by decide) wdX5_makes_1 rfl dX5_makes_20 ?_
    refine lv_sipush (v := 330) hx hb dX5_makes_23 (by decide) ?_
    refine lv_aload_n hx hb dX5_makes_26 rfl (lv_at hl 0 rfl) ?_
    refine q_get C hP wM_o rfl hiX5_makes_X5 1 (by decide) wdX5_makes_1 rfl dX5_makes_27 ?_
    refine lv_iconst (v := 5) hx hb dX5_makes_30 (by decide) ?_
    refine q_iald C hP wM_a_1 (j := 5) (by decide) (vp_k (j := 5) (by decide) (by decide) (by decide)) dX5_makes_31 ?_
    refine lv_iadd hx hb dX5_makes_32 ?_
    obtain ⟨hin, hf⟩ := gd_some hf
    refine q_iald C hP wM_a_1 rfl hin dX5_makes_33 ?_
    obtain ⟨y4, ey4, hf⟩ := nm_ex hf
    refine lv_tI ey4 ?_
    refine lv_istore_n (lv' := [(2, .int y4), (0, .ref (q 42)), (1, .int a1)]) hx hb dX5_makes_34 rfl hl (by decide) rfl (fun ls hl => ?_)
    refine lv_goto (tgt := 55) hx hb dX5_makes_35 (by decide) ?_
    exact t_X5_makes_55 C hD hf hP hS (lv_sub hl [1, 2, 0] rfl)

-- X5_frees
theorem hiX5_frees_X5 : ∀ w ∈ u_ws RX5 TX5 42, w ∈ wsX5_frees := mem_run (i := 2) (by decide +kernel)
theorem wdX5_frees_1 : (Cond.fieldLink RX5 7 "CombinatorRingModel" "now" "[I") ∈ wsX5_frees := List.mem_of_getElem? (i := 1) rfl
def m_frees (st : OSt) (a1 : Int32) : Option (OSt) := gd (30 + a1) 1646 (nm (sA st 1 (upd (st.2 1) (30 + a1).toNatClampNeg 0)) fun s1 => gd (330 + (s1.2 1 5)) 1646 (nm (sA s1 1 (upd (s1.2 1) (330 + (s1.2 1 5)).toNatClampNeg a1)) fun s2 => nm (sA s2 1 (upd (s2.2 1) 5 ((s2.2 1 5) + 1))) fun s3 => nm (sA s3 1 (upd (s3.2 1) 1 ((s3.2 1 1) - 1))) fun s4 => nm (sA s4 1 (upd (s4.2 1) 3 ((s4.2 1 3) + 1))) fun s5 => some s5))
abbrev rmX5_frees : Room := { frames := 0, cells := 0, slots := 0, locals := 0 }
theorem hdX5_frees : yX5_frees.cls = RX5 ∧ yX5_frees.cls ≠ "java/lang/invoke/MethodHandle" ∧ yX5_frees.cls ≠ "java/lang/invoke/VarHandle" ∧ (parseMethodDescriptor yX5_frees.desc).map (fun d => d.parameters.length) = some 1 := by decide +kernel
set_option maxHeartbeats 4000000 in
set_option maxRecDepth 100000 in
theorem c_X5_frees {l : Launch} {G : Gx} {q : Nat → Nat} {st : OSt} {a1 : Int32} {x : OSt} (hf : m_frees st a1 = some x) : QM l G yX5_frees wsX5_frees rmX5_frees [.ref (q 42), .int a1] (wM G q st) (wM G q x) none := by
  refine QM.of (cc := cX5_frees) (maxL := 2) (ret := none) (by decide) rfl (Nat.le_of_ble_eq_true rfl) ?_
  intro p e s m below meth c A ls C hD hP hS hl
  have hx := C.1
  have hb := C.2.1
  have hl : lv_has ls 2 [(0, .ref (q 42)), (1, .int a1)] := hl
  unfold m_frees at hf
  refine lv_aload_n hx hb dX5_frees_0 rfl (lv_at hl 0 rfl) ?_
  refine q_get C hP wM_o rfl hiX5_frees_X5 1 (by decide) wdX5_frees_1 rfl dX5_frees_1 ?_
  refine lv_bipush (v := 30) hx hb dX5_frees_4 (by decide) ?_
  refine lv_iload_n hx hb dX5_frees_6 rfl (lv_at hl 1 rfl) ?_
  refine lv_iadd hx hb dX5_frees_7 ?_
  refine lv_iconst (v := 0) hx hb dX5_frees_8 (by decide) ?_
  obtain ⟨hin, hf⟩ := gd_some hf
  obtain ⟨s1, es1, hf⟩ := nm_ex hf
  refine q_iast C hP (dd_M hD) hS wM_a_1 rfl wM_sA_1 hin dX5_frees_9 (fun H locs hP hS => ?_)
  rw [es1] at hP
  refine lv_aload_n hx hb dX5_frees_10 rfl (lv_at hl 0 rfl) ?_
  refine q_get C hP wM_o rfl hiX5_frees_X5 1 (by decide) wdX5_frees_1 rfl dX5_frees_11 ?_
  refine lv_sipush (v := 330) hx hb dX5_frees_14 (by decide) ?_
  refine lv_aload_n hx hb dX5_frees_17 rfl (lv_at hl 0 rfl) ?_
  refine q_get C hP wM_o rfl hiX5_frees_X5 1 (by decide) wdX5_frees_1 rfl dX5_frees_18 ?_
  refine lv_iconst (v := 5) hx hb dX5_frees_21 (by decide) ?_
  refine q_iald C hP wM_a_1 (j := 5) (by decide) (vp_k (j := 5) (by decide) (by decide) (by decide)) dX5_frees_22 ?_
  refine lv_iadd hx hb dX5_frees_23 ?_
  refine lv_iload_n hx hb dX5_frees_24 rfl (lv_at hl 1 rfl) ?_
  obtain ⟨hin, hf⟩ := gd_some hf
  obtain ⟨s2, es2, hf⟩ := nm_ex hf
  refine q_iast C hP (dd_M hD) hS wM_a_1 rfl wM_sA_1 hin dX5_frees_25 (fun H locs hP hS => ?_)
  rw [es2] at hP
  refine lv_aload_n hx hb dX5_frees_26 rfl (lv_at hl 0 rfl) ?_
  refine q_get C hP wM_o rfl hiX5_frees_X5 1 (by decide) wdX5_frees_1 rfl dX5_frees_27 ?_
  refine lv_iconst (v := 5) hx hb dX5_frees_30 (by decide) ?_
  refine lv_dup2_11 hx hb dX5_frees_31 rfl rfl ?_
  refine q_iald C hP wM_a_1 (j := 5) (by decide) (vp_k (j := 5) (by decide) (by decide) (by decide)) dX5_frees_32 ?_
  refine lv_iconst (v := 1) hx hb dX5_frees_33 (by decide) ?_
  refine lv_iadd hx hb dX5_frees_34 ?_
  obtain ⟨s3, es3, hf⟩ := nm_ex hf
  refine q_iast C hP (dd_M hD) hS wM_a_1 (j := 5) (by decide) wM_sA_1 (vp_k (j := 5) (by decide) (by decide) (by decide)) dX5_frees_35 (fun H locs hP hS => ?_)
  rw [es3] at hP
  refine lv_aload_n hx hb dX5_frees_36 rfl (lv_at hl 0 rfl) ?_
  refine q_get C hP wM_o rfl hiX5_frees_X5 1 (by decide) wdX5_frees_1 rfl dX5_frees_37 ?_
  refine lv_iconst (v := 1) hx hb dX5_frees_40 (by decide) ?_
  refine lv_dup2_11 hx hb dX5_frees_41 rfl rfl ?_
  refine q_iald C hP wM_a_1 (j := 1) (by decide) (vp_k (j := 1) (by decide) (by decide) (by decide)) dX5_frees_42 ?_
  refine lv_iconst (v := 1) hx hb dX5_frees_43 (by decide) ?_
  refine lv_isub hx hb dX5_frees_44 ?_
  obtain ⟨s4, es4, hf⟩ := nm_ex hf
  refine q_iast C hP (dd_M hD) hS wM_a_1 (j := 1) (by decide) wM_sA_1 (vp_k (j := 1) (by decide) (by decide) (by decide)) dX5_frees_45 (fun H locs hP hS => ?_)
  rw [es4] at hP
  refine lv_aload_n hx hb dX5_frees_46 rfl (lv_at hl 0 rfl) ?_
  refine q_get C hP wM_o rfl hiX5_frees_X5 1 (by decide) wdX5_frees_1 rfl dX5_frees_47 ?_
  refine lv_iconst (v := 3) hx hb dX5_frees_50 (by decide) ?_
  refine lv_dup2_11 hx hb dX5_frees_51 rfl rfl ?_
  refine q_iald C hP wM_a_1 (j := 3) (by decide) (vp_k (j := 3) (by decide) (by decide) (by decide)) dX5_frees_52 ?_
  refine lv_iconst (v := 1) hx hb dX5_frees_53 (by decide) ?_
  refine lv_iadd hx hb dX5_frees_54 ?_
  obtain ⟨s5, es5, hf⟩ := nm_ex hf
  refine q_iast C hP (dd_M hD) hS wM_a_1 (j := 3) (by decide) wM_sA_1 (vp_k (j := 3) (by decide) (by decide) (by decide)) dX5_frees_55 (fun H locs hP hS => ?_)
  rw [es5] at hP
  cases hf
  exact q_vret C hP hS rfl dX5_frees_56

-- X5_hasRoom
theorem hiX5_hasRoom_X5 : ∀ w ∈ u_ws RX5 TX5 42, w ∈ wsX5_hasRoom := mem_run (i := 2) (by decide +kernel)
theorem wdX5_hasRoom_1 : (Cond.fieldLink RX5 7 "CombinatorRingModel" "now" "[I") ∈ wsX5_hasRoom := List.mem_of_getElem? (i := 1) rfl
def m_hasRoom (st : OSt) (a1 : Int32) : Option (Int32) := if (st.2 1 0) < ((st.2 1 1) + a1) then some 0 else some 1
abbrev rmX5_hasRoom : Room := { frames := 0, cells := 0, slots := 0, locals := 0 }
theorem hdX5_hasRoom : yX5_hasRoom.cls = RX5 ∧ yX5_hasRoom.cls ≠ "java/lang/invoke/MethodHandle" ∧ yX5_hasRoom.cls ≠ "java/lang/invoke/VarHandle" ∧ (parseMethodDescriptor yX5_hasRoom.desc).map (fun d => d.parameters.length) = some 1 := by decide +kernel
set_option maxHeartbeats 4000000 in
set_option maxRecDepth 100000 in
theorem c_X5_hasRoom {l : Launch} {G : Gx} {q : Nat → Nat} {st : OSt} {a1 : Int32} {x : Int32} (hf : m_hasRoom st a1 = some x) : QM l G yX5_hasRoom wsX5_hasRoom rmX5_hasRoom [.ref (q 42), .int a1] (wM G q st) (wM G q st) (some (.int x)) := by
  refine QM.of (cc := cX5_hasRoom) (maxL := 2) (ret := (some .boolean)) (by decide) rfl (Nat.le_of_ble_eq_true rfl) ?_
  intro p e s m below meth c A ls C hD hP hS hl
  have hx := C.1
  have hb := C.2.1
  have hl : lv_has ls 2 [(0, .ref (q 42)), (1, .int a1)] := hl
  unfold m_hasRoom at hf
  refine lv_aload_n hx hb dX5_hasRoom_0 rfl (lv_at hl 0 rfl) ?_
  refine q_get C hP wM_o rfl hiX5_hasRoom_X5 1 (by decide) wdX5_hasRoom_1 rfl dX5_hasRoom_1 ?_
  refine lv_iconst (v := 1) hx hb dX5_hasRoom_4 (by decide) ?_
  refine q_iald C hP wM_a_1 (j := 1) (by decide) (vp_k (j := 1) (by decide) (by decide) (by decide)) dX5_hasRoom_5 ?_
  refine lv_iload_n hx hb dX5_hasRoom_6 rfl (lv_at hl 1 rfl) ?_
  refine lv_iadd hx hb dX5_hasRoom_7 ?_
  refine lv_aload_n hx hb dX5_hasRoom_8 rfl (lv_at hl 0 rfl) ?_
  refine q_get C hP wM_o rfl hiX5_hasRoom_X5 1 (by decide) wdX5_hasRoom_1 rfl dX5_hasRoom_9 ?_
  refine lv_iconst (v := 0) hx hb dX5_hasRoom_12 (by decide) ?_
  refine q_iald C hP wM_a_1 (j := 0) (by decide) (vp_k (j := 0) (by decide) (by decide) (by decide)) dX5_hasRoom_13 ?_
  refine lv_icmp_gt (tgt := 21) hx hb dX5_hasRoom_14 (by decide) (fun c1 => ?_) (fun c1 => ?_)
  · have hf := if_t c1 hf
    refine lv_iconst (v := 0) hx hb dX5_hasRoom_21 (by decide) ?_
    cases hf
    exact q_zret C hP hS rfl (gb_nar (Or.inl rfl)) dX5_hasRoom_22
  · have hf := if_f c1 hf
    refine lv_iconst (v := 1) hx hb dX5_hasRoom_17 (by decide) ?_
    refine lv_goto (tgt := 22) hx hb dX5_hasRoom_18 (by decide) ?_
    cases hf
    exact q_zret C hP hS rfl (gb_nar (Or.inr rfl)) dX5_hasRoom_22

-- X5_puts
theorem hiX5_puts_X5 : ∀ w ∈ u_ws RX5 TX5 42, w ∈ wsX5_puts := mem_run (i := 3) (by decide +kernel)
theorem wdX5_puts_1 : (Cond.fieldLink RX5 17 "CombinatorRingModel" "tape" "[B") ∈ wsX5_puts := List.mem_of_getElem? (i := 1) rfl
theorem wdX5_puts_2 : (Cond.fieldLink RX5 93 "CombinatorRingModel" "taped" "I") ∈ wsX5_puts := List.mem_of_getElem? (i := 2) rfl
def m_puts_3 : Nat → OSt → Int32 → Int32 → Option (OSt)
  | 0, _, _, _ => none
  | n + 1, st, v1, v2 => if v2 < 0 then some st else gd (st.1 3) 500 (nm (sA st 2 (upd (st.2 2) (st.1 3).toNatClampNeg (vp_nar .byte ((v1 >>> (v2 &&& 31)).toInt8.toInt32)))) fun s3 => nm (sI s3 3 ((s3.1 3) + 1)) fun s4 => m_puts_3 n s4 v1 (v2 + (-8)))
def m_puts (st : OSt) (a1 : Int32) : Option (OSt) := bd (m_puts_3 20000 st a1 24) fun x1 => some x1
abbrev rmX5_puts : Room := { frames := 0, cells := 0, slots := 0, locals := 0 }
theorem hdX5_puts : yX5_puts.cls = RX5 ∧ yX5_puts.cls ≠ "java/lang/invoke/MethodHandle" ∧ yX5_puts.cls ≠ "java/lang/invoke/VarHandle" ∧ (parseMethodDescriptor yX5_puts.desc).map (fun d => d.parameters.length) = some 1 := by decide +kernel
set_option maxHeartbeats 4000000 in
set_option maxRecDepth 100000 in
theorem t_X5_puts_3 {p : Program} {l : Launch} {e : Env} {s : State} {m : MethodId} {args : Array Value} {below : List Frame} {meth : Method} {c : Code} {Q : State → Prop} {A : Nat → Prop} {G : Gx} {q : Nat → Nat} {st0 : OSt} (C : Cx p s m args meth c G cX5_puts wsX5_puts RX5 none 3 A) (hD : va_D A (wM G q st0)) :
    ∀ {n : Nat} {st : OSt} {v1 : Int32} {v2 : Int32} {x : OSt}, m_puts_3 n st v1 v2 = some x → ∀ {H : Heap} {locs : List Loc} {ls : Array Slot}, va_P G.1 vwCl (wM G q st) H → va_S A s.heap H locs → lv_has ls 3 [(0, .ref (q 42)), (1, .int v1), (2, .int v2)] → (∀ {H : Heap} {locs : List Loc} {ls : Array Slot}, va_P G.1 vwCl (wM G q x) H → va_S A s.heap H locs → lv_has ls 3 [] → W p l e rmX5_puts s m args below meth c H locs 0 0 Q (F0 m 36 ls [])) → W p l e rmX5_puts s m args below meth c H locs 0 0 Q (F0 m 3 ls []) := by
  have hx := C.1
  have hb := C.2.1
  intro n
  induction n with
  | zero => intro st v1 v2 x hf; cases hf
  | succ n ih =>
    intro st v1 v2 x hf H locs ls hP hS hl kk
    rw [m_puts_3] at hf
    refine lv_iload_n hx hb dX5_puts_3 rfl (lv_at hl 2 rfl) ?_
    refine lv_if_lt (tgt := 36) hx hb dX5_puts_4 (by decide) (fun c2 => ?_) (fun c2 => ?_)
    · have hf := if_t c2 hf
      cases hf
      exact kk hP hS (lv_sub hl [] rfl)
    · have hf := if_f c2 hf
      refine lv_aload_n hx hb dX5_puts_7 rfl (lv_at hl 0 rfl) ?_
      refine q_get C hP wM_o rfl hiX5_puts_X5 2 (by decide) wdX5_puts_1 rfl dX5_puts_8 ?_
      refine lv_aload_n hx hb dX5_puts_11 rfl (lv_at hl 0 rfl) ?_
      refine q_get C hP wM_o rfl hiX5_puts_X5 3 (by decide) wdX5_puts_2 rfl dX5_puts_12 ?_
      refine lv_iload_n hx hb dX5_puts_15 rfl (lv_at hl 1 rfl) ?_
      refine lv_iload_n hx hb dX5_puts_16 rfl (lv_at hl 2 rfl) ?_
      refine lv_ishr hx hb dX5_puts_17 ?_
      refine lv_i2b hx hb dX5_puts_18 rfl ?_
      obtain ⟨hin, hf⟩ := gd_some hf
      obtain ⟨s3, es3, hf⟩ := nm_ex hf
      refine q_bast C hP (dd_M hD) hS wM_a_2 rfl wM_sA_2 hin dX5_puts_19 (fun H locs hP hS => ?_)
      rw [es3] at hP
      refine lv_aload_n hx hb dX5_puts_20 rfl (lv_at hl 0 rfl) ?_
      refine lv_dup hx hb dX5_puts_21 rfl ?_
      refine q_get C hP wM_o rfl hiX5_puts_X5 3 (by decide) wdX5_puts_2 rfl dX5_puts_22 ?_
      refine lv_iconst (v := 1) hx hb dX5_puts_25 (by decide) ?_
      refine lv_iadd hx hb dX5_puts_26 ?_
      obtain ⟨s4, es4, hf⟩ := nm_ex hf
      refine q_put C hP (dd_M hD) hS wM_o rfl hiX5_puts_X5 tyX5_ok nmX5 3 (by decide) wdX5_puts_2 rfl rfl rfl (Nat.le_of_ble_eq_true rfl) wM_sI_3 dX5_puts_27 (fun H locs hP hS => ?_)
      rw [es4] at hP
      refine lv_iinc (v := (v2 + (-8))) (lv' := [(2, .int (v2 + (-8))), (0, .ref (q 42)), (1, .int v1)]) hx hb dX5_puts_30 hl (k := 2) rfl rfl (by decide) rfl (fun ls hl => ?_)
      refine lv_goto (tgt := 3) hx hb dX5_puts_33 (by decide) ?_
      exact ih hf hP hS (lv_sub hl [1, 2, 0] rfl) kk
set_option maxHeartbeats 4000000 in
set_option maxRecDepth 100000 in
theorem c_X5_puts {l : Launch} {G : Gx} {q : Nat → Nat} {st : OSt} {a1 : Int32} {x : OSt} (hf : m_puts st a1 = some x) : QM l G yX5_puts wsX5_puts rmX5_puts [.ref (q 42), .int a1] (wM G q st) (wM G q x) none := by
  refine QM.of (cc := cX5_puts) (maxL := 3) (ret := none) (by decide) rfl (Nat.le_of_ble_eq_true rfl) ?_
  intro p e s m below meth c A ls C hD hP hS hl
  have hx := C.1
  have hb := C.2.1
  have hl : lv_has ls 3 [(0, .ref (q 42)), (1, .int a1)] := hl
  unfold m_puts at hf
  refine lv_bipush (v := 24) hx hb dX5_puts_0 (by decide) ?_
  refine lv_istore_n (lv' := [(2, .int 24), (0, .ref (q 42)), (1, .int a1)]) hx hb dX5_puts_2 rfl hl (by decide) rfl (fun ls hl => ?_)
  obtain ⟨x1, hx1, hf⟩ := bd_some hf
  refine t_X5_puts_3 C hD hx1 hP hS (lv_sub hl [1, 2, 0] rfl) (fun {H locs ls} hP hS hl => ?_)
  cases hf
  exact q_vret C hP hS rfl dX5_puts_36

-- X5_feed
theorem hiX5_feed_X5 : ∀ w ∈ u_ws RX5 TX5 42, w ∈ wsX5_feed := mem_run (i := 9) (by decide +kernel)
theorem wdX5_feed_2 : (Cond.fieldLink RX5 93 "CombinatorRingModel" "taped" "I") ∈ wsX5_feed := List.mem_of_getElem? (i := 2) rfl
theorem wdX5_feed_1 : (Cond.fieldLink RX5 1 "CombinatorRingModel" "thrown" "I") ∈ wsX5_feed := List.mem_of_getElem? (i := 1) rfl
def m_feed (st : OSt) (a1 : Int32) (a2 : Int32) (a3 : Int32) (a4 : Int32) (a5 : Int32) : Option (Int32 × OSt) := nm (sI st 0 0) fun s1 => if ((s1.1 3) + 20) ≤ 500 then bd (m_puts s1 a1) fun x3 => bd (m_puts x3 a2) fun x4 => bd (m_puts x4 a3) fun x5 => bd (m_puts x5 a4) fun x6 => bd (m_puts x6 a5) fun x7 => some ((x7.1 3), x7) else some ((-1), s1)
abbrev rmX5_feed : Room := { frames := 1, cells := 0, slots := 0, locals := 22 }
theorem hdX5_feed : yX5_feed.cls = RX5 ∧ yX5_feed.cls ≠ "java/lang/invoke/MethodHandle" ∧ yX5_feed.cls ≠ "java/lang/invoke/VarHandle" ∧ (parseMethodDescriptor yX5_feed.desc).map (fun d => d.parameters.length) = some 5 := by decide +kernel
set_option maxHeartbeats 4000000 in
set_option maxRecDepth 100000 in
theorem c_X5_feed {l : Launch} {G : Gx} {q : Nat → Nat} {st : OSt} {a1 : Int32} {a2 : Int32} {a3 : Int32} {a4 : Int32} {a5 : Int32} {x : Int32 × OSt} (hf : m_feed st a1 a2 a3 a4 a5 = some x) : QM l G yX5_feed wsX5_feed rmX5_feed [.ref (q 42), .int a1, .int a2, .int a3, .int a4, .int a5] (wM G q st) (wM G q x.2) (some (.int x.1)) := by
  refine QM.of (cc := cX5_feed) (maxL := 6) (ret := (some .int)) (by decide) rfl (Nat.le_of_ble_eq_true rfl) ?_
  intro p e s m below meth c A ls C hD hP hS hl
  have hx := C.1
  have hb := C.2.1
  have hl : lv_has ls 6 [(0, .ref (q 42)), (1, .int a1), (2, .int a2), (3, .int a3), (4, .int a4), (5, .int a5)] := hl
  unfold m_feed at hf
  refine lv_aload_n hx hb dX5_feed_0 rfl (lv_at hl 0 rfl) ?_
  refine lv_iconst (v := 0) hx hb dX5_feed_1 (by decide) ?_
  obtain ⟨s1, es1, hf⟩ := nm_ex hf
  refine q_put C hP (dd_M hD) hS wM_o rfl hiX5_feed_X5 tyX5_ok nmX5 0 (by decide) wdX5_feed_1 rfl rfl rfl (Nat.le_of_ble_eq_true rfl) wM_sI_0 dX5_feed_2 (fun H locs hP hS => ?_)
  rw [es1] at hP
  refine lv_aload_n hx hb dX5_feed_5 rfl (lv_at hl 0 rfl) ?_
  refine q_get C hP wM_o rfl hiX5_feed_X5 3 (by decide) wdX5_feed_2 rfl dX5_feed_6 ?_
  refine lv_bipush (v := 20) hx hb dX5_feed_9 (by decide) ?_
  refine lv_iadd hx hb dX5_feed_11 ?_
  refine lv_sipush (v := 500) hx hb dX5_feed_12 (by decide) ?_
  refine lv_icmp_le (tgt := 20) hx hb dX5_feed_15 (by decide) (fun c2 => ?_) (fun c2 => ?_)
  · have hf := if_t c2 hf
    refine lv_aload_n hx hb dX5_feed_20 rfl (lv_at hl 0 rfl) ?_
    refine lv_iload_n hx hb dX5_feed_21 rfl (lv_at hl 1 rfl) ?_
    obtain ⟨x3, hx3, hf⟩ := bd_some hf
    refine q_Vv C (rc := (RX5, TX5, 42)) (q0 := 0) (ci := 5) (ws' := wM G q x3) (wr := []) (c_X5_puts hx3) gX5_feed_X5_puts rfl ⟨rfl, rfl⟩ hdX5_puts ⟨(Nat.le_of_ble_eq_true rfl), (Nat.le_of_ble_eq_true rfl)⟩ rfl hP (dd_M hD) hS rfl rfl (List.Perm.refl _) (List.Perm.refl _) hl.1 (Nat.le_of_ble_eq_true rfl) ⟨Nat.zero_le _, Nat.zero_le _⟩ rfl dX5_feed_22 (fun H locs hP hS => ?_)
    refine lv_aload_n hx hb dX5_feed_25 rfl (lv_at hl 0 rfl) ?_
    refine lv_iload_n hx hb dX5_feed_26 rfl (lv_at hl 2 rfl) ?_
    obtain ⟨x4, hx4, hf⟩ := bd_some hf
    refine q_Vv C (rc := (RX5, TX5, 42)) (q0 := 0) (ci := 5) (ws' := wM G q x4) (wr := []) (c_X5_puts hx4) gX5_feed_X5_puts rfl ⟨rfl, rfl⟩ hdX5_puts ⟨(Nat.le_of_ble_eq_true rfl), (Nat.le_of_ble_eq_true rfl)⟩ rfl hP (dd_M hD) hS rfl rfl (List.Perm.refl _) (List.Perm.refl _) hl.1 (Nat.le_of_ble_eq_true rfl) ⟨Nat.zero_le _, Nat.zero_le _⟩ rfl dX5_feed_27 (fun H locs hP hS => ?_)
    refine lv_aload_n hx hb dX5_feed_30 rfl (lv_at hl 0 rfl) ?_
    refine lv_iload_n hx hb dX5_feed_31 rfl (lv_at hl 3 rfl) ?_
    obtain ⟨x5, hx5, hf⟩ := bd_some hf
    refine q_Vv C (rc := (RX5, TX5, 42)) (q0 := 0) (ci := 5) (ws' := wM G q x5) (wr := []) (c_X5_puts hx5) gX5_feed_X5_puts rfl ⟨rfl, rfl⟩ hdX5_puts ⟨(Nat.le_of_ble_eq_true rfl), (Nat.le_of_ble_eq_true rfl)⟩ rfl hP (dd_M hD) hS rfl rfl (List.Perm.refl _) (List.Perm.refl _) hl.1 (Nat.le_of_ble_eq_true rfl) ⟨Nat.zero_le _, Nat.zero_le _⟩ rfl dX5_feed_32 (fun H locs hP hS => ?_)
    refine lv_aload_n hx hb dX5_feed_35 rfl (lv_at hl 0 rfl) ?_
    refine lv_iload hx hb dX5_feed_36 (lv_at hl 4 rfl) ?_
    obtain ⟨x6, hx6, hf⟩ := bd_some hf
    refine q_Vv C (rc := (RX5, TX5, 42)) (q0 := 0) (ci := 5) (ws' := wM G q x6) (wr := []) (c_X5_puts hx6) gX5_feed_X5_puts rfl ⟨rfl, rfl⟩ hdX5_puts ⟨(Nat.le_of_ble_eq_true rfl), (Nat.le_of_ble_eq_true rfl)⟩ rfl hP (dd_M hD) hS rfl rfl (List.Perm.refl _) (List.Perm.refl _) hl.1 (Nat.le_of_ble_eq_true rfl) ⟨Nat.zero_le _, Nat.zero_le _⟩ rfl dX5_feed_38 (fun H locs hP hS => ?_)
    refine lv_aload_n hx hb dX5_feed_41 rfl (lv_at hl 0 rfl) ?_
    refine lv_iload hx hb dX5_feed_42 (lv_at hl 5 rfl) ?_
    obtain ⟨x7, hx7, hf⟩ := bd_some hf
    refine q_Vv C (rc := (RX5, TX5, 42)) (q0 := 0) (ci := 5) (ws' := wM G q x7) (wr := []) (c_X5_puts hx7) gX5_feed_X5_puts rfl ⟨rfl, rfl⟩ hdX5_puts ⟨(Nat.le_of_ble_eq_true rfl), (Nat.le_of_ble_eq_true rfl)⟩ rfl hP (dd_M hD) hS rfl rfl (List.Perm.refl _) (List.Perm.refl _) hl.1 (Nat.le_of_ble_eq_true rfl) ⟨Nat.zero_le _, Nat.zero_le _⟩ rfl dX5_feed_44 (fun H locs hP hS => ?_)
    refine lv_aload_n hx hb dX5_feed_47 rfl (lv_at hl 0 rfl) ?_
    refine q_get C hP wM_o rfl hiX5_feed_X5 3 (by decide) wdX5_feed_2 rfl dX5_feed_48 ?_
    cases hf
    exact q_iret C hP hS rfl dX5_feed_51
  · have hf := if_f c2 hf
    refine lv_iconst (v := (-1)) hx hb dX5_feed_18 (by decide) ?_
    cases hf
    exact q_iret C hP hS rfl dX5_feed_19

-- X5_byteAt
theorem hiX5_byteAt_X5 : ∀ w ∈ u_ws RX5 TX5 42, w ∈ wsX5_byteAt := mem_run (i := 3) (by decide +kernel)
theorem wdX5_byteAt_1 : (Cond.fieldLink RX5 99 "CombinatorRingModel" "size" "I") ∈ wsX5_byteAt := List.mem_of_getElem? (i := 1) rfl
theorem wdX5_byteAt_2 : (Cond.fieldLink RX5 17 "CombinatorRingModel" "tape" "[B") ∈ wsX5_byteAt := List.mem_of_getElem? (i := 2) rfl
def m_byteAt (st : OSt) (a1 : Int32) : Option (Int32) := if (st.1 4) ≤ a1 then some (-1) else gd a1 500 (some ((st.2 2 a1.toNatClampNeg) &&& 255))
abbrev rmX5_byteAt : Room := { frames := 0, cells := 0, slots := 0, locals := 0 }
theorem hdX5_byteAt : yX5_byteAt.cls = RX5 ∧ yX5_byteAt.cls ≠ "java/lang/invoke/MethodHandle" ∧ yX5_byteAt.cls ≠ "java/lang/invoke/VarHandle" ∧ (parseMethodDescriptor yX5_byteAt.desc).map (fun d => d.parameters.length) = some 1 := by decide +kernel
set_option maxHeartbeats 4000000 in
set_option maxRecDepth 100000 in
theorem c_X5_byteAt {l : Launch} {G : Gx} {q : Nat → Nat} {st : OSt} {a1 : Int32} {x : Int32} (hf : m_byteAt st a1 = some x) : QM l G yX5_byteAt wsX5_byteAt rmX5_byteAt [.ref (q 42), .int a1] (wM G q st) (wM G q st) (some (.int x)) := by
  refine QM.of (cc := cX5_byteAt) (maxL := 2) (ret := (some .int)) (by decide) rfl (Nat.le_of_ble_eq_true rfl) ?_
  intro p e s m below meth c A ls C hD hP hS hl
  have hx := C.1
  have hb := C.2.1
  have hl : lv_has ls 2 [(0, .ref (q 42)), (1, .int a1)] := hl
  unfold m_byteAt at hf
  refine lv_iload_n hx hb dX5_byteAt_0 rfl (lv_at hl 1 rfl) ?_
  refine lv_aload_n hx hb dX5_byteAt_1 rfl (lv_at hl 0 rfl) ?_
  refine q_get C hP wM_o rfl hiX5_byteAt_X5 4 (by decide) wdX5_byteAt_1 rfl dX5_byteAt_2 ?_
  refine lv_icmp_ge (tgt := 21) hx hb dX5_byteAt_5 (by decide) (fun c1 => ?_) (fun c1 => ?_)
  · have hf := if_t c1 hf
    refine lv_iconst (v := (-1)) hx hb dX5_byteAt_21 (by decide) ?_
    cases hf
    exact q_iret C hP hS rfl dX5_byteAt_22
  · have hf := if_f c1 hf
    refine lv_aload_n hx hb dX5_byteAt_8 rfl (lv_at hl 0 rfl) ?_
    refine q_get C hP wM_o rfl hiX5_byteAt_X5 2 (by decide) wdX5_byteAt_2 rfl dX5_byteAt_9 ?_
    refine lv_iload_n hx hb dX5_byteAt_12 rfl (lv_at hl 1 rfl) ?_
    obtain ⟨hin, hf⟩ := gd_some hf
    refine q_bald C hP wM_a_2 rfl hin dX5_byteAt_13 ?_
    refine lv_sipush (v := 255) hx hb dX5_byteAt_14 (by decide) ?_
    refine lv_iand hx hb dX5_byteAt_17 ?_
    refine lv_goto (tgt := 22) hx hb dX5_byteAt_18 (by decide) ?_
    cases hf
    exact q_iret C hP hS rfl dX5_byteAt_22

-- X5_isSign
def m_isSign  (a1 : Int32) : Option (Int32) := if a1 = 59 then some 1 else if a1 = 126 then some 1 else if a1 = 42 then some 1 else if a1 = 35 then some 1 else if a1 = 40 then some 1 else if a1 = 41 then some 1 else if a1 = 91 then some 1 else if a1 = 93 then some 1 else if a1 = 60 then some 1 else if a1 = 62 then some 1 else some 0
abbrev rmX5_isSign : Room := { frames := 0, cells := 0, slots := 0, locals := 0 }
theorem hdX5_isSign : yX5_isSign.cls ≠ "java/lang/invoke/MethodHandle" ∧ yX5_isSign.cls ≠ "java/lang/invoke/VarHandle" ∧ (parseMethodDescriptor yX5_isSign.desc).map (fun d => d.parameters.length) = some 1 := by decide +kernel
set_option maxHeartbeats 4000000 in
set_option maxRecDepth 100000 in
theorem c_X5_isSign {l : Launch} {G : Gx} {w : va_W}  {a1 : Int32} {x : Int32} (hf : m_isSign a1 = some x) : QM l G yX5_isSign wsX5_isSign rmX5_isSign [.int a1] (w) (w) (some (.int x)) := by
  refine QM.of (cc := cX5_isSign) (maxL := 1) (ret := (some .boolean)) (by decide) rfl (Nat.le_of_ble_eq_true rfl) ?_
  intro p e s m below meth c A ls C hD hP hS hl
  have hx := C.1
  have hb := C.2.1
  have hl : lv_has ls 1 [(0, .int a1)] := hl
  unfold m_isSign at hf
  refine lv_iload_n hx hb dX5_isSign_0 rfl (lv_at hl 0 rfl) ?_
  refine lv_bipush (v := 59) hx hb dX5_isSign_1 (by decide) ?_
  refine lv_icmp_eq (tgt := 60) hx hb dX5_isSign_3 (by decide) (fun c1 => ?_) (fun c1 => ?_)
  · have hf := if_t c1 hf
    refine lv_iconst (v := 1) hx hb dX5_isSign_60 (by decide) ?_
    refine lv_goto (tgt := 65) hx hb dX5_isSign_61 (by decide) ?_
    cases hf
    exact q_zret C hP hS rfl (gb_nar (Or.inr rfl)) dX5_isSign_65
  · have hf := if_f c1 hf
    refine lv_iload_n hx hb dX5_isSign_6 rfl (lv_at hl 0 rfl) ?_
    refine lv_bipush (v := 126) hx hb dX5_isSign_7 (by decide) ?_
    refine lv_icmp_eq (tgt := 60) hx hb dX5_isSign_9 (by decide) (fun c2 => ?_) (fun c2 => ?_)
    · have hf := if_t c2 hf
      refine lv_iconst (v := 1) hx hb dX5_isSign_60 (by decide) ?_
      refine lv_goto (tgt := 65) hx hb dX5_isSign_61 (by decide) ?_
      cases hf
      exact q_zret C hP hS rfl (gb_nar (Or.inr rfl)) dX5_isSign_65
    · have hf := if_f c2 hf
      refine lv_iload_n hx hb dX5_isSign_12 rfl (lv_at hl 0 rfl) ?_
      refine lv_bipush (v := 42) hx hb dX5_isSign_13 (by decide) ?_
      refine lv_icmp_eq (tgt := 60) hx hb dX5_isSign_15 (by decide) (fun c3 => ?_) (fun c3 => ?_)
      · have hf := if_t c3 hf
        refine lv_iconst (v := 1) hx hb dX5_isSign_60 (by decide) ?_
        refine lv_goto (tgt := 65) hx hb dX5_isSign_61 (by decide) ?_
        cases hf
        exact q_zret C hP hS rfl (gb_nar (Or.inr rfl)) dX5_isSign_65
      · have hf := if_f c3 hf
        refine lv_iload_n hx hb dX5_isSign_18 rfl (lv_at hl 0 rfl) ?_
        refine lv_bipush (v := 35) hx hb dX5_isSign_19 (by decide) ?_
        refine lv_icmp_eq (tgt := 60) hx hb dX5_isSign_21 (by decide) (fun c4 => ?_) (fun c4 => ?_)
        · have hf := if_t c4 hf
          refine lv_iconst (v := 1) hx hb dX5_isSign_60 (by decide) ?_
          refine lv_goto (tgt := 65) hx hb dX5_isSign_61 (by decide) ?_
          cases hf
          exact q_zret C hP hS rfl (gb_nar (Or.inr rfl)) dX5_isSign_65
        · have hf := if_f c4 hf
          refine lv_iload_n hx hb dX5_isSign_24 rfl (lv_at hl 0 rfl) ?_
          refine lv_bipush (v := 40) hx hb dX5_isSign_25 (by decide) ?_
          refine lv_icmp_eq (tgt := 60) hx hb dX5_isSign_27 (by decide) (fun c5 => ?_) (fun c5 => ?_)
          · have hf := if_t c5 hf
            refine lv_iconst (v := 1) hx hb dX5_isSign_60 (by decide) ?_
            refine lv_goto (tgt := 65) hx hb dX5_isSign_61 (by decide) ?_
            cases hf
            exact q_zret C hP hS rfl (gb_nar (Or.inr rfl)) dX5_isSign_65
          · have hf := if_f c5 hf
            refine lv_iload_n hx hb dX5_isSign_30 rfl (lv_at hl 0 rfl) ?_
            refine lv_bipush (v := 41) hx hb dX5_isSign_31 (by decide) ?_
            refine lv_icmp_eq (tgt := 60) hx hb dX5_isSign_33 (by decide) (fun c6 => ?_) (fun c6 => ?_)
            · have hf := if_t c6 hf
              refine lv_iconst (v := 1) hx hb dX5_isSign_60 (by decide) ?_
              refine lv_goto (tgt := 65) hx hb dX5_isSign_61 (by decide) ?_
              cases hf
              exact q_zret C hP hS rfl (gb_nar (Or.inr rfl)) dX5_isSign_65
            · have hf := if_f c6 hf
              refine lv_iload_n hx hb dX5_isSign_36 rfl (lv_at hl 0 rfl) ?_
              refine lv_bipush (v := 91) hx hb dX5_isSign_37 (by decide) ?_
              refine lv_icmp_eq (tgt := 60) hx hb dX5_isSign_39 (by decide) (fun c7 => ?_) (fun c7 => ?_)
              · have hf := if_t c7 hf
                refine lv_iconst (v := 1) hx hb dX5_isSign_60 (by decide) ?_
                refine lv_goto (tgt := 65) hx hb dX5_isSign_61 (by decide) ?_
                cases hf
                exact q_zret C hP hS rfl (gb_nar (Or.inr rfl)) dX5_isSign_65
              · have hf := if_f c7 hf
                refine lv_iload_n hx hb dX5_isSign_42 rfl (lv_at hl 0 rfl) ?_
                refine lv_bipush (v := 93) hx hb dX5_isSign_43 (by decide) ?_
                refine lv_icmp_eq (tgt := 60) hx hb dX5_isSign_45 (by decide) (fun c8 => ?_) (fun c8 => ?_)
                · have hf := if_t c8 hf
                  refine lv_iconst (v := 1) hx hb dX5_isSign_60 (by decide) ?_
                  refine lv_goto (tgt := 65) hx hb dX5_isSign_61 (by decide) ?_
                  cases hf
                  exact q_zret C hP hS rfl (gb_nar (Or.inr rfl)) dX5_isSign_65
                · have hf := if_f c8 hf
                  refine lv_iload_n hx hb dX5_isSign_48 rfl (lv_at hl 0 rfl) ?_
                  refine lv_bipush (v := 60) hx hb dX5_isSign_49 (by decide) ?_
                  refine lv_icmp_eq (tgt := 60) hx hb dX5_isSign_51 (by decide) (fun c9 => ?_) (fun c9 => ?_)
                  · have hf := if_t c9 hf
                    refine lv_iconst (v := 1) hx hb dX5_isSign_60 (by decide) ?_
                    refine lv_goto (tgt := 65) hx hb dX5_isSign_61 (by decide) ?_
                    cases hf
                    exact q_zret C hP hS rfl (gb_nar (Or.inr rfl)) dX5_isSign_65
                  · have hf := if_f c9 hf
                    refine lv_iload_n hx hb dX5_isSign_54 rfl (lv_at hl 0 rfl) ?_
                    refine lv_bipush (v := 62) hx hb dX5_isSign_55 (by decide) ?_
                    refine lv_icmp_ne (tgt := 64) hx hb dX5_isSign_57 (by decide) (fun c10 => ?_) (fun c10 => ?_)
                    · have hf := if_f c10 hf
                      refine lv_iconst (v := 0) hx hb dX5_isSign_64 (by decide) ?_
                      cases hf
                      exact q_zret C hP hS rfl (gb_nar (Or.inl rfl)) dX5_isSign_65
                    · have hf := if_t c10 hf
                      refine lv_iconst (v := 1) hx hb dX5_isSign_60 (by decide) ?_
                      refine lv_goto (tgt := 65) hx hb dX5_isSign_61 (by decide) ?_
                      cases hf
                      exact q_zret C hP hS rfl (gb_nar (Or.inr rfl)) dX5_isSign_65

-- X5_go
theorem hiX5_go_X5 : ∀ w ∈ u_ws RX5 TX5 42, w ∈ wsX5_go := mem_run (i := 20) (by decide +kernel)
theorem wdX5_go_1 : (Cond.fieldLink RX5 102 "CombinatorRingModel" "next" "I") ∈ wsX5_go := List.mem_of_getElem? (i := 1) rfl
theorem wdX5_go_5 : (Cond.fieldLink RX5 118 "CombinatorRingModel" "token" "I") ∈ wsX5_go := List.mem_of_getElem? (i := 5) rfl
theorem wdX5_go_3 : (Cond.fieldLink RX5 112 "CombinatorRingModel" "value" "I") ∈ wsX5_go := List.mem_of_getElem? (i := 3) rfl
theorem wdX5_go_2 : (Cond.fieldLink RX5 109 "CombinatorRingModel" "from" "I") ∈ wsX5_go := List.mem_of_getElem? (i := 2) rfl
theorem wdX5_go_4 : (Cond.fieldLink RX5 115 "CombinatorRingModel" "word" "I") ∈ wsX5_go := List.mem_of_getElem? (i := 4) rfl
theorem wdX5_go_6 : (Cond.constant RX5 121 (441892441)) ∈ wsX5_go := List.mem_of_getElem? (i := 6) rfl
def m_go_0 : Nat → OSt → Option (OSt)
  | 0, _ => none
  | n + 1, st => bd (m_byteAt st (st.1 6)) fun x30 => if x30 = 32 then nm (sI st 6 ((st.1 6) + 1)) fun s32 => m_go_0 n s32  else bd (m_byteAt st (st.1 6)) fun x33 => if x33 = 10 then nm (sI st 6 ((st.1 6) + 1)) fun s35 => m_go_0 n s35  else some st
def m_go_89 : Nat → OSt → Option (OSt)
  | 0, _ => none
  | n + 1, st => bd (m_byteAt st (st.1 6)) fun x45 => bd (m_within x45 97 122) fun x46 => if x46 = 0 then some st else if 6 ≤ ((st.1 6) - (st.1 5)) then nm (sI st 9 (st.1 9)) fun s49 => nm (sI s49 6 ((s49.1 6) + 1)) fun s50 => m_go_89 n s50  else bd (m_byteAt st (st.1 6)) fun x51 => nm (sI st 9 (((32 * (st.1 9)) + x51) - 96)) fun s52 => nm (sI s52 6 ((s52.1 6) + 1)) fun s53 => m_go_89 n s53 
def m_go_223 : Nat → OSt → Option (OSt)
  | 0, _ => none
  | n + 1, st => bd (m_byteAt st (st.1 6)) fun x36 => bd (m_within x36 48 57) fun x37 => if x37 = 0 then some st else if 3 ≤ ((st.1 6) - (st.1 5)) then nm (sI st 8 (st.1 8)) fun s40 => nm (sI s40 6 ((s40.1 6) + 1)) fun s41 => m_go_223 n s41  else bd (m_byteAt st (st.1 6)) fun x42 => nm (sI st 8 (((10 * (st.1 8)) + x42) - 48)) fun s43 => nm (sI s43 6 ((s43.1 6) + 1)) fun s44 => m_go_223 n s44 
def m_go (st : OSt)  : Option (OSt) := bd (m_go_0 20000 st) fun x1 => nm (sI x1 5 (x1.1 6)) fun s2 => nm (sI s2 8 0) fun s3 => nm (sI s3 9 0) fun s4 => bd (m_byteAt s4 (s4.1 6)) fun x5 => if 0 ≤ x5 then bd (m_within x5 97 122) fun x7 => if x7 = 0 then bd (m_within x5 48 57) fun x9 => if x9 = 0 then nm (sI s4 6 ((s4.1 6) + 1)) fun s11 => nm (sI s11 8 x5) fun s12 => bd (m_isSign x5) fun x13 => if x13 = 0 then nm (sI s12 7 4) fun s15 => some s15 else nm (sI s12 7 3) fun s16 => some s16 else bd (m_go_223 20000 s4) fun x17 => if 3 < ((x17.1 6) - (x17.1 5)) then nm (sI x17 7 4) fun s19 => some s19 else nm (sI x17 7 2) fun s20 => some s20 else bd (m_go_89 20000 s4) fun x21 => if ((x21.1 6) - (x21.1 5)) ≤ 5 then nm (sI x21 7 1) fun s23 => some s23 else if ((x21.1 6) - (x21.1 5)) = 6 then if (x21.1 9) = 441892441 then nm (sI x21 7 1) fun s28 => some s28 else nm (sI x21 7 4) fun s27 => some s27 else nm (sI x21 7 4) fun s25 => some s25 else nm (sI s4 7 0) fun s29 => some s29
abbrev rmX5_go : Room := { frames := 1, cells := 0, slots := 0, locals := 22 }
theorem hdX5_go : yX5_go.cls = RX5 ∧ yX5_go.cls ≠ "java/lang/invoke/MethodHandle" ∧ yX5_go.cls ≠ "java/lang/invoke/VarHandle" ∧ (parseMethodDescriptor yX5_go.desc).map (fun d => d.parameters.length) = some 0 := by decide +kernel
set_option maxHeartbeats 4000000 in
set_option maxRecDepth 100000 in
theorem t_X5_go_0 {p : Program} {l : Launch} {e : Env} {s : State} {m : MethodId} {args : Array Value} {below : List Frame} {meth : Method} {c : Code} {Q : State → Prop} {A : Nat → Prop} {G : Gx} {q : Nat → Nat} {st0 : OSt} (C : Cx p s m args meth c G cX5_go wsX5_go RX5 none 2 A) (hD : va_D A (wM G q st0)) :
    ∀ {n : Nat} {st : OSt}  {x : OSt}, m_go_0 n st = some x → ∀ {H : Heap} {locs : List Loc} {ls : Array Slot}, va_P G.1 vwCl (wM G q st) H → va_S A s.heap H locs → lv_has ls 2 [(0, .ref (q 42))] → (∀ {H : Heap} {locs : List Loc} {ls : Array Slot}, va_P G.1 vwCl (wM G q x) H → va_S A s.heap H locs → lv_has ls 2 [(0, .ref (q 42))] → W p l e rmX5_go s m args below meth c H locs 0 0 Q (F0 m 39 ls [])) → W p l e rmX5_go s m args below meth c H locs 0 0 Q (F0 m 0 ls []) := by
  have hx := C.1
  have hb := C.2.1
  intro n
  induction n with
  | zero => intro st x hf; cases hf
  | succ n ih =>
    intro st x hf H locs ls hP hS hl kk
    rw [m_go_0] at hf
    refine lv_aload_n hx hb dX5_go_0 rfl (lv_at hl 0 rfl) ?_
    refine lv_aload_n hx hb dX5_go_1 rfl (lv_at hl 0 rfl) ?_
    refine q_get C hP wM_o rfl hiX5_go_X5 6 (by decide) wdX5_go_1 rfl dX5_go_2 ?_
    obtain ⟨x30, hx30, hf⟩ := bd_some hf
    refine q_Vi C (rc := (RX5, TX5, 42)) (q0 := 0) (ci := 5) (ws' := wM G q st) (wr := []) (c_X5_byteAt hx30) gX5_go_X5_byteAt rfl ⟨rfl, rfl⟩ hdX5_byteAt ⟨(Nat.le_of_ble_eq_true rfl), (Nat.le_of_ble_eq_true rfl)⟩ rfl hP (dd_M hD) hS rfl rfl (List.Perm.refl _) (List.Perm.refl _) hl.1 (Nat.le_of_ble_eq_true rfl) ⟨Nat.zero_le _, Nat.zero_le _⟩ rfl dX5_go_5 (fun H locs hP hS => ?_)
    refine lv_bipush (v := 32) hx hb dX5_go_8 (by decide) ?_
    refine lv_icmp_eq (tgt := 26) hx hb dX5_go_10 (by decide) (fun c31 => ?_) (fun c31 => ?_)
    · have hf := if_t c31 hf
      refine lv_aload_n hx hb dX5_go_26 rfl (lv_at hl 0 rfl) ?_
      refine lv_dup hx hb dX5_go_27 rfl ?_
      refine q_get C hP wM_o rfl hiX5_go_X5 6 (by decide) wdX5_go_1 rfl dX5_go_28 ?_
      refine lv_iconst (v := 1) hx hb dX5_go_31 (by decide) ?_
      refine lv_iadd hx hb dX5_go_32 ?_
      obtain ⟨s32, es32, hf⟩ := nm_ex hf
      refine q_put C hP (dd_M hD) hS wM_o rfl hiX5_go_X5 tyX5_ok nmX5 6 (by decide) wdX5_go_1 rfl rfl rfl (Nat.le_of_ble_eq_true rfl) wM_sI_6 dX5_go_33 (fun H locs hP hS => ?_)
      rw [es32] at hP
      refine lv_goto (tgt := 0) hx hb dX5_go_36 (by decide) ?_
      exact ih hf hP hS (lv_sub hl [0] rfl) kk
    · have hf := if_f c31 hf
      refine lv_aload_n hx hb dX5_go_13 rfl (lv_at hl 0 rfl) ?_
      refine lv_aload_n hx hb dX5_go_14 rfl (lv_at hl 0 rfl) ?_
      refine q_get C hP wM_o rfl hiX5_go_X5 6 (by decide) wdX5_go_1 rfl dX5_go_15 ?_
      obtain ⟨x33, hx33, hf⟩ := bd_some hf
      refine q_Vi C (rc := (RX5, TX5, 42)) (q0 := 0) (ci := 5) (ws' := wM G q st) (wr := []) (c_X5_byteAt hx33) gX5_go_X5_byteAt rfl ⟨rfl, rfl⟩ hdX5_byteAt ⟨(Nat.le_of_ble_eq_true rfl), (Nat.le_of_ble_eq_true rfl)⟩ rfl hP (dd_M hD) hS rfl rfl (List.Perm.refl _) (List.Perm.refl _) hl.1 (Nat.le_of_ble_eq_true rfl) ⟨Nat.zero_le _, Nat.zero_le _⟩ rfl dX5_go_18 (fun H locs hP hS => ?_)
      refine lv_bipush (v := 10) hx hb dX5_go_21 (by decide) ?_
      refine lv_icmp_ne (tgt := 39) hx hb dX5_go_23 (by decide) (fun c34 => ?_) (fun c34 => ?_)
      · have hf := if_f c34 hf
        cases hf
        exact kk hP hS (lv_sub hl [0] rfl)
      · have hf := if_t c34 hf
        refine lv_aload_n hx hb dX5_go_26 rfl (lv_at hl 0 rfl) ?_
        refine lv_dup hx hb dX5_go_27 rfl ?_
        refine q_get C hP wM_o rfl hiX5_go_X5 6 (by decide) wdX5_go_1 rfl dX5_go_28 ?_
        refine lv_iconst (v := 1) hx hb dX5_go_31 (by decide) ?_
        refine lv_iadd hx hb dX5_go_32 ?_
        obtain ⟨s35, es35, hf⟩ := nm_ex hf
        refine q_put C hP (dd_M hD) hS wM_o rfl hiX5_go_X5 tyX5_ok nmX5 6 (by decide) wdX5_go_1 rfl rfl rfl (Nat.le_of_ble_eq_true rfl) wM_sI_6 dX5_go_33 (fun H locs hP hS => ?_)
        rw [es35] at hP
        refine lv_goto (tgt := 0) hx hb dX5_go_36 (by decide) ?_
        exact ih hf hP hS (lv_sub hl [0] rfl) kk
set_option maxHeartbeats 4000000 in
set_option maxRecDepth 100000 in
theorem t_X5_go_89 {p : Program} {l : Launch} {e : Env} {s : State} {m : MethodId} {args : Array Value} {below : List Frame} {meth : Method} {c : Code} {Q : State → Prop} {A : Nat → Prop} {G : Gx} {q : Nat → Nat} {st0 : OSt} (C : Cx p s m args meth c G cX5_go wsX5_go RX5 none 2 A) (hD : va_D A (wM G q st0)) :
    ∀ {n : Nat} {st : OSt}  {x : OSt}, m_go_89 n st = some x → ∀ {H : Heap} {locs : List Loc} {ls : Array Slot}, va_P G.1 vwCl (wM G q st) H → va_S A s.heap H locs → lv_has ls 2 [(0, .ref (q 42))] → (∀ {H : Heap} {locs : List Loc} {ls : Array Slot}, va_P G.1 vwCl (wM G q x) H → va_S A s.heap H locs → lv_has ls 2 [(0, .ref (q 42))] → W p l e rmX5_go s m args below meth c H locs 0 0 Q (F0 m 164 ls [])) → W p l e rmX5_go s m args below meth c H locs 0 0 Q (F0 m 89 ls []) := by
  have hx := C.1
  have hb := C.2.1
  intro n
  induction n with
  | zero => intro st x hf; cases hf
  | succ n ih =>
    intro st x hf H locs ls hP hS hl kk
    rw [m_go_89] at hf
    refine lv_aload_n hx hb dX5_go_89 rfl (lv_at hl 0 rfl) ?_
    refine lv_aload_n hx hb dX5_go_90 rfl (lv_at hl 0 rfl) ?_
    refine q_get C hP wM_o rfl hiX5_go_X5 6 (by decide) wdX5_go_1 rfl dX5_go_91 ?_
    obtain ⟨x45, hx45, hf⟩ := bd_some hf
    refine q_Vi C (rc := (RX5, TX5, 42)) (q0 := 0) (ci := 5) (ws' := wM G q st) (wr := []) (c_X5_byteAt hx45) gX5_go_X5_byteAt rfl ⟨rfl, rfl⟩ hdX5_byteAt ⟨(Nat.le_of_ble_eq_true rfl), (Nat.le_of_ble_eq_true rfl)⟩ rfl hP (dd_M hD) hS rfl rfl (List.Perm.refl _) (List.Perm.refl _) hl.1 (Nat.le_of_ble_eq_true rfl) ⟨Nat.zero_le _, Nat.zero_le _⟩ rfl dX5_go_94 (fun H locs hP hS => ?_)
    refine lv_bipush (v := 97) hx hb dX5_go_97 (by decide) ?_
    refine lv_bipush (v := 122) hx hb dX5_go_99 (by decide) ?_
    obtain ⟨x46, hx46, hf⟩ := bd_some hf
    refine q_Si C (ws' := wM G q st) (wr := []) (c_X5_within (w := wM G q st) hx46) gX5_go_X5_within rfl ⟨rfl, rfl⟩ hdX5_within ⟨(Nat.le_of_ble_eq_true rfl), (Nat.le_of_ble_eq_true rfl)⟩ rfl hP (dd_M hD) hS (List.Perm.refl _) (List.Perm.refl _) hl.1 (Nat.le_of_ble_eq_true rfl) ⟨Nat.zero_le _, Nat.zero_le _⟩ rfl dX5_go_101 (fun H locs hP hS => ?_)
    refine lv_if_eq (tgt := 164) hx hb dX5_go_104 (by decide) (fun c47 => ?_) (fun c47 => ?_)
    · have hf := if_t c47 hf
      cases hf
      exact kk hP hS (lv_sub hl [0] rfl)
    · have hf := if_f c47 hf
      refine lv_aload_n hx hb dX5_go_107 rfl (lv_at hl 0 rfl) ?_
      refine lv_aload_n hx hb dX5_go_108 rfl (lv_at hl 0 rfl) ?_
      refine q_get C hP wM_o rfl hiX5_go_X5 6 (by decide) wdX5_go_1 rfl dX5_go_109 ?_
      refine lv_aload_n hx hb dX5_go_112 rfl (lv_at hl 0 rfl) ?_
      refine q_get C hP wM_o rfl hiX5_go_X5 5 (by decide) wdX5_go_2 rfl dX5_go_113 ?_
      refine lv_isub hx hb dX5_go_116 ?_
      refine lv_bipush (v := 6) hx hb dX5_go_117 (by decide) ?_
      refine lv_icmp_ge (tgt := 144) hx hb dX5_go_119 (by decide) (fun c48 => ?_) (fun c48 => ?_)
      · have hf := if_t c48 hf
        refine lv_aload_n hx hb dX5_go_144 rfl (lv_at hl 0 rfl) ?_
        refine q_get C hP wM_o rfl hiX5_go_X5 9 (by decide) wdX5_go_4 rfl dX5_go_145 ?_
        obtain ⟨s49, es49, hf⟩ := nm_ex hf
        refine q_put C hP (dd_M hD) hS wM_o rfl hiX5_go_X5 tyX5_ok nmX5 9 (by decide) wdX5_go_4 rfl rfl rfl (Nat.le_of_ble_eq_true rfl) wM_sI_9 dX5_go_148 (fun H locs hP hS => ?_)
        rw [es49] at hP
        refine lv_aload_n hx hb dX5_go_151 rfl (lv_at hl 0 rfl) ?_
        refine lv_dup hx hb dX5_go_152 rfl ?_
        refine q_get C hP wM_o rfl hiX5_go_X5 6 (by decide) wdX5_go_1 rfl dX5_go_153 ?_
        refine lv_iconst (v := 1) hx hb dX5_go_156 (by decide) ?_
        refine lv_iadd hx hb dX5_go_157 ?_
        obtain ⟨s50, es50, hf⟩ := nm_ex hf
        refine q_put C hP (dd_M hD) hS wM_o rfl hiX5_go_X5 tyX5_ok nmX5 6 (by decide) wdX5_go_1 rfl rfl rfl (Nat.le_of_ble_eq_true rfl) wM_sI_6 dX5_go_158 (fun H locs hP hS => ?_)
        rw [es50] at hP
        refine lv_goto (tgt := 89) hx hb dX5_go_161 (by decide) ?_
        exact ih hf hP hS (lv_sub hl [0] rfl) kk
      · have hf := if_f c48 hf
        refine lv_bipush (v := 32) hx hb dX5_go_122 (by decide) ?_
        refine lv_aload_n hx hb dX5_go_124 rfl (lv_at hl 0 rfl) ?_
        refine q_get C hP wM_o rfl hiX5_go_X5 9 (by decide) wdX5_go_4 rfl dX5_go_125 ?_
        refine lv_imul hx hb dX5_go_128 ?_
        refine lv_aload_n hx hb dX5_go_129 rfl (lv_at hl 0 rfl) ?_
        refine lv_aload_n hx hb dX5_go_130 rfl (lv_at hl 0 rfl) ?_
        refine q_get C hP wM_o rfl hiX5_go_X5 6 (by decide) wdX5_go_1 rfl dX5_go_131 ?_
        obtain ⟨x51, hx51, hf⟩ := bd_some hf
        refine q_Vi C (rc := (RX5, TX5, 42)) (q0 := 0) (ci := 5) (ws' := wM G q st) (wr := []) (c_X5_byteAt hx51) gX5_go_X5_byteAt rfl ⟨rfl, rfl⟩ hdX5_byteAt ⟨(Nat.le_of_ble_eq_true rfl), (Nat.le_of_ble_eq_true rfl)⟩ rfl hP (dd_M hD) hS rfl rfl (List.Perm.refl _) (List.Perm.refl _) hl.1 (Nat.le_of_ble_eq_true rfl) ⟨Nat.zero_le _, Nat.zero_le _⟩ rfl dX5_go_134 (fun H locs hP hS => ?_)
        refine lv_iadd hx hb dX5_go_137 ?_
        refine lv_bipush (v := 96) hx hb dX5_go_138 (by decide) ?_
        refine lv_isub hx hb dX5_go_140 ?_
        refine lv_goto (tgt := 148) hx hb dX5_go_141 (by decide) ?_
        obtain ⟨s52, es52, hf⟩ := nm_ex hf
        refine q_put C hP (dd_M hD) hS wM_o rfl hiX5_go_X5 tyX5_ok nmX5 9 (by decide) wdX5_go_4 rfl rfl rfl (Nat.le_of_ble_eq_true rfl) wM_sI_9 dX5_go_148 (fun H locs hP hS => ?_)
        rw [es52] at hP
        refine lv_aload_n hx hb dX5_go_151 rfl (lv_at hl 0 rfl) ?_
        refine lv_dup hx hb dX5_go_152 rfl ?_
        refine q_get C hP wM_o rfl hiX5_go_X5 6 (by decide) wdX5_go_1 rfl dX5_go_153 ?_
        refine lv_iconst (v := 1) hx hb dX5_go_156 (by decide) ?_
        refine lv_iadd hx hb dX5_go_157 ?_
        obtain ⟨s53, es53, hf⟩ := nm_ex hf
        refine q_put C hP (dd_M hD) hS wM_o rfl hiX5_go_X5 tyX5_ok nmX5 6 (by decide) wdX5_go_1 rfl rfl rfl (Nat.le_of_ble_eq_true rfl) wM_sI_6 dX5_go_158 (fun H locs hP hS => ?_)
        rw [es53] at hP
        refine lv_goto (tgt := 89) hx hb dX5_go_161 (by decide) ?_
        exact ih hf hP hS (lv_sub hl [0] rfl) kk
set_option maxHeartbeats 4000000 in
set_option maxRecDepth 100000 in
theorem t_X5_go_223 {p : Program} {l : Launch} {e : Env} {s : State} {m : MethodId} {args : Array Value} {below : List Frame} {meth : Method} {c : Code} {Q : State → Prop} {A : Nat → Prop} {G : Gx} {q : Nat → Nat} {st0 : OSt} (C : Cx p s m args meth c G cX5_go wsX5_go RX5 none 2 A) (hD : va_D A (wM G q st0)) :
    ∀ {n : Nat} {st : OSt}  {x : OSt}, m_go_223 n st = some x → ∀ {H : Heap} {locs : List Loc} {ls : Array Slot}, va_P G.1 vwCl (wM G q st) H → va_S A s.heap H locs → lv_has ls 2 [(0, .ref (q 42))] → (∀ {H : Heap} {locs : List Loc} {ls : Array Slot}, va_P G.1 vwCl (wM G q x) H → va_S A s.heap H locs → lv_has ls 2 [(0, .ref (q 42))] → W p l e rmX5_go s m args below meth c H locs 0 0 Q (F0 m 297 ls [])) → W p l e rmX5_go s m args below meth c H locs 0 0 Q (F0 m 223 ls []) := by
  have hx := C.1
  have hb := C.2.1
  intro n
  induction n with
  | zero => intro st x hf; cases hf
  | succ n ih =>
    intro st x hf H locs ls hP hS hl kk
    rw [m_go_223] at hf
    refine lv_aload_n hx hb dX5_go_223 rfl (lv_at hl 0 rfl) ?_
    refine lv_aload_n hx hb dX5_go_224 rfl (lv_at hl 0 rfl) ?_
    refine q_get C hP wM_o rfl hiX5_go_X5 6 (by decide) wdX5_go_1 rfl dX5_go_225 ?_
    obtain ⟨x36, hx36, hf⟩ := bd_some hf
    refine q_Vi C (rc := (RX5, TX5, 42)) (q0 := 0) (ci := 5) (ws' := wM G q st) (wr := []) (c_X5_byteAt hx36) gX5_go_X5_byteAt rfl ⟨rfl, rfl⟩ hdX5_byteAt ⟨(Nat.le_of_ble_eq_true rfl), (Nat.le_of_ble_eq_true rfl)⟩ rfl hP (dd_M hD) hS rfl rfl (List.Perm.refl _) (List.Perm.refl _) hl.1 (Nat.le_of_ble_eq_true rfl) ⟨Nat.zero_le _, Nat.zero_le _⟩ rfl dX5_go_228 (fun H locs hP hS => ?_)
    refine lv_bipush (v := 48) hx hb dX5_go_231 (by decide) ?_
    refine lv_bipush (v := 57) hx hb dX5_go_233 (by decide) ?_
    obtain ⟨x37, hx37, hf⟩ := bd_some hf
    refine q_Si C (ws' := wM G q st) (wr := []) (c_X5_within (w := wM G q st) hx37) gX5_go_X5_within rfl ⟨rfl, rfl⟩ hdX5_within ⟨(Nat.le_of_ble_eq_true rfl), (Nat.le_of_ble_eq_true rfl)⟩ rfl hP (dd_M hD) hS (List.Perm.refl _) (List.Perm.refl _) hl.1 (Nat.le_of_ble_eq_true rfl) ⟨Nat.zero_le _, Nat.zero_le _⟩ rfl dX5_go_235 (fun H locs hP hS => ?_)
    refine lv_if_eq (tgt := 297) hx hb dX5_go_238 (by decide) (fun c38 => ?_) (fun c38 => ?_)
    · have hf := if_t c38 hf
      cases hf
      exact kk hP hS (lv_sub hl [0] rfl)
    · have hf := if_f c38 hf
      refine lv_aload_n hx hb dX5_go_241 rfl (lv_at hl 0 rfl) ?_
      refine lv_aload_n hx hb dX5_go_242 rfl (lv_at hl 0 rfl) ?_
      refine q_get C hP wM_o rfl hiX5_go_X5 6 (by decide) wdX5_go_1 rfl dX5_go_243 ?_
      refine lv_aload_n hx hb dX5_go_246 rfl (lv_at hl 0 rfl) ?_
      refine q_get C hP wM_o rfl hiX5_go_X5 5 (by decide) wdX5_go_2 rfl dX5_go_247 ?_
      refine lv_isub hx hb dX5_go_250 ?_
      refine lv_iconst (v := 3) hx hb dX5_go_251 (by decide) ?_
      refine lv_icmp_ge (tgt := 277) hx hb dX5_go_252 (by decide) (fun c39 => ?_) (fun c39 => ?_)
      · have hf := if_t c39 hf
        refine lv_aload_n hx hb dX5_go_277 rfl (lv_at hl 0 rfl) ?_
        refine q_get C hP wM_o rfl hiX5_go_X5 8 (by decide) wdX5_go_3 rfl dX5_go_278 ?_
        obtain ⟨s40, es40, hf⟩ := nm_ex hf
        refine q_put C hP (dd_M hD) hS wM_o rfl hiX5_go_X5 tyX5_ok nmX5 8 (by decide) wdX5_go_3 rfl rfl rfl (Nat.le_of_ble_eq_true rfl) wM_sI_8 dX5_go_281 (fun H locs hP hS => ?_)
        rw [es40] at hP
        refine lv_aload_n hx hb dX5_go_284 rfl (lv_at hl 0 rfl) ?_
        refine lv_dup hx hb dX5_go_285 rfl ?_
        refine q_get C hP wM_o rfl hiX5_go_X5 6 (by decide) wdX5_go_1 rfl dX5_go_286 ?_
        refine lv_iconst (v := 1) hx hb dX5_go_289 (by decide) ?_
        refine lv_iadd hx hb dX5_go_290 ?_
        obtain ⟨s41, es41, hf⟩ := nm_ex hf
        refine q_put C hP (dd_M hD) hS wM_o rfl hiX5_go_X5 tyX5_ok nmX5 6 (by decide) wdX5_go_1 rfl rfl rfl (Nat.le_of_ble_eq_true rfl) wM_sI_6 dX5_go_291 (fun H locs hP hS => ?_)
        rw [es41] at hP
        refine lv_goto (tgt := 223) hx hb dX5_go_294 (by decide) ?_
        exact ih hf hP hS (lv_sub hl [0] rfl) kk
      · have hf := if_f c39 hf
        refine lv_bipush (v := 10) hx hb dX5_go_255 (by decide) ?_
        refine lv_aload_n hx hb dX5_go_257 rfl (lv_at hl 0 rfl) ?_
        refine q_get C hP wM_o rfl hiX5_go_X5 8 (by decide) wdX5_go_3 rfl dX5_go_258 ?_
        refine lv_imul hx hb dX5_go_261 ?_
        refine lv_aload_n hx hb dX5_go_262 rfl (lv_at hl 0 rfl) ?_
        refine lv_aload_n hx hb dX5_go_263 rfl (lv_at hl 0 rfl) ?_
        refine q_get C hP wM_o rfl hiX5_go_X5 6 (by decide) wdX5_go_1 rfl dX5_go_264 ?_
        obtain ⟨x42, hx42, hf⟩ := bd_some hf
        refine q_Vi C (rc := (RX5, TX5, 42)) (q0 := 0) (ci := 5) (ws' := wM G q st) (wr := []) (c_X5_byteAt hx42) gX5_go_X5_byteAt rfl ⟨rfl, rfl⟩ hdX5_byteAt ⟨(Nat.le_of_ble_eq_true rfl), (Nat.le_of_ble_eq_true rfl)⟩ rfl hP (dd_M hD) hS rfl rfl (List.Perm.refl _) (List.Perm.refl _) hl.1 (Nat.le_of_ble_eq_true rfl) ⟨Nat.zero_le _, Nat.zero_le _⟩ rfl dX5_go_267 (fun H locs hP hS => ?_)
        refine lv_iadd hx hb dX5_go_270 ?_
        refine lv_bipush (v := 48) hx hb dX5_go_271 (by decide) ?_
        refine lv_isub hx hb dX5_go_273 ?_
        refine lv_goto (tgt := 281) hx hb dX5_go_274 (by decide) ?_
        obtain ⟨s43, es43, hf⟩ := nm_ex hf
        refine q_put C hP (dd_M hD) hS wM_o rfl hiX5_go_X5 tyX5_ok nmX5 8 (by decide) wdX5_go_3 rfl rfl rfl (Nat.le_of_ble_eq_true rfl) wM_sI_8 dX5_go_281 (fun H locs hP hS => ?_)
        rw [es43] at hP
        refine lv_aload_n hx hb dX5_go_284 rfl (lv_at hl 0 rfl) ?_
        refine lv_dup hx hb dX5_go_285 rfl ?_
        refine q_get C hP wM_o rfl hiX5_go_X5 6 (by decide) wdX5_go_1 rfl dX5_go_286 ?_
        refine lv_iconst (v := 1) hx hb dX5_go_289 (by decide) ?_
        refine lv_iadd hx hb dX5_go_290 ?_
        obtain ⟨s44, es44, hf⟩ := nm_ex hf
        refine q_put C hP (dd_M hD) hS wM_o rfl hiX5_go_X5 tyX5_ok nmX5 6 (by decide) wdX5_go_1 rfl rfl rfl (Nat.le_of_ble_eq_true rfl) wM_sI_6 dX5_go_291 (fun H locs hP hS => ?_)
        rw [es44] at hP
        refine lv_goto (tgt := 223) hx hb dX5_go_294 (by decide) ?_
        exact ih hf hP hS (lv_sub hl [0] rfl) kk
set_option maxHeartbeats 4000000 in
set_option maxRecDepth 100000 in
theorem c_X5_go {l : Launch} {G : Gx} {q : Nat → Nat} {st : OSt}  {x : OSt} (hf : m_go st = some x) : QM l G yX5_go wsX5_go rmX5_go [.ref (q 42)] (wM G q st) (wM G q x) none := by
  refine QM.of (cc := cX5_go) (maxL := 2) (ret := none) (by decide) rfl (Nat.le_of_ble_eq_true rfl) ?_
  intro p e s m below meth c A ls C hD hP hS hl
  have hx := C.1
  have hb := C.2.1
  have hl : lv_has ls 2 [(0, .ref (q 42))] := hl
  unfold m_go at hf
  obtain ⟨x1, hx1, hf⟩ := bd_some hf
  refine t_X5_go_0 C hD hx1 hP hS (lv_sub hl [0] rfl) (fun {H locs ls} hP hS hl => ?_)
  refine lv_aload_n hx hb dX5_go_39 rfl (lv_at hl 0 rfl) ?_
  refine lv_aload_n hx hb dX5_go_40 rfl (lv_at hl 0 rfl) ?_
  refine q_get C hP wM_o rfl hiX5_go_X5 6 (by decide) wdX5_go_1 rfl dX5_go_41 ?_
  obtain ⟨s2, es2, hf⟩ := nm_ex hf
  refine q_put C hP (dd_M hD) hS wM_o rfl hiX5_go_X5 tyX5_ok nmX5 5 (by decide) wdX5_go_2 rfl rfl rfl (Nat.le_of_ble_eq_true rfl) wM_sI_5 dX5_go_44 (fun H locs hP hS => ?_)
  rw [es2] at hP
  refine lv_aload_n hx hb dX5_go_47 rfl (lv_at hl 0 rfl) ?_
  refine lv_iconst (v := 0) hx hb dX5_go_48 (by decide) ?_
  obtain ⟨s3, es3, hf⟩ := nm_ex hf
  refine q_put C hP (dd_M hD) hS wM_o rfl hiX5_go_X5 tyX5_ok nmX5 8 (by decide) wdX5_go_3 rfl rfl rfl (Nat.le_of_ble_eq_true rfl) wM_sI_8 dX5_go_49 (fun H locs hP hS => ?_)
  rw [es3] at hP
  refine lv_aload_n hx hb dX5_go_52 rfl (lv_at hl 0 rfl) ?_
  refine lv_iconst (v := 0) hx hb dX5_go_53 (by decide) ?_
  obtain ⟨s4, es4, hf⟩ := nm_ex hf
  refine q_put C hP (dd_M hD) hS wM_o rfl hiX5_go_X5 tyX5_ok nmX5 9 (by decide) wdX5_go_4 rfl rfl rfl (Nat.le_of_ble_eq_true rfl) wM_sI_9 dX5_go_54 (fun H locs hP hS => ?_)
  rw [es4] at hP
  refine lv_aload_n hx hb dX5_go_57 rfl (lv_at hl 0 rfl) ?_
  refine lv_aload_n hx hb dX5_go_58 rfl (lv_at hl 0 rfl) ?_
  refine q_get C hP wM_o rfl hiX5_go_X5 6 (by decide) wdX5_go_1 rfl dX5_go_59 ?_
  obtain ⟨x5, hx5, hf⟩ := bd_some hf
  refine q_Vi C (rc := (RX5, TX5, 42)) (q0 := 0) (ci := 5) (ws' := wM G q s4) (wr := []) (c_X5_byteAt hx5) gX5_go_X5_byteAt rfl ⟨rfl, rfl⟩ hdX5_byteAt ⟨(Nat.le_of_ble_eq_true rfl), (Nat.le_of_ble_eq_true rfl)⟩ rfl hP (dd_M hD) hS rfl rfl (List.Perm.refl _) (List.Perm.refl _) hl.1 (Nat.le_of_ble_eq_true rfl) ⟨Nat.zero_le _, Nat.zero_le _⟩ rfl dX5_go_62 (fun H locs hP hS => ?_)
  refine lv_istore_n (lv' := [(1, .int x5), (0, .ref (q 42))]) hx hb dX5_go_65 rfl hl (by decide) rfl (fun ls hl => ?_)
  refine lv_iload_n hx hb dX5_go_66 rfl (lv_at hl 0 rfl) ?_
  refine lv_if_ge (tgt := 78) hx hb dX5_go_67 (by decide) (fun c6 => ?_) (fun c6 => ?_)
  · have hf := if_t c6 hf
    refine lv_iload_n hx hb dX5_go_78 rfl (lv_at hl 0 rfl) ?_
    refine lv_bipush (v := 97) hx hb dX5_go_79 (by decide) ?_
    refine lv_bipush (v := 122) hx hb dX5_go_81 (by decide) ?_
    obtain ⟨x7, hx7, hf⟩ := bd_some hf
    refine q_Si C (ws' := wM G q s4) (wr := []) (c_X5_within (w := wM G q s4) hx7) gX5_go_X5_within rfl ⟨rfl, rfl⟩ hdX5_within ⟨(Nat.le_of_ble_eq_true rfl), (Nat.le_of_ble_eq_true rfl)⟩ rfl hP (dd_M hD) hS (List.Perm.refl _) (List.Perm.refl _) hl.1 (Nat.le_of_ble_eq_true rfl) ⟨Nat.zero_le _, Nat.zero_le _⟩ rfl dX5_go_83 (fun H locs hP hS => ?_)
    refine lv_if_eq (tgt := 212) hx hb dX5_go_86 (by decide) (fun c8 => ?_) (fun c8 => ?_)
    · have hf := if_t c8 hf
      refine lv_iload_n hx hb dX5_go_212 rfl (lv_at hl 0 rfl) ?_
      refine lv_bipush (v := 48) hx hb dX5_go_213 (by decide) ?_
      refine lv_bipush (v := 57) hx hb dX5_go_215 (by decide) ?_
      obtain ⟨x9, hx9, hf⟩ := bd_some hf
      refine q_Si C (ws' := wM G q s4) (wr := []) (c_X5_within (w := wM G q s4) hx9) gX5_go_X5_within rfl ⟨rfl, rfl⟩ hdX5_within ⟨(Nat.le_of_ble_eq_true rfl), (Nat.le_of_ble_eq_true rfl)⟩ rfl hP (dd_M hD) hS (List.Perm.refl _) (List.Perm.refl _) hl.1 (Nat.le_of_ble_eq_true rfl) ⟨Nat.zero_le _, Nat.zero_le _⟩ rfl dX5_go_217 (fun H locs hP hS => ?_)
      refine lv_if_eq (tgt := 322) hx hb dX5_go_220 (by decide) (fun c10 => ?_) (fun c10 => ?_)
      · have hf := if_t c10 hf
        refine lv_aload_n hx hb dX5_go_322 rfl (lv_at hl 1 rfl) ?_
        refine lv_dup hx hb dX5_go_323 rfl ?_
        refine q_get C hP wM_o rfl hiX5_go_X5 6 (by decide) wdX5_go_1 rfl dX5_go_324 ?_
        refine lv_iconst (v := 1) hx hb dX5_go_327 (by decide) ?_
        refine lv_iadd hx hb dX5_go_328 ?_
        obtain ⟨s11, es11, hf⟩ := nm_ex hf
        refine q_put C hP (dd_M hD) hS wM_o rfl hiX5_go_X5 tyX5_ok nmX5 6 (by decide) wdX5_go_1 rfl rfl rfl (Nat.le_of_ble_eq_true rfl) wM_sI_6 dX5_go_329 (fun H locs hP hS => ?_)
        rw [es11] at hP
        refine lv_aload_n hx hb dX5_go_332 rfl (lv_at hl 1 rfl) ?_
        refine lv_iload_n hx hb dX5_go_333 rfl (lv_at hl 0 rfl) ?_
        obtain ⟨s12, es12, hf⟩ := nm_ex hf
        refine q_put C hP (dd_M hD) hS wM_o rfl hiX5_go_X5 tyX5_ok nmX5 8 (by decide) wdX5_go_3 rfl rfl rfl (Nat.le_of_ble_eq_true rfl) wM_sI_8 dX5_go_334 (fun H locs hP hS => ?_)
        rw [es12] at hP
        refine lv_aload_n hx hb dX5_go_337 rfl (lv_at hl 1 rfl) ?_
        refine lv_iload_n hx hb dX5_go_338 rfl (lv_at hl 0 rfl) ?_
        obtain ⟨x13, hx13, hf⟩ := bd_some hf
        refine q_Si C (ws' := wM G q s12) (wr := []) (c_X5_isSign (w := wM G q s12) hx13) gX5_go_X5_isSign rfl ⟨rfl, rfl⟩ hdX5_isSign ⟨(Nat.le_of_ble_eq_true rfl), (Nat.le_of_ble_eq_true rfl)⟩ rfl hP (dd_M hD) hS (List.Perm.refl _) (List.Perm.refl _) hl.1 (Nat.le_of_ble_eq_true rfl) ⟨Nat.zero_le _, Nat.zero_le _⟩ rfl dX5_go_339 (fun H locs hP hS => ?_)
        refine lv_if_eq (tgt := 349) hx hb dX5_go_342 (by decide) (fun c14 => ?_) (fun c14 => ?_)
        · have hf := if_t c14 hf
          refine lv_iconst (v := 4) hx hb dX5_go_349 (by decide) ?_
          obtain ⟨s15, es15, hf⟩ := nm_ex hf
          refine q_put C hP (dd_M hD) hS wM_o rfl hiX5_go_X5 tyX5_ok nmX5 7 (by decide) wdX5_go_5 rfl rfl rfl (Nat.le_of_ble_eq_true rfl) wM_sI_7 dX5_go_350 (fun H locs hP hS => ?_)
          rw [es15] at hP
          cases hf
          exact q_vret C hP hS rfl dX5_go_353
        · have hf := if_f c14 hf
          refine lv_iconst (v := 3) hx hb dX5_go_345 (by decide) ?_
          refine lv_goto (tgt := 350) hx hb dX5_go_346 (by decide) ?_
          obtain ⟨s16, es16, hf⟩ := nm_ex hf
          refine q_put C hP (dd_M hD) hS wM_o rfl hiX5_go_X5 tyX5_ok nmX5 7 (by decide) wdX5_go_5 rfl rfl rfl (Nat.le_of_ble_eq_true rfl) wM_sI_7 dX5_go_350 (fun H locs hP hS => ?_)
          rw [es16] at hP
          cases hf
          exact q_vret C hP hS rfl dX5_go_353
      · have hf := if_f c10 hf
        obtain ⟨x17, hx17, hf⟩ := bd_some hf
        refine t_X5_go_223 C hD hx17 hP hS (lv_sub hl [1] rfl) (fun {H locs ls} hP hS hl => ?_)
        refine lv_aload_n hx hb dX5_go_297 rfl (lv_at hl 0 rfl) ?_
        refine lv_aload_n hx hb dX5_go_298 rfl (lv_at hl 0 rfl) ?_
        refine q_get C hP wM_o rfl hiX5_go_X5 6 (by decide) wdX5_go_1 rfl dX5_go_299 ?_
        refine lv_aload_n hx hb dX5_go_302 rfl (lv_at hl 0 rfl) ?_
        refine q_get C hP wM_o rfl hiX5_go_X5 5 (by decide) wdX5_go_2 rfl dX5_go_303 ?_
        refine lv_isub hx hb dX5_go_306 ?_
        refine lv_iconst (v := 3) hx hb dX5_go_307 (by decide) ?_
        refine lv_icmp_gt (tgt := 315) hx hb dX5_go_308 (by decide) (fun c18 => ?_) (fun c18 => ?_)
        · have hf := if_t c18 hf
          refine lv_iconst (v := 4) hx hb dX5_go_315 (by decide) ?_
          obtain ⟨s19, es19, hf⟩ := nm_ex hf
          refine q_put C hP (dd_M hD) hS wM_o rfl hiX5_go_X5 tyX5_ok nmX5 7 (by decide) wdX5_go_5 rfl rfl rfl (Nat.le_of_ble_eq_true rfl) wM_sI_7 dX5_go_316 (fun H locs hP hS => ?_)
          rw [es19] at hP
          refine lv_goto (tgt := 353) hx hb dX5_go_319 (by decide) ?_
          cases hf
          exact q_vret C hP hS rfl dX5_go_353
        · have hf := if_f c18 hf
          refine lv_iconst (v := 2) hx hb dX5_go_311 (by decide) ?_
          refine lv_goto (tgt := 316) hx hb dX5_go_312 (by decide) ?_
          obtain ⟨s20, es20, hf⟩ := nm_ex hf
          refine q_put C hP (dd_M hD) hS wM_o rfl hiX5_go_X5 tyX5_ok nmX5 7 (by decide) wdX5_go_5 rfl rfl rfl (Nat.le_of_ble_eq_true rfl) wM_sI_7 dX5_go_316 (fun H locs hP hS => ?_)
          rw [es20] at hP
          refine lv_goto (tgt := 353) hx hb dX5_go_319 (by decide) ?_
          cases hf
          exact q_vret C hP hS rfl dX5_go_353
    · have hf := if_f c8 hf
      obtain ⟨x21, hx21, hf⟩ := bd_some hf
      refine t_X5_go_89 C hD hx21 hP hS (lv_sub hl [1] rfl) (fun {H locs ls} hP hS hl => ?_)
      refine lv_aload_n hx hb dX5_go_164 rfl (lv_at hl 0 rfl) ?_
      refine lv_aload_n hx hb dX5_go_165 rfl (lv_at hl 0 rfl) ?_
      refine q_get C hP wM_o rfl hiX5_go_X5 6 (by decide) wdX5_go_1 rfl dX5_go_166 ?_
      refine lv_aload_n hx hb dX5_go_169 rfl (lv_at hl 0 rfl) ?_
      refine q_get C hP wM_o rfl hiX5_go_X5 5 (by decide) wdX5_go_2 rfl dX5_go_170 ?_
      refine lv_isub hx hb dX5_go_173 ?_
      refine lv_iconst (v := 5) hx hb dX5_go_174 (by decide) ?_
      refine lv_icmp_le (tgt := 201) hx hb dX5_go_175 (by decide) (fun c22 => ?_) (fun c22 => ?_)
      · have hf := if_t c22 hf
        refine lv_iconst (v := 1) hx hb dX5_go_201 (by decide) ?_
        refine lv_goto (tgt := 206) hx hb dX5_go_202 (by decide) ?_
        obtain ⟨s23, es23, hf⟩ := nm_ex hf
        refine q_put C hP (dd_M hD) hS wM_o rfl hiX5_go_X5 tyX5_ok nmX5 7 (by decide) wdX5_go_5 rfl rfl rfl (Nat.le_of_ble_eq_true rfl) wM_sI_7 dX5_go_206 (fun H locs hP hS => ?_)
        rw [es23] at hP
        refine lv_goto (tgt := 353) hx hb dX5_go_209 (by decide) ?_
        cases hf
        exact q_vret C hP hS rfl dX5_go_353
      · have hf := if_f c22 hf
        refine lv_aload_n hx hb dX5_go_178 rfl (lv_at hl 0 rfl) ?_
        refine q_get C hP wM_o rfl hiX5_go_X5 6 (by decide) wdX5_go_1 rfl dX5_go_179 ?_
        refine lv_aload_n hx hb dX5_go_182 rfl (lv_at hl 0 rfl) ?_
        refine q_get C hP wM_o rfl hiX5_go_X5 5 (by decide) wdX5_go_2 rfl dX5_go_183 ?_
        refine lv_isub hx hb dX5_go_186 ?_
        refine lv_bipush (v := 6) hx hb dX5_go_187 (by decide) ?_
        refine lv_icmp_ne (tgt := 205) hx hb dX5_go_189 (by decide) (fun c24 => ?_) (fun c24 => ?_)
        · have hf := if_f c24 hf
          refine lv_iconst (v := 4) hx hb dX5_go_205 (by decide) ?_
          obtain ⟨s25, es25, hf⟩ := nm_ex hf
          refine q_put C hP (dd_M hD) hS wM_o rfl hiX5_go_X5 tyX5_ok nmX5 7 (by decide) wdX5_go_5 rfl rfl rfl (Nat.le_of_ble_eq_true rfl) wM_sI_7 dX5_go_206 (fun H locs hP hS => ?_)
          rw [es25] at hP
          refine lv_goto (tgt := 353) hx hb dX5_go_209 (by decide) ?_
          cases hf
          exact q_vret C hP hS rfl dX5_go_353
        · have hf := if_t c24 hf
          refine lv_aload_n hx hb dX5_go_192 rfl (lv_at hl 0 rfl) ?_
          refine q_get C hP wM_o rfl hiX5_go_X5 9 (by decide) wdX5_go_4 rfl dX5_go_193 ?_
          refine lv_ldc (v := 441892441) hx hb C.2.2.2.1 (C.2.2.2.2.1 _ wdX5_go_6) dX5_go_196 ?_
          refine lv_icmp_ne (tgt := 205) hx hb dX5_go_198 (by decide) (fun c26 => ?_) (fun c26 => ?_)
          · have hf := if_f c26 hf
            refine lv_iconst (v := 4) hx hb dX5_go_205 (by decide) ?_
            obtain ⟨s27, es27, hf⟩ := nm_ex hf
            refine q_put C hP (dd_M hD) hS wM_o rfl hiX5_go_X5 tyX5_ok nmX5 7 (by decide) wdX5_go_5 rfl rfl rfl (Nat.le_of_ble_eq_true rfl) wM_sI_7 dX5_go_206 (fun H locs hP hS => ?_)
            rw [es27] at hP
            refine lv_goto (tgt := 353) hx hb dX5_go_209 (by decide) ?_
            cases hf
            exact q_vret C hP hS rfl dX5_go_353
          · have hf := if_t c26 hf
            refine lv_iconst (v := 1) hx hb dX5_go_201 (by decide) ?_
            refine lv_goto (tgt := 206) hx hb dX5_go_202 (by decide) ?_
            obtain ⟨s28, es28, hf⟩ := nm_ex hf
            refine q_put C hP (dd_M hD) hS wM_o rfl hiX5_go_X5 tyX5_ok nmX5 7 (by decide) wdX5_go_5 rfl rfl rfl (Nat.le_of_ble_eq_true rfl) wM_sI_7 dX5_go_206 (fun H locs hP hS => ?_)
            rw [es28] at hP
            refine lv_goto (tgt := 353) hx hb dX5_go_209 (by decide) ?_
            cases hf
            exact q_vret C hP hS rfl dX5_go_353
  · have hf := if_f c6 hf
    refine lv_aload_n hx hb dX5_go_70 rfl (lv_at hl 1 rfl) ?_
    refine lv_iconst (v := 0) hx hb dX5_go_71 (by decide) ?_
    obtain ⟨s29, es29, hf⟩ := nm_ex hf
    refine q_put C hP (dd_M hD) hS wM_o rfl hiX5_go_X5 tyX5_ok nmX5 7 (by decide) wdX5_go_5 rfl rfl rfl (Nat.le_of_ble_eq_true rfl) wM_sI_7 dX5_go_72 (fun H locs hP hS => ?_)
    rw [es29] at hP
    refine lv_goto (tgt := 353) hx hb dX5_go_75 (by decide) ?_
    cases hf
    exact q_vret C hP hS rfl dX5_go_353

-- X5_is
theorem hiX5_is_X5 : ∀ w ∈ u_ws RX5 TX5 42, w ∈ wsX5_is := mem_run (i := 3) (by decide +kernel)
theorem wdX5_is_1 : (Cond.fieldLink RX5 118 "CombinatorRingModel" "token" "I") ∈ wsX5_is := List.mem_of_getElem? (i := 1) rfl
theorem wdX5_is_2 : (Cond.fieldLink RX5 112 "CombinatorRingModel" "value" "I") ∈ wsX5_is := List.mem_of_getElem? (i := 2) rfl
def m_is (st : OSt) (a1 : Int32) : Option (Int32) := if (st.1 7) = 3 then if (st.1 8) = a1 then some 1 else some 0 else some 0
abbrev rmX5_is : Room := { frames := 0, cells := 0, slots := 0, locals := 0 }
theorem hdX5_is : yX5_is.cls = RX5 ∧ yX5_is.cls ≠ "java/lang/invoke/MethodHandle" ∧ yX5_is.cls ≠ "java/lang/invoke/VarHandle" ∧ (parseMethodDescriptor yX5_is.desc).map (fun d => d.parameters.length) = some 1 := by decide +kernel
set_option maxHeartbeats 4000000 in
set_option maxRecDepth 100000 in
theorem c_X5_is {l : Launch} {G : Gx} {q : Nat → Nat} {st : OSt} {a1 : Int32} {x : Int32} (hf : m_is st a1 = some x) : QM l G yX5_is wsX5_is rmX5_is [.ref (q 42), .int a1] (wM G q st) (wM G q st) (some (.int x)) := by
  refine QM.of (cc := cX5_is) (maxL := 2) (ret := (some .boolean)) (by decide) rfl (Nat.le_of_ble_eq_true rfl) ?_
  intro p e s m below meth c A ls C hD hP hS hl
  have hx := C.1
  have hb := C.2.1
  have hl : lv_has ls 2 [(0, .ref (q 42)), (1, .int a1)] := hl
  unfold m_is at hf
  refine lv_aload_n hx hb dX5_is_0 rfl (lv_at hl 0 rfl) ?_
  refine q_get C hP wM_o rfl hiX5_is_X5 7 (by decide) wdX5_is_1 rfl dX5_is_1 ?_
  refine lv_iconst (v := 3) hx hb dX5_is_4 (by decide) ?_
  refine lv_icmp_ne (tgt := 20) hx hb dX5_is_5 (by decide) (fun c1 => ?_) (fun c1 => ?_)
  · have hf := if_f c1 hf
    refine lv_iconst (v := 0) hx hb dX5_is_20 (by decide) ?_
    cases hf
    exact q_zret C hP hS rfl (gb_nar (Or.inl rfl)) dX5_is_21
  · have hf := if_t c1 hf
    refine lv_aload_n hx hb dX5_is_8 rfl (lv_at hl 0 rfl) ?_
    refine q_get C hP wM_o rfl hiX5_is_X5 8 (by decide) wdX5_is_2 rfl dX5_is_9 ?_
    refine lv_iload_n hx hb dX5_is_12 rfl (lv_at hl 1 rfl) ?_
    refine lv_icmp_ne (tgt := 20) hx hb dX5_is_13 (by decide) (fun c2 => ?_) (fun c2 => ?_)
    · have hf := if_f c2 hf
      refine lv_iconst (v := 0) hx hb dX5_is_20 (by decide) ?_
      cases hf
      exact q_zret C hP hS rfl (gb_nar (Or.inl rfl)) dX5_is_21
    · have hf := if_t c2 hf
      refine lv_iconst (v := 1) hx hb dX5_is_16 (by decide) ?_
      refine lv_goto (tgt := 21) hx hb dX5_is_17 (by decide) ?_
      cases hf
      exact q_zret C hP hS rfl (gb_nar (Or.inr rfl)) dX5_is_21

-- X5_badAt
theorem hiX5_badAt_X5 : ∀ w ∈ u_ws RX5 TX5 42, w ∈ wsX5_badAt := mem_run (i := 2) (by decide +kernel)
theorem wdX5_badAt_1 : (Cond.fieldLink RX5 126 "CombinatorRingModel" "fault" "I") ∈ wsX5_badAt := List.mem_of_getElem? (i := 1) rfl
def m_badAt (st : OSt) (a1 : Int32) (a2 : Int32) : Option (Int32 × OSt) := if (st.1 10) = 0 then nm (sI st 10 ((8 * a1) + a2)) fun s3 => some (0, s3) else nm (sI st 10 (st.1 10)) fun s2 => some (0, s2)
abbrev rmX5_badAt : Room := { frames := 0, cells := 0, slots := 0, locals := 0 }
theorem hdX5_badAt : yX5_badAt.cls = RX5 ∧ yX5_badAt.cls ≠ "java/lang/invoke/MethodHandle" ∧ yX5_badAt.cls ≠ "java/lang/invoke/VarHandle" ∧ (parseMethodDescriptor yX5_badAt.desc).map (fun d => d.parameters.length) = some 2 := by decide +kernel
set_option maxHeartbeats 4000000 in
set_option maxRecDepth 100000 in
theorem c_X5_badAt {l : Launch} {G : Gx} {q : Nat → Nat} {st : OSt} {a1 : Int32} {a2 : Int32} {x : Int32 × OSt} (hf : m_badAt st a1 a2 = some x) : QM l G yX5_badAt wsX5_badAt rmX5_badAt [.ref (q 42), .int a1, .int a2] (wM G q st) (wM G q x.2) (some (.int x.1)) := by
  refine QM.of (cc := cX5_badAt) (maxL := 3) (ret := (some .boolean)) (by decide) rfl (Nat.le_of_ble_eq_true rfl) ?_
  intro p e s m below meth c A ls C hD hP hS hl
  have hx := C.1
  have hb := C.2.1
  have hl : lv_has ls 3 [(0, .ref (q 42)), (1, .int a1), (2, .int a2)] := hl
  unfold m_badAt at hf
  refine lv_aload_n hx hb dX5_badAt_0 rfl (lv_at hl 0 rfl) ?_
  refine lv_aload_n hx hb dX5_badAt_1 rfl (lv_at hl 0 rfl) ?_
  refine q_get C hP wM_o rfl hiX5_badAt_X5 10 (by decide) wdX5_badAt_1 rfl dX5_badAt_2 ?_
  refine lv_if_ne (tgt := 17) hx hb dX5_badAt_5 (by decide) (fun c1 => ?_) (fun c1 => ?_)
  · have hf := if_f c1 hf
    refine lv_aload_n hx hb dX5_badAt_17 rfl (lv_at hl 0 rfl) ?_
    refine q_get C hP wM_o rfl hiX5_badAt_X5 10 (by decide) wdX5_badAt_1 rfl dX5_badAt_18 ?_
    obtain ⟨s2, es2, hf⟩ := nm_ex hf
    refine q_put C hP (dd_M hD) hS wM_o rfl hiX5_badAt_X5 tyX5_ok nmX5 10 (by decide) wdX5_badAt_1 rfl rfl rfl (Nat.le_of_ble_eq_true rfl) wM_sI_10 dX5_badAt_21 (fun H locs hP hS => ?_)
    rw [es2] at hP
    refine lv_iconst (v := 0) hx hb dX5_badAt_24 (by decide) ?_
    cases hf
    exact q_zret C hP hS rfl (gb_nar (Or.inl rfl)) dX5_badAt_25
  · have hf := if_t c1 hf
    refine lv_bipush (v := 8) hx hb dX5_badAt_8 (by decide) ?_
    refine lv_iload_n hx hb dX5_badAt_10 rfl (lv_at hl 1 rfl) ?_
    refine lv_imul hx hb dX5_badAt_11 ?_
    refine lv_iload_n hx hb dX5_badAt_12 rfl (lv_at hl 2 rfl) ?_
    refine lv_iadd hx hb dX5_badAt_13 ?_
    refine lv_goto (tgt := 21) hx hb dX5_badAt_14 (by decide) ?_
    obtain ⟨s3, es3, hf⟩ := nm_ex hf
    refine q_put C hP (dd_M hD) hS wM_o rfl hiX5_badAt_X5 tyX5_ok nmX5 10 (by decide) wdX5_badAt_1 rfl rfl rfl (Nat.le_of_ble_eq_true rfl) wM_sI_10 dX5_badAt_21 (fun H locs hP hS => ?_)
    rw [es3] at hP
    refine lv_iconst (v := 0) hx hb dX5_badAt_24 (by decide) ?_
    cases hf
    exact q_zret C hP hS rfl (gb_nar (Or.inl rfl)) dX5_badAt_25

-- X5_bad
theorem hiX5_bad_X5 : ∀ w ∈ u_ws RX5 TX5 42, w ∈ wsX5_bad := mem_run (i := 8) (by decide +kernel)
theorem wdX5_bad_1 : (Cond.fieldLink RX5 109 "CombinatorRingModel" "from" "I") ∈ wsX5_bad := List.mem_of_getElem? (i := 1) rfl
def m_bad (st : OSt) (a1 : Int32) : Option (Int32 × OSt) := bd (m_badAt st (st.1 5) a1) fun x1 => gb x1.1 (some (x1.1, x1.2))
abbrev rmX5_bad : Room := { frames := 1, cells := 0, slots := 0, locals := 22 }
theorem hdX5_bad : yX5_bad.cls = RX5 ∧ yX5_bad.cls ≠ "java/lang/invoke/MethodHandle" ∧ yX5_bad.cls ≠ "java/lang/invoke/VarHandle" ∧ (parseMethodDescriptor yX5_bad.desc).map (fun d => d.parameters.length) = some 1 := by decide +kernel
set_option maxHeartbeats 4000000 in
set_option maxRecDepth 100000 in
theorem c_X5_bad {l : Launch} {G : Gx} {q : Nat → Nat} {st : OSt} {a1 : Int32} {x : Int32 × OSt} (hf : m_bad st a1 = some x) : QM l G yX5_bad wsX5_bad rmX5_bad [.ref (q 42), .int a1] (wM G q st) (wM G q x.2) (some (.int x.1)) := by
  refine QM.of (cc := cX5_bad) (maxL := 2) (ret := (some .boolean)) (by decide) rfl (Nat.le_of_ble_eq_true rfl) ?_
  intro p e s m below meth c A ls C hD hP hS hl
  have hx := C.1
  have hb := C.2.1
  have hl : lv_has ls 2 [(0, .ref (q 42)), (1, .int a1)] := hl
  unfold m_bad at hf
  refine lv_aload_n hx hb dX5_bad_0 rfl (lv_at hl 0 rfl) ?_
  refine lv_aload_n hx hb dX5_bad_1 rfl (lv_at hl 0 rfl) ?_
  refine q_get C hP wM_o rfl hiX5_bad_X5 5 (by decide) wdX5_bad_1 rfl dX5_bad_2 ?_
  refine lv_iload_n hx hb dX5_bad_5 rfl (lv_at hl 1 rfl) ?_
  obtain ⟨x1, hx1, hf⟩ := bd_some hf
  refine q_Vi C (rc := (RX5, TX5, 42)) (q0 := 0) (ci := 5) (ws' := wM G q x1.2) (wr := []) (c_X5_badAt hx1) gX5_bad_X5_badAt rfl ⟨rfl, rfl⟩ hdX5_badAt ⟨(Nat.le_of_ble_eq_true rfl), (Nat.le_of_ble_eq_true rfl)⟩ rfl hP (dd_M hD) hS rfl rfl (List.Perm.refl _) (List.Perm.refl _) hl.1 (Nat.le_of_ble_eq_true rfl) ⟨Nat.zero_le _, Nat.zero_le _⟩ rfl dX5_bad_6 (fun H locs hP hS => ?_)
  obtain ⟨hb9, hf⟩ := gb_some hf
  cases hf
  exact q_zret C hP hS rfl (gb_nar hb9) dX5_bad_9

-- X5_sign
def m_sign (st : OSt) (a1 : Int32) : Option (Int32 × OSt) := bd (m_is st a1) fun x1 => if x1 = 0 then bd (m_bad st 1) fun x4 => gb x4.1 (some (x4.1, x4.2)) else bd (m_go st) fun x3 => some (1, x3)
abbrev rmX5_sign : Room := { frames := 2, cells := 0, slots := 0, locals := 43 }
theorem hdX5_sign : yX5_sign.cls = RX5 ∧ yX5_sign.cls ≠ "java/lang/invoke/MethodHandle" ∧ yX5_sign.cls ≠ "java/lang/invoke/VarHandle" ∧ (parseMethodDescriptor yX5_sign.desc).map (fun d => d.parameters.length) = some 1 := by decide +kernel
set_option maxHeartbeats 4000000 in
set_option maxRecDepth 100000 in
theorem c_X5_sign {l : Launch} {G : Gx} {q : Nat → Nat} {st : OSt} {a1 : Int32} {x : Int32 × OSt} (hf : m_sign st a1 = some x) : QM l G yX5_sign wsX5_sign rmX5_sign [.ref (q 42), .int a1] (wM G q st) (wM G q x.2) (some (.int x.1)) := by
  refine QM.of (cc := cX5_sign) (maxL := 2) (ret := (some .boolean)) (by decide) rfl (Nat.le_of_ble_eq_true rfl) ?_
  intro p e s m below meth c A ls C hD hP hS hl
  have hx := C.1
  have hb := C.2.1
  have hl : lv_has ls 2 [(0, .ref (q 42)), (1, .int a1)] := hl
  unfold m_sign at hf
  refine lv_aload_n hx hb dX5_sign_0 rfl (lv_at hl 0 rfl) ?_
  refine lv_iload_n hx hb dX5_sign_1 rfl (lv_at hl 1 rfl) ?_
  obtain ⟨x1, hx1, hf⟩ := bd_some hf
  refine q_Vi C (rc := (RX5, TX5, 42)) (q0 := 0) (ci := 5) (ws' := wM G q st) (wr := []) (c_X5_is hx1) gX5_sign_X5_is rfl ⟨rfl, rfl⟩ hdX5_is ⟨(Nat.le_of_ble_eq_true rfl), (Nat.le_of_ble_eq_true rfl)⟩ rfl hP (dd_M hD) hS rfl rfl (List.Perm.refl _) (List.Perm.refl _) hl.1 (Nat.le_of_ble_eq_true rfl) ⟨Nat.zero_le _, Nat.zero_le _⟩ rfl dX5_sign_2 (fun H locs hP hS => ?_)
  refine lv_if_ne (tgt := 14) hx hb dX5_sign_5 (by decide) (fun c2 => ?_) (fun c2 => ?_)
  · have hf := if_f c2 hf
    refine lv_aload_n hx hb dX5_sign_14 rfl (lv_at hl 0 rfl) ?_
    obtain ⟨x3, hx3, hf⟩ := bd_some hf
    refine q_Vv C (rc := (RX5, TX5, 42)) (q0 := 0) (ci := 5) (ws' := wM G q x3) (wr := []) (c_X5_go hx3) gX5_sign_X5_go rfl ⟨rfl, rfl⟩ hdX5_go ⟨(Nat.le_of_ble_eq_true rfl), (Nat.le_of_ble_eq_true rfl)⟩ rfl hP (dd_M hD) hS rfl rfl (List.Perm.refl _) (List.Perm.refl _) hl.1 (Nat.le_of_ble_eq_true rfl) ⟨Nat.zero_le _, Nat.zero_le _⟩ rfl dX5_sign_15 (fun H locs hP hS => ?_)
    refine lv_iconst (v := 1) hx hb dX5_sign_18 (by decide) ?_
    cases hf
    exact q_zret C hP hS rfl (gb_nar (Or.inr rfl)) dX5_sign_19
  · have hf := if_t c2 hf
    refine lv_aload_n hx hb dX5_sign_8 rfl (lv_at hl 0 rfl) ?_
    refine lv_iconst (v := 1) hx hb dX5_sign_9 (by decide) ?_
    obtain ⟨x4, hx4, hf⟩ := bd_some hf
    refine q_Vi C (rc := (RX5, TX5, 42)) (q0 := 0) (ci := 5) (ws' := wM G q x4.2) (wr := []) (c_X5_bad hx4) gX5_sign_X5_bad rfl ⟨rfl, rfl⟩ hdX5_bad ⟨(Nat.le_of_ble_eq_true rfl), (Nat.le_of_ble_eq_true rfl)⟩ rfl hP (dd_M hD) hS rfl rfl (List.Perm.refl _) (List.Perm.refl _) hl.1 (Nat.le_of_ble_eq_true rfl) ⟨Nat.zero_le _, Nat.zero_le _⟩ rfl dX5_sign_10 (fun H locs hP hS => ?_)
    obtain ⟨hb9, hf⟩ := gb_some hf
    cases hf
    exact q_zret C hP hS rfl (gb_nar hb9) dX5_sign_13

-- X5_ties
theorem hiX5_ties_X5 : ∀ w ∈ u_ws RX5 TX5 42, w ∈ wsX5_ties := mem_run (i := 3) (by decide +kernel)
theorem wdX5_ties_2 : (Cond.fieldLink RX5 7 "CombinatorRingModel" "now" "[I") ∈ wsX5_ties := List.mem_of_getElem? (i := 2) rfl
theorem wdX5_ties_1 : (Cond.fieldLink RX5 27 "CombinatorRingModel" "wireLink" "[I") ∈ wsX5_ties := List.mem_of_getElem? (i := 1) rfl
def m_ties_32 (st : OSt) (v1 : Int32) (v2 : Int32) : Option (OSt) := if v2 < 1100 then gd (630 + v2) 1646 (nm (sA st 1 (upd (st.2 1) (630 + v2).toNatClampNeg v1)) fun s5 => some s5) else gd (v2 - 1100) 500 (nm (sA st 14 (upd (st.2 14) (v2 - 1100).toNatClampNeg v1)) fun s6 => some s6)
def m_ties (st : OSt) (a1 : Int32) (a2 : Int32) : Option (OSt) := if a1 < 1100 then gd (630 + a1) 1646 (nm (sA st 1 (upd (st.2 1) (630 + a1).toNatClampNeg a2)) fun s2 => m_ties_32 s2 a1 a2) else gd (a1 - 1100) 500 (nm (sA st 14 (upd (st.2 14) (a1 - 1100).toNatClampNeg a2)) fun s3 => m_ties_32 s3 a1 a2)
abbrev rmX5_ties : Room := { frames := 0, cells := 0, slots := 0, locals := 0 }
theorem hdX5_ties : yX5_ties.cls = RX5 ∧ yX5_ties.cls ≠ "java/lang/invoke/MethodHandle" ∧ yX5_ties.cls ≠ "java/lang/invoke/VarHandle" ∧ (parseMethodDescriptor yX5_ties.desc).map (fun d => d.parameters.length) = some 2 := by decide +kernel
set_option maxHeartbeats 4000000 in
set_option maxRecDepth 100000 in
theorem t_X5_ties_32 {p : Program} {l : Launch} {e : Env} {s : State} {m : MethodId} {args : Array Value} {below : List Frame} {meth : Method} {c : Code} {A : Nat → Prop} {G : Gx} {q : Nat → Nat} {st0 : OSt} (C : Cx p s m args meth c G cX5_ties wsX5_ties RX5 none 3 A) (hD : va_D A (wM G q st0)) :
    ∀ {st : OSt} {v1 : Int32} {v2 : Int32} {x : OSt}, m_ties_32 st v1 v2 = some x → ∀ {H : Heap} {locs : List Loc} {ls : Array Slot}, va_P G.1 vwCl (wM G q st) H → va_S A s.heap H locs → lv_has ls 3 [(0, .ref (q 42)), (1, .int v1), (2, .int v2)] → W p l e rmX5_ties s m args below meth c H locs 0 0 (MQ below (qE G A (wM G q x) none) args s 0 0 A) (F0 m 32 ls []) := by
  have hx := C.1
  have hb := C.2.1
  intro st v1 v2 x hf H locs ls hP hS hl
  unfold m_ties_32 at hf
  refine lv_iload_n hx hb dX5_ties_32 rfl (lv_at hl 2 rfl) ?_
  refine lv_sipush (v := 1100) hx hb dX5_ties_33 (by decide) ?_
  refine lv_icmp_lt (tgt := 53) hx hb dX5_ties_36 (by decide) (fun c4 => ?_) (fun c4 => ?_)
  · have hf := if_t c4 hf
    refine lv_aload_n hx hb dX5_ties_53 rfl (lv_at hl 0 rfl) ?_
    refine q_get C hP wM_o rfl hiX5_ties_X5 1 (by decide) wdX5_ties_2 rfl dX5_ties_54 ?_
    refine lv_sipush (v := 630) hx hb dX5_ties_57 (by decide) ?_
    refine lv_iload_n hx hb dX5_ties_60 rfl (lv_at hl 2 rfl) ?_
    refine lv_iadd hx hb dX5_ties_61 ?_
    refine lv_iload_n hx hb dX5_ties_62 rfl (lv_at hl 1 rfl) ?_
    obtain ⟨hin, hf⟩ := gd_some hf
    obtain ⟨s5, es5, hf⟩ := nm_ex hf
    refine q_iast C hP (dd_M hD) hS wM_a_1 rfl wM_sA_1 hin dX5_ties_63 (fun H locs hP hS => ?_)
    rw [es5] at hP
    cases hf
    exact q_vret C hP hS rfl dX5_ties_64
  · have hf := if_f c4 hf
    refine lv_aload_n hx hb dX5_ties_39 rfl (lv_at hl 0 rfl) ?_
    refine q_get C hP wM_o rfl hiX5_ties_X5 14 (by decide) wdX5_ties_1 rfl dX5_ties_40 ?_
    refine lv_iload_n hx hb dX5_ties_43 rfl (lv_at hl 2 rfl) ?_
    refine lv_sipush (v := 1100) hx hb dX5_ties_44 (by decide) ?_
    refine lv_isub hx hb dX5_ties_47 ?_
    refine lv_iload_n hx hb dX5_ties_48 rfl (lv_at hl 1 rfl) ?_
    obtain ⟨hin, hf⟩ := gd_some hf
    obtain ⟨s6, es6, hf⟩ := nm_ex hf
    refine q_iast C hP (dd_M hD) hS wM_a_14 rfl wM_sA_14 hin dX5_ties_49 (fun H locs hP hS => ?_)
    rw [es6] at hP
    refine lv_goto (tgt := 64) hx hb dX5_ties_50 (by decide) ?_
    cases hf
    exact q_vret C hP hS rfl dX5_ties_64
set_option maxHeartbeats 4000000 in
set_option maxRecDepth 100000 in
theorem c_X5_ties {l : Launch} {G : Gx} {q : Nat → Nat} {st : OSt} {a1 : Int32} {a2 : Int32} {x : OSt} (hf : m_ties st a1 a2 = some x) : QM l G yX5_ties wsX5_ties rmX5_ties [.ref (q 42), .int a1, .int a2] (wM G q st) (wM G q x) none := by
  refine QM.of (cc := cX5_ties) (maxL := 3) (ret := none) (by decide) rfl (Nat.le_of_ble_eq_true rfl) ?_
  intro p e s m below meth c A ls C hD hP hS hl
  have hx := C.1
  have hb := C.2.1
  have hl : lv_has ls 3 [(0, .ref (q 42)), (1, .int a1), (2, .int a2)] := hl
  unfold m_ties at hf
  refine lv_iload_n hx hb dX5_ties_0 rfl (lv_at hl 1 rfl) ?_
  refine lv_sipush (v := 1100) hx hb dX5_ties_1 (by decide) ?_
  refine lv_icmp_lt (tgt := 21) hx hb dX5_ties_4 (by decide) (fun c1 => ?_) (fun c1 => ?_)
  · have hf := if_t c1 hf
    refine lv_aload_n hx hb dX5_ties_21 rfl (lv_at hl 0 rfl) ?_
    refine q_get C hP wM_o rfl hiX5_ties_X5 1 (by decide) wdX5_ties_2 rfl dX5_ties_22 ?_
    refine lv_sipush (v := 630) hx hb dX5_ties_25 (by decide) ?_
    refine lv_iload_n hx hb dX5_ties_28 rfl (lv_at hl 1 rfl) ?_
    refine lv_iadd hx hb dX5_ties_29 ?_
    refine lv_iload_n hx hb dX5_ties_30 rfl (lv_at hl 2 rfl) ?_
    obtain ⟨hin, hf⟩ := gd_some hf
    obtain ⟨s2, es2, hf⟩ := nm_ex hf
    refine q_iast C hP (dd_M hD) hS wM_a_1 rfl wM_sA_1 hin dX5_ties_31 (fun H locs hP hS => ?_)
    rw [es2] at hP
    exact t_X5_ties_32 C hD hf hP hS (lv_sub hl [0, 1, 2] rfl)
  · have hf := if_f c1 hf
    refine lv_aload_n hx hb dX5_ties_7 rfl (lv_at hl 0 rfl) ?_
    refine q_get C hP wM_o rfl hiX5_ties_X5 14 (by decide) wdX5_ties_1 rfl dX5_ties_8 ?_
    refine lv_iload_n hx hb dX5_ties_11 rfl (lv_at hl 1 rfl) ?_
    refine lv_sipush (v := 1100) hx hb dX5_ties_12 (by decide) ?_
    refine lv_isub hx hb dX5_ties_15 ?_
    refine lv_iload_n hx hb dX5_ties_16 rfl (lv_at hl 2 rfl) ?_
    obtain ⟨hin, hf⟩ := gd_some hf
    obtain ⟨s3, es3, hf⟩ := nm_ex hf
    refine q_iast C hP (dd_M hD) hS wM_a_14 rfl wM_sA_14 hin dX5_ties_17 (fun H locs hP hS => ?_)
    rw [es3] at hP
    refine lv_goto (tgt := 32) hx hb dX5_ties_18 (by decide) ?_
    exact t_X5_ties_32 C hD hf hP hS (lv_sub hl [0, 1, 2] rfl)

-- X5_nameAt
theorem hiX5_nameAt_X5 : ∀ w ∈ u_ws RX5 TX5 42, w ∈ wsX5_nameAt := mem_run (i := 5) (by decide +kernel)
theorem wdX5_nameAt_1 : (Cond.fieldLink RX5 142 "CombinatorRingModel" "nameMany" "I") ∈ wsX5_nameAt := List.mem_of_getElem? (i := 1) rfl
theorem wdX5_nameAt_2 : (Cond.fieldLink RX5 21 "CombinatorRingModel" "names" "[I") ∈ wsX5_nameAt := List.mem_of_getElem? (i := 2) rfl
theorem wdX5_nameAt_3 : (Cond.fieldLink RX5 115 "CombinatorRingModel" "word" "I") ∈ wsX5_nameAt := List.mem_of_getElem? (i := 3) rfl
theorem wdX5_nameAt_4 : (Cond.fieldLink RX5 24 "CombinatorRingModel" "stood" "[I") ∈ wsX5_nameAt := List.mem_of_getElem? (i := 4) rfl
def m_nameAt_2 : Nat → OSt → Int32 → Option (Int32)
  | 0, _, _ => none
  | n + 1, st, v1 => if (st.1 11) ≤ v1 then some v1 else gd v1 250 (if (st.2 12 v1.toNatClampNeg) = (st.1 9) then some v1 else m_nameAt_2 n st (v1 + 1))
def m_nameAt_29 (st : OSt) (v1 : Int32) : Option (Int32 × OSt) := if v1 = (st.1 11) then gd v1 250 (nm (sA st 12 (upd (st.2 12) v1.toNatClampNeg (st.1 9))) fun s5 => gd v1 250 (nm (sA s5 13 (upd (s5.2 13) v1.toNatClampNeg 0)) fun s6 => nm (sI s6 11 ((s6.1 11) + 1)) fun s7 => some (v1, s7))) else some (v1, st)
def m_nameAt (st : OSt)  : Option (Int32 × OSt) := bd (m_nameAt_2 20000 st 0) fun x1 => m_nameAt_29 st x1
abbrev rmX5_nameAt : Room := { frames := 0, cells := 0, slots := 0, locals := 0 }
theorem hdX5_nameAt : yX5_nameAt.cls = RX5 ∧ yX5_nameAt.cls ≠ "java/lang/invoke/MethodHandle" ∧ yX5_nameAt.cls ≠ "java/lang/invoke/VarHandle" ∧ (parseMethodDescriptor yX5_nameAt.desc).map (fun d => d.parameters.length) = some 0 := by decide +kernel
set_option maxHeartbeats 4000000 in
set_option maxRecDepth 100000 in
theorem t_X5_nameAt_2 {p : Program} {l : Launch} {e : Env} {s : State} {m : MethodId} {args : Array Value} {below : List Frame} {meth : Method} {c : Code} {Q : State → Prop} {A : Nat → Prop} {G : Gx} {q : Nat → Nat} {st0 : OSt} (C : Cx p s m args meth c G cX5_nameAt wsX5_nameAt RX5 (some .int) 2 A) (hD : va_D A (wM G q st0)) :
    ∀ {n : Nat} {st : OSt} {v1 : Int32} {x : Int32}, m_nameAt_2 n st v1 = some x → ∀ {H : Heap} {locs : List Loc} {ls : Array Slot}, va_P G.1 vwCl (wM G q st) H → va_S A s.heap H locs → lv_has ls 2 [(0, .ref (q 42)), (1, .int v1)] → (∀ {H : Heap} {locs : List Loc} {ls : Array Slot}, va_P G.1 vwCl (wM G q st) H → va_S A s.heap H locs → lv_has ls 2 [(0, .ref (q 42)), (1, .int x)] → W p l e rmX5_nameAt s m args below meth c H locs 0 0 Q (F0 m 29 ls [])) → W p l e rmX5_nameAt s m args below meth c H locs 0 0 Q (F0 m 2 ls []) := by
  have hx := C.1
  have hb := C.2.1
  intro n
  induction n with
  | zero => intro st v1 x hf; cases hf
  | succ n ih =>
    intro st v1 x hf H locs ls hP hS hl kk
    rw [m_nameAt_2] at hf
    refine lv_iload_n hx hb dX5_nameAt_2 rfl (lv_at hl 1 rfl) ?_
    refine lv_aload_n hx hb dX5_nameAt_3 rfl (lv_at hl 0 rfl) ?_
    refine q_get C hP wM_o rfl hiX5_nameAt_X5 11 (by decide) wdX5_nameAt_1 rfl dX5_nameAt_4 ?_
    refine lv_icmp_ge (tgt := 29) hx hb dX5_nameAt_7 (by decide) (fun c2 => ?_) (fun c2 => ?_)
    · have hf := if_t c2 hf
      cases hf
      exact kk hP hS (lv_sub hl [0, 1] rfl)
    · have hf := if_f c2 hf
      refine lv_aload_n hx hb dX5_nameAt_10 rfl (lv_at hl 0 rfl) ?_
      refine q_get C hP wM_o rfl hiX5_nameAt_X5 12 (by decide) wdX5_nameAt_2 rfl dX5_nameAt_11 ?_
      refine lv_iload_n hx hb dX5_nameAt_14 rfl (lv_at hl 1 rfl) ?_
      obtain ⟨hin, hf⟩ := gd_some hf
      refine q_iald C hP wM_a_12 rfl hin dX5_nameAt_15 ?_
      refine lv_aload_n hx hb dX5_nameAt_16 rfl (lv_at hl 0 rfl) ?_
      refine q_get C hP wM_o rfl hiX5_nameAt_X5 9 (by decide) wdX5_nameAt_3 rfl dX5_nameAt_17 ?_
      refine lv_icmp_eq (tgt := 29) hx hb dX5_nameAt_20 (by decide) (fun c3 => ?_) (fun c3 => ?_)
      · have hf := if_t c3 hf
        cases hf
        exact kk hP hS (lv_sub hl [0, 1] rfl)
      · have hf := if_f c3 hf
        refine lv_iinc (v := (v1 + 1)) (lv' := [(1, .int (v1 + 1)), (0, .ref (q 42))]) hx hb dX5_nameAt_23 hl (k := 1) rfl rfl (by decide) rfl (fun ls hl => ?_)
        refine lv_goto (tgt := 2) hx hb dX5_nameAt_26 (by decide) ?_
        exact ih hf hP hS (lv_sub hl [1, 0] rfl) kk
set_option maxHeartbeats 4000000 in
set_option maxRecDepth 100000 in
theorem t_X5_nameAt_29 {p : Program} {l : Launch} {e : Env} {s : State} {m : MethodId} {args : Array Value} {below : List Frame} {meth : Method} {c : Code} {A : Nat → Prop} {G : Gx} {q : Nat → Nat} {st0 : OSt} (C : Cx p s m args meth c G cX5_nameAt wsX5_nameAt RX5 (some .int) 2 A) (hD : va_D A (wM G q st0)) :
    ∀ {st : OSt} {v1 : Int32} {x : Int32 × OSt}, m_nameAt_29 st v1 = some x → ∀ {H : Heap} {locs : List Loc} {ls : Array Slot}, va_P G.1 vwCl (wM G q st) H → va_S A s.heap H locs → lv_has ls 2 [(0, .ref (q 42)), (1, .int v1)] → W p l e rmX5_nameAt s m args below meth c H locs 0 0 (MQ below (qE G A (wM G q x.2) (some (.int x.1))) args s 0 0 A) (F0 m 29 ls []) := by
  have hx := C.1
  have hb := C.2.1
  intro st v1 x hf H locs ls hP hS hl
  unfold m_nameAt_29 at hf
  refine lv_iload_n hx hb dX5_nameAt_29 rfl (lv_at hl 1 rfl) ?_
  refine lv_aload_n hx hb dX5_nameAt_30 rfl (lv_at hl 0 rfl) ?_
  refine q_get C hP wM_o rfl hiX5_nameAt_X5 11 (by decide) wdX5_nameAt_1 rfl dX5_nameAt_31 ?_
  refine lv_icmp_ne (tgt := 64) hx hb dX5_nameAt_34 (by decide) (fun c4 => ?_) (fun c4 => ?_)
  · have hf := if_f c4 hf
    refine lv_iload_n hx hb dX5_nameAt_64 rfl (lv_at hl 1 rfl) ?_
    cases hf
    exact q_iret C hP hS rfl dX5_nameAt_65
  · have hf := if_t c4 hf
    refine lv_aload_n hx hb dX5_nameAt_37 rfl (lv_at hl 0 rfl) ?_
    refine q_get C hP wM_o rfl hiX5_nameAt_X5 12 (by decide) wdX5_nameAt_2 rfl dX5_nameAt_38 ?_
    refine lv_iload_n hx hb dX5_nameAt_41 rfl (lv_at hl 1 rfl) ?_
    refine lv_aload_n hx hb dX5_nameAt_42 rfl (lv_at hl 0 rfl) ?_
    refine q_get C hP wM_o rfl hiX5_nameAt_X5 9 (by decide) wdX5_nameAt_3 rfl dX5_nameAt_43 ?_
    obtain ⟨hin, hf⟩ := gd_some hf
    obtain ⟨s5, es5, hf⟩ := nm_ex hf
    refine q_iast C hP (dd_M hD) hS wM_a_12 rfl wM_sA_12 hin dX5_nameAt_46 (fun H locs hP hS => ?_)
    rw [es5] at hP
    refine lv_aload_n hx hb dX5_nameAt_47 rfl (lv_at hl 0 rfl) ?_
    refine q_get C hP wM_o rfl hiX5_nameAt_X5 13 (by decide) wdX5_nameAt_4 rfl dX5_nameAt_48 ?_
    refine lv_iload_n hx hb dX5_nameAt_51 rfl (lv_at hl 1 rfl) ?_
    refine lv_iconst (v := 0) hx hb dX5_nameAt_52 (by decide) ?_
    obtain ⟨hin, hf⟩ := gd_some hf
    obtain ⟨s6, es6, hf⟩ := nm_ex hf
    refine q_iast C hP (dd_M hD) hS wM_a_13 rfl wM_sA_13 hin dX5_nameAt_53 (fun H locs hP hS => ?_)
    rw [es6] at hP
    refine lv_aload_n hx hb dX5_nameAt_54 rfl (lv_at hl 0 rfl) ?_
    refine lv_dup hx hb dX5_nameAt_55 rfl ?_
    refine q_get C hP wM_o rfl hiX5_nameAt_X5 11 (by decide) wdX5_nameAt_1 rfl dX5_nameAt_56 ?_
    refine lv_iconst (v := 1) hx hb dX5_nameAt_59 (by decide) ?_
    refine lv_iadd hx hb dX5_nameAt_60 ?_
    obtain ⟨s7, es7, hf⟩ := nm_ex hf
    refine q_put C hP (dd_M hD) hS wM_o rfl hiX5_nameAt_X5 tyX5_ok nmX5 11 (by decide) wdX5_nameAt_1 rfl rfl rfl (Nat.le_of_ble_eq_true rfl) wM_sI_11 dX5_nameAt_61 (fun H locs hP hS => ?_)
    rw [es7] at hP
    refine lv_iload_n hx hb dX5_nameAt_64 rfl (lv_at hl 1 rfl) ?_
    cases hf
    exact q_iret C hP hS rfl dX5_nameAt_65
set_option maxHeartbeats 4000000 in
set_option maxRecDepth 100000 in
theorem c_X5_nameAt {l : Launch} {G : Gx} {q : Nat → Nat} {st : OSt}  {x : Int32 × OSt} (hf : m_nameAt st = some x) : QM l G yX5_nameAt wsX5_nameAt rmX5_nameAt [.ref (q 42)] (wM G q st) (wM G q x.2) (some (.int x.1)) := by
  refine QM.of (cc := cX5_nameAt) (maxL := 2) (ret := (some .int)) (by decide) rfl (Nat.le_of_ble_eq_true rfl) ?_
  intro p e s m below meth c A ls C hD hP hS hl
  have hx := C.1
  have hb := C.2.1
  have hl : lv_has ls 2 [(0, .ref (q 42))] := hl
  unfold m_nameAt at hf
  refine lv_iconst (v := 0) hx hb dX5_nameAt_0 (by decide) ?_
  refine lv_istore_n (lv' := [(1, .int 0), (0, .ref (q 42))]) hx hb dX5_nameAt_1 rfl hl (by decide) rfl (fun ls hl => ?_)
  obtain ⟨x1, hx1, hf⟩ := bd_some hf
  refine t_X5_nameAt_2 C hD hx1 hP hS (lv_sub hl [1, 0] rfl) (fun {H locs ls} hP hS hl => ?_)
  exact t_X5_nameAt_29 C hD hf hP hS (lv_sub hl [0, 1] rfl)

-- X5_name
theorem hiX5_name_X5 : ∀ w ∈ u_ws RX5 TX5 42, w ∈ wsX5_name := mem_run (i := 41) (by decide +kernel)
theorem wdX5_name_1 : (Cond.fieldLink RX5 24 "CombinatorRingModel" "stood" "[I") ∈ wsX5_name := List.mem_of_getElem? (i := 1) rfl
theorem wdX5_name_2 : (Cond.fieldLink RX5 149 "CombinatorRingModel" "end" "I") ∈ wsX5_name := List.mem_of_getElem? (i := 2) rfl
def m_name (st : OSt)  : Option (Int32 × OSt) := bd (m_nameAt st) fun x1 => gd x1.1 250 (if (x1.2.2 13 x1.1.toNatClampNeg) = 2 then bd (m_bad x1.2 2) fun x6 => gb x6.1 (some (x6.1, x6.2)) else gd x1.1 250 (nm (sI x1.2 16 ((1100 + (2 * x1.1)) + (x1.2.2 13 x1.1.toNatClampNeg))) fun s3 => gd x1.1 250 (gd x1.1 250 (nm (sA s3 13 (upd (s3.2 13) x1.1.toNatClampNeg ((s3.2 13 x1.1.toNatClampNeg) + 1))) fun s4 => bd (m_go s4) fun x5 => some (1, x5)))))
abbrev rmX5_name : Room := { frames := 2, cells := 0, slots := 0, locals := 43 }
theorem hdX5_name : yX5_name.cls = RX5 ∧ yX5_name.cls ≠ "java/lang/invoke/MethodHandle" ∧ yX5_name.cls ≠ "java/lang/invoke/VarHandle" ∧ (parseMethodDescriptor yX5_name.desc).map (fun d => d.parameters.length) = some 0 := by decide +kernel
set_option maxHeartbeats 4000000 in
set_option maxRecDepth 100000 in
theorem c_X5_name {l : Launch} {G : Gx} {q : Nat → Nat} {st : OSt}  {x : Int32 × OSt} (hf : m_name st = some x) : QM l G yX5_name wsX5_name rmX5_name [.ref (q 42)] (wM G q st) (wM G q x.2) (some (.int x.1)) := by
  refine QM.of (cc := cX5_name) (maxL := 2) (ret := (some .boolean)) (by decide) rfl (Nat.le_of_ble_eq_true rfl) ?_
  intro p e s m below meth c A ls C hD hP hS hl
  have hx := C.1
  have hb := C.2.1
  have hl : lv_has ls 2 [(0, .ref (q 42))] := hl
  unfold m_name at hf
  refine lv_aload_n hx hb dX5_name_0 rfl (lv_at hl 0 rfl) ?_
  obtain ⟨x1, hx1, hf⟩ := bd_some hf
  refine q_Vi C (rc := (RX5, TX5, 42)) (q0 := 0) (ci := 5) (ws' := wM G q x1.2) (wr := []) (c_X5_nameAt hx1) gX5_name_X5_nameAt rfl ⟨rfl, rfl⟩ hdX5_nameAt ⟨(Nat.le_of_ble_eq_true rfl), (Nat.le_of_ble_eq_true rfl)⟩ rfl hP (dd_M hD) hS rfl rfl (List.Perm.refl _) (List.Perm.refl _) hl.1 (Nat.le_of_ble_eq_true rfl) ⟨Nat.zero_le _, Nat.zero_le _⟩ rfl dX5_name_1 (fun H locs hP hS => ?_)
  refine lv_istore_n (lv' := [(1, .int x1.1), (0, .ref (q 42))]) hx hb dX5_name_4 rfl hl (by decide) rfl (fun ls hl => ?_)
  refine lv_aload_n hx hb dX5_name_5 rfl (lv_at hl 1 rfl) ?_
  refine q_get C hP wM_o rfl hiX5_name_X5 13 (by decide) wdX5_name_1 rfl dX5_name_6 ?_
  refine lv_iload_n hx hb dX5_name_9 rfl (lv_at hl 0 rfl) ?_
  obtain ⟨hin, hf⟩ := gd_some hf
  refine q_iald C hP wM_a_13 rfl hin dX5_name_10 ?_
  refine lv_iconst (v := 2) hx hb dX5_name_11 (by decide) ?_
  refine lv_icmp_ne (tgt := 21) hx hb dX5_name_12 (by decide) (fun c2 => ?_) (fun c2 => ?_)
  · have hf := if_f c2 hf
    refine lv_aload_n hx hb dX5_name_21 rfl (lv_at hl 1 rfl) ?_
    refine lv_sipush (v := 1100) hx hb dX5_name_22 (by decide) ?_
    refine lv_iconst (v := 2) hx hb dX5_name_25 (by decide) ?_
    refine lv_iload_n hx hb dX5_name_26 rfl (lv_at hl 0 rfl) ?_
    refine lv_imul hx hb dX5_name_27 ?_
    refine lv_iadd hx hb dX5_name_28 ?_
    refine lv_aload_n hx hb dX5_name_29 rfl (lv_at hl 1 rfl) ?_
    refine q_get C hP wM_o rfl hiX5_name_X5 13 (by decide) wdX5_name_1 rfl dX5_name_30 ?_
    refine lv_iload_n hx hb dX5_name_33 rfl (lv_at hl 0 rfl) ?_
    obtain ⟨hin, hf⟩ := gd_some hf
    refine q_iald C hP wM_a_13 rfl hin dX5_name_34 ?_
    refine lv_iadd hx hb dX5_name_35 ?_
    obtain ⟨s3, es3, hf⟩ := nm_ex hf
    refine q_put C hP (dd_M hD) hS wM_o rfl hiX5_name_X5 tyX5_ok nmX5 16 (by decide) wdX5_name_2 rfl rfl rfl (Nat.le_of_ble_eq_true rfl) wM_sI_16 dX5_name_36 (fun H locs hP hS => ?_)
    rw [es3] at hP
    refine lv_aload_n hx hb dX5_name_39 rfl (lv_at hl 1 rfl) ?_
    refine q_get C hP wM_o rfl hiX5_name_X5 13 (by decide) wdX5_name_1 rfl dX5_name_40 ?_
    refine lv_iload_n hx hb dX5_name_43 rfl (lv_at hl 0 rfl) ?_
    refine lv_dup2_11 hx hb dX5_name_44 rfl rfl ?_
    obtain ⟨hin, hf⟩ := gd_some hf
    refine q_iald C hP wM_a_13 rfl hin dX5_name_45 ?_
    refine lv_iconst (v := 1) hx hb dX5_name_46 (by decide) ?_
    refine lv_iadd hx hb dX5_name_47 ?_
    obtain ⟨hin, hf⟩ := gd_some hf
    obtain ⟨s4, es4, hf⟩ := nm_ex hf
    refine q_iast C hP (dd_M hD) hS wM_a_13 rfl wM_sA_13 hin dX5_name_48 (fun H locs hP hS => ?_)
    rw [es4] at hP
    refine lv_aload_n hx hb dX5_name_49 rfl (lv_at hl 1 rfl) ?_
    obtain ⟨x5, hx5, hf⟩ := bd_some hf
    refine q_Vv C (rc := (RX5, TX5, 42)) (q0 := 0) (ci := 5) (ws' := wM G q x5) (wr := []) (c_X5_go hx5) gX5_name_X5_go rfl ⟨rfl, rfl⟩ hdX5_go ⟨(Nat.le_of_ble_eq_true rfl), (Nat.le_of_ble_eq_true rfl)⟩ rfl hP (dd_M hD) hS rfl rfl (List.Perm.refl _) (List.Perm.refl _) hl.1 (Nat.le_of_ble_eq_true rfl) ⟨Nat.zero_le _, Nat.zero_le _⟩ rfl dX5_name_50 (fun H locs hP hS => ?_)
    refine lv_iconst (v := 1) hx hb dX5_name_53 (by decide) ?_
    cases hf
    exact q_zret C hP hS rfl (gb_nar (Or.inr rfl)) dX5_name_54
  · have hf := if_t c2 hf
    refine lv_aload_n hx hb dX5_name_15 rfl (lv_at hl 1 rfl) ?_
    refine lv_iconst (v := 2) hx hb dX5_name_16 (by decide) ?_
    obtain ⟨x6, hx6, hf⟩ := bd_some hf
    refine q_Vi C (rc := (RX5, TX5, 42)) (q0 := 0) (ci := 5) (ws' := wM G q x6.2) (wr := []) (c_X5_bad hx6) gX5_name_X5_bad rfl ⟨rfl, rfl⟩ hdX5_bad ⟨(Nat.le_of_ble_eq_true rfl), (Nat.le_of_ble_eq_true rfl)⟩ rfl hP (dd_M hD) hS rfl rfl (List.Perm.refl _) (List.Perm.refl _) hl.1 (Nat.le_of_ble_eq_true rfl) ⟨Nat.zero_le _, Nat.zero_le _⟩ rfl dX5_name_17 (fun H locs hP hS => ?_)
    obtain ⟨hb9, hf⟩ := gb_some hf
    cases hf
    exact q_zret C hP hS rfl (gb_nar hb9) dX5_name_20

-- X5_eraser
theorem hiX5_eraser_X5 : ∀ w ∈ u_ws RX5 TX5 42, w ∈ wsX5_eraser := mem_run (i := 43) (by decide +kernel)
theorem wdX5_eraser_1 : (Cond.fieldLink RX5 149 "CombinatorRingModel" "end" "I") ∈ wsX5_eraser := List.mem_of_getElem? (i := 1) rfl
def m_eraser (st : OSt)  : Option (Int32 × OSt) := bd (m_hasRoom st 1) fun x1 => if x1 = 0 then bd (m_bad st 5) fun x6 => gb x6.1 (some (x6.1, x6.2)) else bd (m_makes st 0) fun x3 => nm (sI x3.2 16 (3 * x3.1)) fun s4 => bd (m_go s4) fun x5 => some (1, x5)
abbrev rmX5_eraser : Room := { frames := 2, cells := 0, slots := 0, locals := 43 }
theorem hdX5_eraser : yX5_eraser.cls = RX5 ∧ yX5_eraser.cls ≠ "java/lang/invoke/MethodHandle" ∧ yX5_eraser.cls ≠ "java/lang/invoke/VarHandle" ∧ (parseMethodDescriptor yX5_eraser.desc).map (fun d => d.parameters.length) = some 0 := by decide +kernel
set_option maxHeartbeats 4000000 in
set_option maxRecDepth 100000 in
theorem c_X5_eraser {l : Launch} {G : Gx} {q : Nat → Nat} {st : OSt}  {x : Int32 × OSt} (hf : m_eraser st = some x) : QM l G yX5_eraser wsX5_eraser rmX5_eraser [.ref (q 42)] (wM G q st) (wM G q x.2) (some (.int x.1)) := by
  refine QM.of (cc := cX5_eraser) (maxL := 1) (ret := (some .boolean)) (by decide) rfl (Nat.le_of_ble_eq_true rfl) ?_
  intro p e s m below meth c A ls C hD hP hS hl
  have hx := C.1
  have hb := C.2.1
  have hl : lv_has ls 1 [(0, .ref (q 42))] := hl
  unfold m_eraser at hf
  refine lv_aload_n hx hb dX5_eraser_0 rfl (lv_at hl 0 rfl) ?_
  refine lv_iconst (v := 1) hx hb dX5_eraser_1 (by decide) ?_
  obtain ⟨x1, hx1, hf⟩ := bd_some hf
  refine q_Vi C (rc := (RX5, TX5, 42)) (q0 := 0) (ci := 5) (ws' := wM G q st) (wr := []) (c_X5_hasRoom hx1) gX5_eraser_X5_hasRoom rfl ⟨rfl, rfl⟩ hdX5_hasRoom ⟨(Nat.le_of_ble_eq_true rfl), (Nat.le_of_ble_eq_true rfl)⟩ rfl hP (dd_M hD) hS rfl rfl (List.Perm.refl _) (List.Perm.refl _) hl.1 (Nat.le_of_ble_eq_true rfl) ⟨Nat.zero_le _, Nat.zero_le _⟩ rfl dX5_eraser_2 (fun H locs hP hS => ?_)
  refine lv_if_ne (tgt := 14) hx hb dX5_eraser_5 (by decide) (fun c2 => ?_) (fun c2 => ?_)
  · have hf := if_f c2 hf
    refine lv_aload_n hx hb dX5_eraser_14 rfl (lv_at hl 0 rfl) ?_
    refine lv_iconst (v := 3) hx hb dX5_eraser_15 (by decide) ?_
    refine lv_aload_n hx hb dX5_eraser_16 rfl (lv_at hl 0 rfl) ?_
    refine lv_iconst (v := 0) hx hb dX5_eraser_17 (by decide) ?_
    obtain ⟨x3, hx3, hf⟩ := bd_some hf
    refine q_Vi C (rc := (RX5, TX5, 42)) (q0 := 0) (ci := 5) (ws' := wM G q x3.2) (wr := []) (c_X5_makes hx3) gX5_eraser_X5_makes rfl ⟨rfl, rfl⟩ hdX5_makes ⟨(Nat.le_of_ble_eq_true rfl), (Nat.le_of_ble_eq_true rfl)⟩ rfl hP (dd_M hD) hS rfl rfl (List.Perm.refl _) (List.Perm.refl _) hl.1 (Nat.le_of_ble_eq_true rfl) ⟨Nat.zero_le _, Nat.zero_le _⟩ rfl dX5_eraser_18 (fun H locs hP hS => ?_)
    refine lv_imul hx hb dX5_eraser_21 ?_
    obtain ⟨s4, es4, hf⟩ := nm_ex hf
    refine q_put C hP (dd_M hD) hS wM_o rfl hiX5_eraser_X5 tyX5_ok nmX5 16 (by decide) wdX5_eraser_1 rfl rfl rfl (Nat.le_of_ble_eq_true rfl) wM_sI_16 dX5_eraser_22 (fun H locs hP hS => ?_)
    rw [es4] at hP
    refine lv_aload_n hx hb dX5_eraser_25 rfl (lv_at hl 0 rfl) ?_
    obtain ⟨x5, hx5, hf⟩ := bd_some hf
    refine q_Vv C (rc := (RX5, TX5, 42)) (q0 := 0) (ci := 5) (ws' := wM G q x5) (wr := []) (c_X5_go hx5) gX5_eraser_X5_go rfl ⟨rfl, rfl⟩ hdX5_go ⟨(Nat.le_of_ble_eq_true rfl), (Nat.le_of_ble_eq_true rfl)⟩ rfl hP (dd_M hD) hS rfl rfl (List.Perm.refl _) (List.Perm.refl _) hl.1 (Nat.le_of_ble_eq_true rfl) ⟨Nat.zero_le _, Nat.zero_le _⟩ rfl dX5_eraser_26 (fun H locs hP hS => ?_)
    refine lv_iconst (v := 1) hx hb dX5_eraser_29 (by decide) ?_
    cases hf
    exact q_zret C hP hS rfl (gb_nar (Or.inr rfl)) dX5_eraser_30
  · have hf := if_t c2 hf
    refine lv_aload_n hx hb dX5_eraser_8 rfl (lv_at hl 0 rfl) ?_
    refine lv_iconst (v := 5) hx hb dX5_eraser_9 (by decide) ?_
    obtain ⟨x6, hx6, hf⟩ := bd_some hf
    refine q_Vi C (rc := (RX5, TX5, 42)) (q0 := 0) (ci := 5) (ws' := wM G q x6.2) (wr := []) (c_X5_bad hx6) gX5_eraser_X5_bad rfl ⟨rfl, rfl⟩ hdX5_bad ⟨(Nat.le_of_ble_eq_true rfl), (Nat.le_of_ble_eq_true rfl)⟩ rfl hP (dd_M hD) hS rfl rfl (List.Perm.refl _) (List.Perm.refl _) hl.1 (Nat.le_of_ble_eq_true rfl) ⟨Nat.zero_le _, Nat.zero_le _⟩ rfl dX5_eraser_10 (fun H locs hP hS => ?_)
    obtain ⟨hb9, hf⟩ := gb_some hf
    cases hf
    exact q_zret C hP hS rfl (gb_nar hb9) dX5_eraser_13

-- X5_makesNumber
def m_makesNumber_7 : Nat → OSt → Int32 → Int32 → Int32 → Option (OSt × Int32 × Int32)
  | 0, _, _, _, _ => none
  | n + 1, st, v2, v3, v4 => if v4 ≤ 0 then some (st, v2, v3) else bd (m_makes st 1) fun x6 => bd (m_makes x6.2 0) fun x7 => bd (m_links x7.2 ((3 * x6.1) + 1) (3 * x7.1)) fun x8 => if v2 = (-1) then m_makesNumber_7 n x8 ((3 * x6.1) + 2) (3 * x6.1) (v4 + (-1)) else bd (m_links x8 v2 (3 * x6.1)) fun x10 => m_makesNumber_7 n x10 ((3 * x6.1) + 2) v3 (v4 + (-1))
def m_makesNumber (st : OSt) (a1 : Int32) : Option (Int32 × OSt) := bd (m_makesNumber_7 20000 st (-1) (-1) a1) fun x1 => bd (m_makes x1.1 0) fun x2 => if x1.2.1 = (-1) then some ((3 * x2.1), x2.2) else bd (m_links x2.2 x1.2.1 (3 * x2.1)) fun x4 => some (x1.2.2, x4)
abbrev rmX5_makesNumber : Room := { frames := 1, cells := 0, slots := 0, locals := 22 }
theorem hdX5_makesNumber : yX5_makesNumber.cls = RX5 ∧ yX5_makesNumber.cls ≠ "java/lang/invoke/MethodHandle" ∧ yX5_makesNumber.cls ≠ "java/lang/invoke/VarHandle" ∧ (parseMethodDescriptor yX5_makesNumber.desc).map (fun d => d.parameters.length) = some 1 := by decide +kernel
set_option maxHeartbeats 4000000 in
set_option maxRecDepth 100000 in
theorem t_X5_makesNumber_7 {p : Program} {l : Launch} {e : Env} {s : State} {m : MethodId} {args : Array Value} {below : List Frame} {meth : Method} {c : Code} {Q : State → Prop} {A : Nat → Prop} {G : Gx} {q : Nat → Nat} {st0 : OSt} (C : Cx p s m args meth c G cX5_makesNumber wsX5_makesNumber RX5 (some .int) 7 A) (hD : va_D A (wM G q st0)) :
    ∀ {n : Nat} {st : OSt} {v2 : Int32} {v3 : Int32} {v4 : Int32} {x : OSt × Int32 × Int32}, m_makesNumber_7 n st v2 v3 v4 = some x → ∀ {H : Heap} {locs : List Loc} {ls : Array Slot}, va_P G.1 vwCl (wM G q st) H → va_S A s.heap H locs → lv_has ls 7 [(0, .ref (q 42)), (2, .int v2), (3, .int v3), (4, .int v4)] → (∀ {H : Heap} {locs : List Loc} {ls : Array Slot}, va_P G.1 vwCl (wM G q x.1) H → va_S A s.heap H locs → lv_has ls 7 [(0, .ref (q 42)), (2, .int x.2.1), (3, .int x.2.2)] → W p l e rmX5_makesNumber s m args below meth c H locs 0 0 Q (F0 m 75 ls [])) → W p l e rmX5_makesNumber s m args below meth c H locs 0 0 Q (F0 m 7 ls []) := by
  have hx := C.1
  have hb := C.2.1
  intro n
  induction n with
  | zero => intro st v2 v3 v4 x hf; cases hf
  | succ n ih =>
    intro st v2 v3 v4 x hf H locs ls hP hS hl kk
    rw [m_makesNumber_7] at hf
    refine lv_iload hx hb dX5_makesNumber_7 (lv_at hl 3 rfl) ?_
    refine lv_if_le (tgt := 75) hx hb dX5_makesNumber_9 (by decide) (fun c5 => ?_) (fun c5 => ?_)
    · have hf := if_t c5 hf
      cases hf
      exact kk hP hS (lv_sub hl [0, 1, 2] rfl)
    · have hf := if_f c5 hf
      refine lv_aload_n hx hb dX5_makesNumber_12 rfl (lv_at hl 0 rfl) ?_
      refine lv_iconst (v := 1) hx hb dX5_makesNumber_13 (by decide) ?_
      obtain ⟨x6, hx6, hf⟩ := bd_some hf
      refine q_Vi C (rc := (RX5, TX5, 42)) (q0 := 0) (ci := 5) (ws' := wM G q x6.2) (wr := []) (c_X5_makes hx6) gX5_makesNumber_X5_makes rfl ⟨rfl, rfl⟩ hdX5_makes ⟨(Nat.le_of_ble_eq_true rfl), (Nat.le_of_ble_eq_true rfl)⟩ rfl hP (dd_M hD) hS rfl rfl (List.Perm.refl _) (List.Perm.refl _) hl.1 (Nat.le_of_ble_eq_true rfl) ⟨Nat.zero_le _, Nat.zero_le _⟩ rfl dX5_makesNumber_14 (fun H locs hP hS => ?_)
      refine lv_istore (lv' := [(5, .int x6.1), (0, .ref (q 42)), (2, .int v2), (3, .int v3), (4, .int v4)]) hx hb dX5_makesNumber_17 hl (by decide) rfl (fun ls hl => ?_)
      refine lv_aload_n hx hb dX5_makesNumber_19 rfl (lv_at hl 1 rfl) ?_
      refine lv_iconst (v := 0) hx hb dX5_makesNumber_20 (by decide) ?_
      obtain ⟨x7, hx7, hf⟩ := bd_some hf
      refine q_Vi C (rc := (RX5, TX5, 42)) (q0 := 0) (ci := 5) (ws' := wM G q x7.2) (wr := []) (c_X5_makes hx7) gX5_makesNumber_X5_makes rfl ⟨rfl, rfl⟩ hdX5_makes ⟨(Nat.le_of_ble_eq_true rfl), (Nat.le_of_ble_eq_true rfl)⟩ rfl hP (dd_M hD) hS rfl rfl (List.Perm.refl _) (List.Perm.refl _) hl.1 (Nat.le_of_ble_eq_true rfl) ⟨Nat.zero_le _, Nat.zero_le _⟩ rfl dX5_makesNumber_21 (fun H locs hP hS => ?_)
      refine lv_istore (lv' := [(6, .int x7.1), (5, .int x6.1), (0, .ref (q 42)), (2, .int v2), (3, .int v3), (4, .int v4)]) hx hb dX5_makesNumber_24 hl (by decide) rfl (fun ls hl => ?_)
      refine lv_aload_n hx hb dX5_makesNumber_26 rfl (lv_at hl 2 rfl) ?_
      refine lv_iconst (v := 3) hx hb dX5_makesNumber_27 (by decide) ?_
      refine lv_iload hx hb dX5_makesNumber_28 (lv_at hl 1 rfl) ?_
      refine lv_imul hx hb dX5_makesNumber_30 ?_
      refine lv_iconst (v := 1) hx hb dX5_makesNumber_31 (by decide) ?_
      refine lv_iadd hx hb dX5_makesNumber_32 ?_
      refine lv_iconst (v := 3) hx hb dX5_makesNumber_33 (by decide) ?_
      refine lv_iload hx hb dX5_makesNumber_34 (lv_at hl 0 rfl) ?_
      refine lv_imul hx hb dX5_makesNumber_36 ?_
      obtain ⟨x8, hx8, hf⟩ := bd_some hf
      refine q_Vv C (rc := (RX5, TX5, 42)) (q0 := 0) (ci := 5) (ws' := wM G q x8) (wr := []) (c_X5_links hx8) gX5_makesNumber_X5_links rfl ⟨rfl, rfl⟩ hdX5_links ⟨(Nat.le_of_ble_eq_true rfl), (Nat.le_of_ble_eq_true rfl)⟩ rfl hP (dd_M hD) hS rfl rfl (List.Perm.refl _) (List.Perm.refl _) hl.1 (Nat.le_of_ble_eq_true rfl) ⟨Nat.zero_le _, Nat.zero_le _⟩ rfl dX5_makesNumber_37 (fun H locs hP hS => ?_)
      refine lv_iload_n hx hb dX5_makesNumber_40 rfl (lv_at hl 3 rfl) ?_
      refine lv_iconst (v := (-1)) hx hb dX5_makesNumber_41 (by decide) ?_
      refine lv_icmp_ne (tgt := 53) hx hb dX5_makesNumber_42 (by decide) (fun c9 => ?_) (fun c9 => ?_)
      · have hf := if_f c9 hf
        refine lv_aload_n hx hb dX5_makesNumber_53 rfl (lv_at hl 2 rfl) ?_
        refine lv_iload_n hx hb dX5_makesNumber_54 rfl (lv_at hl 3 rfl) ?_
        refine lv_iconst (v := 3) hx hb dX5_makesNumber_55 (by decide) ?_
        refine lv_iload hx hb dX5_makesNumber_56 (lv_at hl 1 rfl) ?_
        refine lv_imul hx hb dX5_makesNumber_58 ?_
        obtain ⟨x10, hx10, hf⟩ := bd_some hf
        refine q_Vv C (rc := (RX5, TX5, 42)) (q0 := 0) (ci := 5) (ws' := wM G q x10) (wr := []) (c_X5_links hx10) gX5_makesNumber_X5_links rfl ⟨rfl, rfl⟩ hdX5_links ⟨(Nat.le_of_ble_eq_true rfl), (Nat.le_of_ble_eq_true rfl)⟩ rfl hP (dd_M hD) hS rfl rfl (List.Perm.refl _) (List.Perm.refl _) hl.1 (Nat.le_of_ble_eq_true rfl) ⟨Nat.zero_le _, Nat.zero_le _⟩ rfl dX5_makesNumber_59 (fun H locs hP hS => ?_)
        refine lv_iconst (v := 3) hx hb dX5_makesNumber_62 (by decide) ?_
        refine lv_iload hx hb dX5_makesNumber_63 (lv_at hl 1 rfl) ?_
        refine lv_imul hx hb dX5_makesNumber_65 ?_
        refine lv_iconst (v := 2) hx hb dX5_makesNumber_66 (by decide) ?_
        refine lv_iadd hx hb dX5_makesNumber_67 ?_
        refine lv_istore_n (lv' := [(2, .int ((3 * x6.1) + 2)), (6, .int x7.1), (5, .int x6.1), (0, .ref (q 42)), (3, .int v3), (4, .int v4)]) hx hb dX5_makesNumber_68 rfl hl (by decide) rfl (fun ls hl => ?_)
        refine lv_iinc (v := (v4 + (-1))) (lv' := [(4, .int (v4 + (-1))), (2, .int ((3 * x6.1) + 2)), (6, .int x7.1), (5, .int x6.1), (0, .ref (q 42)), (3, .int v3)]) hx hb dX5_makesNumber_69 hl (k := 5) rfl rfl (by decide) rfl (fun ls hl => ?_)
        refine lv_goto (tgt := 7) hx hb dX5_makesNumber_72 (by decide) ?_
        exact ih hf hP hS (lv_sub hl [4, 1, 5, 0] rfl) kk
      · have hf := if_t c9 hf
        refine lv_iconst (v := 3) hx hb dX5_makesNumber_45 (by decide) ?_
        refine lv_iload hx hb dX5_makesNumber_46 (lv_at hl 1 rfl) ?_
        refine lv_imul hx hb dX5_makesNumber_48 ?_
        refine lv_istore_n (lv' := [(3, .int (3 * x6.1)), (6, .int x7.1), (5, .int x6.1), (0, .ref (q 42)), (2, .int v2), (4, .int v4)]) hx hb dX5_makesNumber_49 rfl hl (by decide) rfl (fun ls hl => ?_)
        refine lv_goto (tgt := 62) hx hb dX5_makesNumber_50 (by decide) ?_
        refine lv_iconst (v := 3) hx hb dX5_makesNumber_62 (by decide) ?_
        refine lv_iload hx hb dX5_makesNumber_63 (lv_at hl 2 rfl) ?_
        refine lv_imul hx hb dX5_makesNumber_65 ?_
        refine lv_iconst (v := 2) hx hb dX5_makesNumber_66 (by decide) ?_
        refine lv_iadd hx hb dX5_makesNumber_67 ?_
        refine lv_istore_n (lv' := [(2, .int ((3 * x6.1) + 2)), (3, .int (3 * x6.1)), (6, .int x7.1), (5, .int x6.1), (0, .ref (q 42)), (4, .int v4)]) hx hb dX5_makesNumber_68 rfl hl (by decide) rfl (fun ls hl => ?_)
        refine lv_iinc (v := (v4 + (-1))) (lv' := [(4, .int (v4 + (-1))), (2, .int ((3 * x6.1) + 2)), (3, .int (3 * x6.1)), (6, .int x7.1), (5, .int x6.1), (0, .ref (q 42))]) hx hb dX5_makesNumber_69 hl (k := 5) rfl rfl (by decide) rfl (fun ls hl => ?_)
        refine lv_goto (tgt := 7) hx hb dX5_makesNumber_72 (by decide) ?_
        exact ih hf hP hS (lv_sub hl [5, 1, 2, 0] rfl) kk
set_option maxHeartbeats 4000000 in
set_option maxRecDepth 100000 in
theorem c_X5_makesNumber {l : Launch} {G : Gx} {q : Nat → Nat} {st : OSt} {a1 : Int32} {x : Int32 × OSt} (hf : m_makesNumber st a1 = some x) : QM l G yX5_makesNumber wsX5_makesNumber rmX5_makesNumber [.ref (q 42), .int a1] (wM G q st) (wM G q x.2) (some (.int x.1)) := by
  refine QM.of (cc := cX5_makesNumber) (maxL := 7) (ret := (some .int)) (by decide) rfl (Nat.le_of_ble_eq_true rfl) ?_
  intro p e s m below meth c A ls C hD hP hS hl
  have hx := C.1
  have hb := C.2.1
  have hl : lv_has ls 7 [(0, .ref (q 42)), (1, .int a1)] := hl
  unfold m_makesNumber at hf
  refine lv_iconst (v := (-1)) hx hb dX5_makesNumber_0 (by decide) ?_
  refine lv_istore_n (lv' := [(2, .int (-1)), (0, .ref (q 42)), (1, .int a1)]) hx hb dX5_makesNumber_1 rfl hl (by decide) rfl (fun ls hl => ?_)
  refine lv_iconst (v := (-1)) hx hb dX5_makesNumber_2 (by decide) ?_
  refine lv_istore_n (lv' := [(3, .int (-1)), (2, .int (-1)), (0, .ref (q 42)), (1, .int a1)]) hx hb dX5_makesNumber_3 rfl hl (by decide) rfl (fun ls hl => ?_)
  refine lv_iload_n hx hb dX5_makesNumber_4 rfl (lv_at hl 3 rfl) ?_
  refine lv_istore (lv' := [(4, .int a1), (3, .int (-1)), (2, .int (-1)), (0, .ref (q 42)), (1, .int a1)]) hx hb dX5_makesNumber_5 hl (by decide) rfl (fun ls hl => ?_)
  obtain ⟨x1, hx1, hf⟩ := bd_some hf
  refine t_X5_makesNumber_7 C hD hx1 hP hS (lv_sub hl [3, 2, 1, 0] rfl) (fun {H locs ls} hP hS hl => ?_)
  refine lv_aload_n hx hb dX5_makesNumber_75 rfl (lv_at hl 0 rfl) ?_
  refine lv_iconst (v := 0) hx hb dX5_makesNumber_76 (by decide) ?_
  obtain ⟨x2, hx2, hf⟩ := bd_some hf
  refine q_Vi C (rc := (RX5, TX5, 42)) (q0 := 0) (ci := 5) (ws' := wM G q x2.2) (wr := []) (c_X5_makes hx2) gX5_makesNumber_X5_makes rfl ⟨rfl, rfl⟩ hdX5_makes ⟨(Nat.le_of_ble_eq_true rfl), (Nat.le_of_ble_eq_true rfl)⟩ rfl hP (dd_M hD) hS rfl rfl (List.Perm.refl _) (List.Perm.refl _) hl.1 (Nat.le_of_ble_eq_true rfl) ⟨Nat.zero_le _, Nat.zero_le _⟩ rfl dX5_makesNumber_77 (fun H locs hP hS => ?_)
  refine lv_istore (lv' := [(4, .int x2.1), (0, .ref (q 42)), (2, .int x1.2.1), (3, .int x1.2.2)]) hx hb dX5_makesNumber_80 hl (by decide) rfl (fun ls hl => ?_)
  refine lv_iload_n hx hb dX5_makesNumber_82 rfl (lv_at hl 2 rfl) ?_
  refine lv_iconst (v := (-1)) hx hb dX5_makesNumber_83 (by decide) ?_
  refine lv_icmp_ne (tgt := 92) hx hb dX5_makesNumber_84 (by decide) (fun c3 => ?_) (fun c3 => ?_)
  · have hf := if_f c3 hf
    refine lv_aload_n hx hb dX5_makesNumber_92 rfl (lv_at hl 1 rfl) ?_
    refine lv_iload_n hx hb dX5_makesNumber_93 rfl (lv_at hl 2 rfl) ?_
    refine lv_iconst (v := 3) hx hb dX5_makesNumber_94 (by decide) ?_
    refine lv_iload hx hb dX5_makesNumber_95 (lv_at hl 0 rfl) ?_
    refine lv_imul hx hb dX5_makesNumber_97 ?_
    obtain ⟨x4, hx4, hf⟩ := bd_some hf
    refine q_Vv C (rc := (RX5, TX5, 42)) (q0 := 0) (ci := 5) (ws' := wM G q x4) (wr := []) (c_X5_links hx4) gX5_makesNumber_X5_links rfl ⟨rfl, rfl⟩ hdX5_links ⟨(Nat.le_of_ble_eq_true rfl), (Nat.le_of_ble_eq_true rfl)⟩ rfl hP (dd_M hD) hS rfl rfl (List.Perm.refl _) (List.Perm.refl _) hl.1 (Nat.le_of_ble_eq_true rfl) ⟨Nat.zero_le _, Nat.zero_le _⟩ rfl dX5_makesNumber_98 (fun H locs hP hS => ?_)
    refine lv_iload_n hx hb dX5_makesNumber_101 rfl (lv_at hl 3 rfl) ?_
    cases hf
    exact q_iret C hP hS rfl dX5_makesNumber_102
  · have hf := if_t c3 hf
    refine lv_iconst (v := 3) hx hb dX5_makesNumber_87 (by decide) ?_
    refine lv_iload hx hb dX5_makesNumber_88 (lv_at hl 0 rfl) ?_
    refine lv_imul hx hb dX5_makesNumber_90 ?_
    cases hf
    exact q_iret C hP hS rfl dX5_makesNumber_91
