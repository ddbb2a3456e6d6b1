-- X5_headAt
def m_headAt (st : OSt) (a1 : Int32) : Option (Int32) := bd (m_linkOf st a1) fun x1 => if 1000 ≤ x1 then some (-1) else if (x1 - x1 / 3 * 3) = 0 then some (x1 / 3) else some (-1)
abbrev rmX5_headAt : Room := { frames := 1, cells := 0, slots := 0, locals := 21 }
theorem hdX5_headAt : yX5_headAt.cls = RX5 ∧ yX5_headAt.cls ≠ "java/lang/invoke/MethodHandle" ∧ yX5_headAt.cls ≠ "java/lang/invoke/VarHandle" ∧ (parseMethodDescriptor yX5_headAt.desc).map (fun d => d.parameters.length) = some 1 := by decide +kernel
set_option maxHeartbeats 4000000 in
set_option maxRecDepth 100000 in
theorem c_X5_headAt {l : Launch} {G : Gx} {q : Nat → Nat} {st : OSt} {a1 : Int32} {x : Int32} (hf : m_headAt st a1 = some x) : QM l G yX5_headAt wsX5_headAt rmX5_headAt [.ref (q 42), .int a1] (wM G q st) (wM G q st) (some (.int x)) := by
  refine QM.of (cc := cX5_headAt) (maxL := 3) (ret := (some .int)) (by decide) rfl (Nat.le_of_ble_eq_true rfl) ?_
  intro p e s m below meth c A ls C hD hP hS hl
  have hx := C.1
  have hb := C.2.1
  have hl : lv_has ls 3 [(0, .ref (q 42)), (1, .int a1)] := hl
  unfold m_headAt at hf
  refine lv_aload_n hx hb dX5_headAt_0 rfl (lv_at hl 0 rfl) ?_
  refine lv_iload_n hx hb dX5_headAt_1 rfl (lv_at hl 1 rfl) ?_
  obtain ⟨x1, hx1, hf⟩ := bd_some hf
  refine q_Vi C (rc := (RX5, TX5, 42)) (q0 := 0) (ci := 5) (ws' := wM G q st) (wr := []) (c_X5_linkOf hx1) gX5_headAt_X5_linkOf rfl ⟨rfl, rfl⟩ hdX5_linkOf ⟨(Nat.le_of_ble_eq_true rfl), (Nat.le_of_ble_eq_true rfl)⟩ rfl hP (dd_M hD) hS rfl rfl (List.Perm.refl _) (List.Perm.refl _) hl.1 (Nat.le_of_ble_eq_true rfl) ⟨Nat.zero_le _, Nat.zero_le _⟩ rfl dX5_headAt_2 (fun H locs hP hS => ?_)
  refine lv_istore_n (lv' := [(2, .int x1), (0, .ref (q 42)), (1, .int a1)]) hx hb dX5_headAt_5 rfl hl (by decide) rfl (fun ls hl => ?_)
  refine lv_iload_n hx hb dX5_headAt_6 rfl (lv_at hl 0 rfl) ?_
  refine lv_sipush (v := 1000) hx hb dX5_headAt_7 (by decide) ?_
  refine lv_icmp_ge (tgt := 25) hx hb dX5_headAt_10 (by decide) (fun c2 => ?_) (fun c2 => ?_)
  · have hf := if_t c2 hf
    refine lv_iconst (v := (-1)) hx hb dX5_headAt_25 (by decide) ?_
    cases hf
    exact q_iret C hP hS rfl dX5_headAt_26
  · have hf := if_f c2 hf
    refine lv_iload_n hx hb dX5_headAt_13 rfl (lv_at hl 0 rfl) ?_
    refine lv_iconst (v := 3) hx hb dX5_headAt_14 (by decide) ?_
    refine lv_irem hx hb dX5_headAt_15 (by decide) ?_
    refine lv_if_ne (tgt := 25) hx hb dX5_headAt_16 (by decide) (fun c3 => ?_) (fun c3 => ?_)
    · have hf := if_f c3 hf
      refine lv_iconst (v := (-1)) hx hb dX5_headAt_25 (by decide) ?_
      cases hf
      exact q_iret C hP hS rfl dX5_headAt_26
    · have hf := if_t c3 hf
      refine lv_iload_n hx hb dX5_headAt_19 rfl (lv_at hl 0 rfl) ?_
      refine lv_iconst (v := 3) hx hb dX5_headAt_20 (by decide) ?_
      refine lv_idiv hx hb dX5_headAt_21 (by decide) ?_
      refine lv_goto (tgt := 26) hx hb dX5_headAt_22 (by decide) ?_
      cases hf
      exact q_iret C hP hS rfl dX5_headAt_26

-- X5_numberAt
def m_numberAt_8 : Nat → OSt → Int32 → Int32 → Option (Int32)
  | 0, _, _, _ => none
  | n + 1, st, v2, v3 => if v3 = (-1) then if v3 = (-1) then some (-2) else bd (m_kindOf st v3) fun x4 => if x4 = 0 then some v2 else some (-2) else bd (m_kindOf st v3) fun x6 => if x6 = 1 then bd (m_headAt st ((3 * v3) + 1)) fun x11 => if x11 = (-1) then some (-2) else bd (m_kindOf st x11) fun x13 => if x13 = 0 then bd (m_headAt st ((3 * v3) + 2)) fun x15 => m_numberAt_8 n st (v2 + 1) x15 else some (-2) else if v3 = (-1) then some (-2) else bd (m_kindOf st v3) fun x9 => if x9 = 0 then some v2 else some (-2)
def m_numberAt (st : OSt) (a1 : Int32) : Option (Int32) := bd (m_headAt st a1) fun x1 => m_numberAt_8 20000 st 0 x1
abbrev rmX5_numberAt : Room := { frames := 2, cells := 0, slots := 0, locals := 43 }
theorem hdX5_numberAt : yX5_numberAt.cls = RX5 ∧ yX5_numberAt.cls ≠ "java/lang/invoke/MethodHandle" ∧ yX5_numberAt.cls ≠ "java/lang/invoke/VarHandle" ∧ (parseMethodDescriptor yX5_numberAt.desc).map (fun d => d.parameters.length) = some 1 := by decide +kernel
set_option maxHeartbeats 4000000 in
set_option maxRecDepth 100000 in
theorem t_X5_numberAt_8 {p : Program} {l : Launch} {e : Env} {s : State} {m : MethodId} {args : Array Value} {below : List Frame} {meth : Method} {c : Code} {A : Nat → Prop} {G : Gx} {q : Nat → Nat} {st0 : OSt} (C : Cx p s m args meth c G cX5_numberAt wsX5_numberAt RX5 (some .int) 5 A) (hD : va_D A (wM G q st0)) :
    ∀ {n : Nat} {st : OSt} {v2 : Int32} {v3 : Int32} {x : Int32}, m_numberAt_8 n st v2 v3 = some x → ∀ {H : Heap} {locs : List Loc} {ls : Array Slot}, va_P G.1 vwCl (wM G q st) H → va_S A s.heap H locs → lv_has ls 5 [(0, .ref (q 42)), (2, .int v2), (3, .int v3)] → W p l e rmX5_numberAt s m args below meth c H locs 0 0 (MQ below (qE G A (wM G q st) (some (.int x))) args s 0 0 A) (F0 m 8 ls []) := by
  have hx := C.1
  have hb := C.2.1
  intro n
  induction n with
  | zero => intro st v2 v3 x hf; cases hf
  | succ n ih =>
    intro st v2 v3 x hf H locs ls hP hS hl
    rw [m_numberAt_8] at hf
    refine lv_iload_n hx hb dX5_numberAt_8 rfl (lv_at hl 2 rfl) ?_
    refine lv_iconst (v := (-1)) hx hb dX5_numberAt_9 (by decide) ?_
    refine lv_icmp_eq (tgt := 67) hx hb dX5_numberAt_10 (by decide) (fun c2 => ?_) (fun c2 => ?_)
    · have hf := if_t c2 hf
      refine lv_iload_n hx hb dX5_numberAt_67 rfl (lv_at hl 2 rfl) ?_
      refine lv_iconst (v := (-1)) hx hb dX5_numberAt_68 (by decide) ?_
      refine lv_icmp_eq (tgt := 80) hx hb dX5_numberAt_69 (by decide) (fun c3 => ?_) (fun c3 => ?_)
      · have hf := if_t c3 hf
        refine lv_bipush (v := (-2)) hx hb dX5_numberAt_80 (by decide) ?_
        refine lv_goto (tgt := 86) hx hb dX5_numberAt_82 (by decide) ?_
        cases hf
        exact q_iret C hP hS rfl dX5_numberAt_86
      · have hf := if_f c3 hf
        refine lv_aload_n hx hb dX5_numberAt_72 rfl (lv_at hl 0 rfl) ?_
        refine lv_iload_n hx hb dX5_numberAt_73 rfl (lv_at hl 2 rfl) ?_
        obtain ⟨x4, hx4, hf⟩ := bd_some hf
        refine q_Vi C (rc := (RX5, TX5, 42)) (q0 := 0) (ci := 5) (ws' := wM G q st) (wr := []) (c_X5_kindOf hx4) gX5_numberAt_X5_kindOf rfl ⟨rfl, rfl⟩ hdX5_kindOf ⟨(Nat.le_of_ble_eq_true rfl), (Nat.le_of_ble_eq_true rfl)⟩ rfl hP (dd_M hD) hS rfl rfl (List.Perm.refl _) (List.Perm.refl _) hl.1 (Nat.le_of_ble_eq_true rfl) ⟨Nat.zero_le _, Nat.zero_le _⟩ rfl dX5_numberAt_74 (fun H locs hP hS => ?_)
        refine lv_if_eq (tgt := 85) hx hb dX5_numberAt_77 (by decide) (fun c5 => ?_) (fun c5 => ?_)
        · have hf := if_t c5 hf
          refine lv_iload_n hx hb dX5_numberAt_85 rfl (lv_at hl 1 rfl) ?_
          cases hf
          exact q_iret C hP hS rfl dX5_numberAt_86
        · have hf := if_f c5 hf
          refine lv_bipush (v := (-2)) hx hb dX5_numberAt_80 (by decide) ?_
          refine lv_goto (tgt := 86) hx hb dX5_numberAt_82 (by decide) ?_
          cases hf
          exact q_iret C hP hS rfl dX5_numberAt_86
    · have hf := if_f c2 hf
      refine lv_aload_n hx hb dX5_numberAt_13 rfl (lv_at hl 0 rfl) ?_
      refine lv_iload_n hx hb dX5_numberAt_14 rfl (lv_at hl 2 rfl) ?_
      obtain ⟨x6, hx6, hf⟩ := bd_some hf
      refine q_Vi C (rc := (RX5, TX5, 42)) (q0 := 0) (ci := 5) (ws' := wM G q st) (wr := []) (c_X5_kindOf hx6) gX5_numberAt_X5_kindOf rfl ⟨rfl, rfl⟩ hdX5_kindOf ⟨(Nat.le_of_ble_eq_true rfl), (Nat.le_of_ble_eq_true rfl)⟩ rfl hP (dd_M hD) hS rfl rfl (List.Perm.refl _) (List.Perm.refl _) hl.1 (Nat.le_of_ble_eq_true rfl) ⟨Nat.zero_le _, Nat.zero_le _⟩ rfl dX5_numberAt_15 (fun H locs hP hS => ?_)
      refine lv_iconst (v := 1) hx hb dX5_numberAt_18 (by decide) ?_
      refine lv_icmp_ne (tgt := 67) hx hb dX5_numberAt_19 (by decide) (fun c7 => ?_) (fun c7 => ?_)
      · have hf := if_f c7 hf
        refine lv_iload_n hx hb dX5_numberAt_67 rfl (lv_at hl 2 rfl) ?_
        refine lv_iconst (v := (-1)) hx hb dX5_numberAt_68 (by decide) ?_
        refine lv_icmp_eq (tgt := 80) hx hb dX5_numberAt_69 (by decide) (fun c8 => ?_) (fun c8 => ?_)
        · have hf := if_t c8 hf
          refine lv_bipush (v := (-2)) hx hb dX5_numberAt_80 (by decide) ?_
          refine lv_goto (tgt := 86) hx hb dX5_numberAt_82 (by decide) ?_
          cases hf
          exact q_iret C hP hS rfl dX5_numberAt_86
        · have hf := if_f c8 hf
          refine lv_aload_n hx hb dX5_numberAt_72 rfl (lv_at hl 0 rfl) ?_
          refine lv_iload_n hx hb dX5_numberAt_73 rfl (lv_at hl 2 rfl) ?_
          obtain ⟨x9, hx9, hf⟩ := bd_some hf
          refine q_Vi C (rc := (RX5, TX5, 42)) (q0 := 0) (ci := 5) (ws' := wM G q st) (wr := []) (c_X5_kindOf hx9) gX5_numberAt_X5_kindOf rfl ⟨rfl, rfl⟩ hdX5_kindOf ⟨(Nat.le_of_ble_eq_true rfl), (Nat.le_of_ble_eq_true rfl)⟩ rfl hP (dd_M hD) hS rfl rfl (List.Perm.refl _) (List.Perm.refl _) hl.1 (Nat.le_of_ble_eq_true rfl) ⟨Nat.zero_le _, Nat.zero_le _⟩ rfl dX5_numberAt_74 (fun H locs hP hS => ?_)
          refine lv_if_eq (tgt := 85) hx hb dX5_numberAt_77 (by decide) (fun c10 => ?_) (fun c10 => ?_)
          · have hf := if_t c10 hf
            refine lv_iload_n hx hb dX5_numberAt_85 rfl (lv_at hl 1 rfl) ?_
            cases hf
            exact q_iret C hP hS rfl dX5_numberAt_86
          · have hf := if_f c10 hf
            refine lv_bipush (v := (-2)) hx hb dX5_numberAt_80 (by decide) ?_
            refine lv_goto (tgt := 86) hx hb dX5_numberAt_82 (by decide) ?_
            cases hf
            exact q_iret C hP hS rfl dX5_numberAt_86
      · have hf := if_t c7 hf
        refine lv_aload_n hx hb dX5_numberAt_22 rfl (lv_at hl 0 rfl) ?_
        refine lv_iconst (v := 3) hx hb dX5_numberAt_23 (by decide) ?_
        refine lv_iload_n hx hb dX5_numberAt_24 rfl (lv_at hl 2 rfl) ?_
        refine lv_imul hx hb dX5_numberAt_25 ?_
        refine lv_iconst (v := 1) hx hb dX5_numberAt_26 (by decide) ?_
        refine lv_iadd hx hb dX5_numberAt_27 ?_
        obtain ⟨x11, hx11, hf⟩ := bd_some hf
        refine q_Vi C (rc := (RX5, TX5, 42)) (q0 := 0) (ci := 5) (ws' := wM G q st) (wr := []) (c_X5_headAt hx11) gX5_numberAt_X5_headAt rfl ⟨rfl, rfl⟩ hdX5_headAt ⟨(Nat.le_of_ble_eq_true rfl), (Nat.le_of_ble_eq_true rfl)⟩ rfl hP (dd_M hD) hS rfl rfl (List.Perm.refl _) (List.Perm.refl _) hl.1 (Nat.le_of_ble_eq_true rfl) ⟨Nat.zero_le _, Nat.zero_le _⟩ rfl dX5_numberAt_28 (fun H locs hP hS => ?_)
        refine lv_istore (lv' := [(4, .int x11), (0, .ref (q 42)), (2, .int v2), (3, .int v3)]) hx hb dX5_numberAt_31 hl (by decide) rfl (fun ls hl => ?_)
        refine lv_iload hx hb dX5_numberAt_33 (lv_at hl 0 rfl) ?_
        refine lv_iconst (v := (-1)) hx hb dX5_numberAt_35 (by decide) ?_
        refine lv_icmp_eq (tgt := 48) hx hb dX5_numberAt_36 (by decide) (fun c12 => ?_) (fun c12 => ?_)
        · have hf := if_t c12 hf
          refine lv_bipush (v := (-2)) hx hb dX5_numberAt_48 (by decide) ?_
          cases hf
          exact q_iret C hP hS rfl dX5_numberAt_50
        · have hf := if_f c12 hf
          refine lv_aload_n hx hb dX5_numberAt_39 rfl (lv_at hl 1 rfl) ?_
          refine lv_iload hx hb dX5_numberAt_40 (lv_at hl 0 rfl) ?_
          obtain ⟨x13, hx13, hf⟩ := bd_some hf
          refine q_Vi C (rc := (RX5, TX5, 42)) (q0 := 0) (ci := 5) (ws' := wM G q st) (wr := []) (c_X5_kindOf hx13) gX5_numberAt_X5_kindOf rfl ⟨rfl, rfl⟩ hdX5_kindOf ⟨(Nat.le_of_ble_eq_true rfl), (Nat.le_of_ble_eq_true rfl)⟩ rfl hP (dd_M hD) hS rfl rfl (List.Perm.refl _) (List.Perm.refl _) hl.1 (Nat.le_of_ble_eq_true rfl) ⟨Nat.zero_le _, Nat.zero_le _⟩ rfl dX5_numberAt_42 (fun H locs hP hS => ?_)
          refine lv_if_eq (tgt := 51) hx hb dX5_numberAt_45 (by decide) (fun c14 => ?_) (fun c14 => ?_)
          · have hf := if_t c14 hf
            refine lv_iinc (v := (v2 + 1)) (lv' := [(2, .int (v2 + 1)), (4, .int x11), (0, .ref (q 42)), (3, .int v3)]) hx hb dX5_numberAt_51 hl (k := 2) rfl rfl (by decide) rfl (fun ls hl => ?_)
            refine lv_aload_n hx hb dX5_numberAt_54 rfl (lv_at hl 2 rfl) ?_
            refine lv_iconst (v := 3) hx hb dX5_numberAt_55 (by decide) ?_
            refine lv_iload_n hx hb dX5_numberAt_56 rfl (lv_at hl 3 rfl) ?_
            refine lv_imul hx hb dX5_numberAt_57 ?_
            refine lv_iconst (v := 2) hx hb dX5_numberAt_58 (by decide) ?_
            refine lv_iadd hx hb dX5_numberAt_59 ?_
            obtain ⟨x15, hx15, hf⟩ := bd_some hf
            refine q_Vi C (rc := (RX5, TX5, 42)) (q0 := 0) (ci := 5) (ws' := wM G q st) (wr := []) (c_X5_headAt hx15) gX5_numberAt_X5_headAt rfl ⟨rfl, rfl⟩ hdX5_headAt ⟨(Nat.le_of_ble_eq_true rfl), (Nat.le_of_ble_eq_true rfl)⟩ rfl hP (dd_M hD) hS rfl rfl (List.Perm.refl _) (List.Perm.refl _) hl.1 (Nat.le_of_ble_eq_true rfl) ⟨Nat.zero_le _, Nat.zero_le _⟩ rfl dX5_numberAt_60 (fun H locs hP hS => ?_)
            refine lv_istore_n (lv' := [(3, .int x15), (2, .int (v2 + 1)), (4, .int x11), (0, .ref (q 42))]) hx hb dX5_numberAt_63 rfl hl (by decide) rfl (fun ls hl => ?_)
            refine lv_goto (tgt := 8) hx hb dX5_numberAt_64 (by decide) ?_
            exact ih hf hP hS (lv_sub hl [3, 1, 0] rfl)
          · have hf := if_f c14 hf
            refine lv_bipush (v := (-2)) hx hb dX5_numberAt_48 (by decide) ?_
            cases hf
            exact q_iret C hP hS rfl dX5_numberAt_50
set_option maxHeartbeats 4000000 in
set_option maxRecDepth 100000 in
theorem c_X5_numberAt {l : Launch} {G : Gx} {q : Nat → Nat} {st : OSt} {a1 : Int32} {x : Int32} (hf : m_numberAt st a1 = some x) : QM l G yX5_numberAt wsX5_numberAt rmX5_numberAt [.ref (q 42), .int a1] (wM G q st) (wM G q st) (some (.int x)) := by
  refine QM.of (cc := cX5_numberAt) (maxL := 5) (ret := (some .int)) (by decide) rfl (Nat.le_of_ble_eq_true rfl) ?_
  intro p e s m below meth c A ls C hD hP hS hl
  have hx := C.1
  have hb := C.2.1
  have hl : lv_has ls 5 [(0, .ref (q 42)), (1, .int a1)] := hl
  unfold m_numberAt at hf
  refine lv_iconst (v := 0) hx hb dX5_numberAt_0 (by decide) ?_
  refine lv_istore_n (lv' := [(2, .int 0), (0, .ref (q 42)), (1, .int a1)]) hx hb dX5_numberAt_1 rfl hl (by decide) rfl (fun ls hl => ?_)
  refine lv_aload_n hx hb dX5_numberAt_2 rfl (lv_at hl 1 rfl) ?_
  refine lv_iload_n hx hb dX5_numberAt_3 rfl (lv_at hl 2 rfl) ?_
  obtain ⟨x1, hx1, hf⟩ := bd_some hf
  refine q_Vi C (rc := (RX5, TX5, 42)) (q0 := 0) (ci := 5) (ws' := wM G q st) (wr := []) (c_X5_headAt hx1) gX5_numberAt_X5_headAt rfl ⟨rfl, rfl⟩ hdX5_headAt ⟨(Nat.le_of_ble_eq_true rfl), (Nat.le_of_ble_eq_true rfl)⟩ rfl hP (dd_M hD) hS rfl rfl (List.Perm.refl _) (List.Perm.refl _) hl.1 (Nat.le_of_ble_eq_true rfl) ⟨Nat.zero_le _, Nat.zero_le _⟩ rfl dX5_numberAt_4 (fun H locs hP hS => ?_)
  refine lv_istore_n (lv' := [(3, .int x1), (2, .int 0), (0, .ref (q 42)), (1, .int a1)]) hx hb dX5_numberAt_7 rfl hl (by decide) rfl (fun ls hl => ?_)
  exact t_X5_numberAt_8 C hD hf hP hS (lv_sub hl [2, 1, 0] rfl)

-- X5_number_
theorem hiX5_number__X5 : ∀ w ∈ u_ws RX5 TX5 42, w ∈ wsX5_number_ := mem_run (i := 27) (by decide +kernel)
theorem wdX5_number__1 : (Cond.fieldLink RX5 1 "CombinatorRingModel" "thrown" "I") ∈ wsX5_number_ := List.mem_of_getElem? (i := 1) rfl
def m_number_ (st : OSt) (a1 : Int32) : Option (Int32 × OSt) := bd (m_isRoot st a1) fun x1 => if x1 = 0 then nm (sI st 0 1) fun s3 => if (s3.1 0) ≤ 0 then bd (m_numberAt s3 (1000 + a1)) fun x5 => some (x5, s3) else some (0, s3) else nm (sI st 0 0) fun s6 => if (s6.1 0) ≤ 0 then bd (m_numberAt s6 (1000 + a1)) fun x8 => some (x8, s6) else some (0, s6)
abbrev rmX5_number_ : Room := { frames := 3, cells := 0, slots := 0, locals := 67 }
theorem hdX5_number_ : yX5_number_.cls = RX5 ∧ yX5_number_.cls ≠ "java/lang/invoke/MethodHandle" ∧ yX5_number_.cls ≠ "java/lang/invoke/VarHandle" ∧ (parseMethodDescriptor yX5_number_.desc).map (fun d => d.parameters.length) = some 1 := by decide +kernel
set_option maxHeartbeats 4000000 in
set_option maxRecDepth 100000 in
theorem c_X5_number_ {l : Launch} {G : Gx} {q : Nat → Nat} {st : OSt} {a1 : Int32} {x : Int32 × OSt} (hf : m_number_ st a1 = some x) : QM l G yX5_number_ wsX5_number_ rmX5_number_ [.ref (q 42), .int a1] (wM G q st) (wM G q x.2) (some (.int x.1)) := by
  refine QM.of (cc := cX5_number_) (maxL := 2) (ret := (some .int)) (by decide) rfl (Nat.le_of_ble_eq_true rfl) ?_
  intro p e s m below meth c A ls C hD hP hS hl
  have hx := C.1
  have hb := C.2.1
  have hl : lv_has ls 2 [(0, .ref (q 42)), (1, .int a1)] := hl
  unfold m_number_ at hf
  refine lv_aload_n hx hb dX5_number__0 rfl (lv_at hl 0 rfl) ?_
  refine lv_aload_n hx hb dX5_number__1 rfl (lv_at hl 0 rfl) ?_
  refine lv_iload_n hx hb dX5_number__2 rfl (lv_at hl 1 rfl) ?_
  obtain ⟨x1, hx1, hf⟩ := bd_some hf
  refine q_Vi C (rc := (RX5, TX5, 42)) (q0 := 0) (ci := 5) (ws' := wM G q st) (wr := []) (c_X5_isRoot hx1) gX5_number__X5_isRoot rfl ⟨rfl, rfl⟩ hdX5_isRoot ⟨(Nat.le_of_ble_eq_true rfl), (Nat.le_of_ble_eq_true rfl)⟩ rfl hP (dd_M hD) hS rfl rfl (List.Perm.refl _) (List.Perm.refl _) hl.1 (Nat.le_of_ble_eq_true rfl) ⟨Nat.zero_le _, Nat.zero_le _⟩ rfl dX5_number__3 (fun H locs hP hS => ?_)
  refine lv_if_eq (tgt := 13) hx hb dX5_number__6 (by decide) (fun c2 => ?_) (fun c2 => ?_)
  · have hf := if_t c2 hf
    refine lv_iconst (v := 1) hx hb dX5_number__13 (by decide) ?_
    obtain ⟨s3, es3, hf⟩ := nm_ex hf
    refine q_put C hP (dd_M hD) hS wM_o rfl hiX5_number__X5 tyX5_ok nmX5 0 (by decide) wdX5_number__1 rfl rfl rfl (Nat.le_of_ble_eq_true rfl) wM_sI_0 dX5_number__14 (fun H locs hP hS => ?_)
    rw [es3] at hP
    refine lv_aload_n hx hb dX5_number__17 rfl (lv_at hl 0 rfl) ?_
    refine q_get C hP wM_o rfl hiX5_number__X5 0 (by decide) wdX5_number__1 rfl dX5_number__18 ?_
    refine lv_if_le (tgt := 28) hx hb dX5_number__21 (by decide) (fun c4 => ?_) (fun c4 => ?_)
    · have hf := if_t c4 hf
      refine lv_aload_n hx hb dX5_number__28 rfl (lv_at hl 0 rfl) ?_
      refine lv_sipush (v := 1000) hx hb dX5_number__29 (by decide) ?_
      refine lv_iload_n hx hb dX5_number__32 rfl (lv_at hl 1 rfl) ?_
      refine lv_iadd hx hb dX5_number__33 ?_
      obtain ⟨x5, hx5, hf⟩ := bd_some hf
      refine q_Vi C (rc := (RX5, TX5, 42)) (q0 := 0) (ci := 5) (ws' := wM G q s3) (wr := []) (c_X5_numberAt hx5) gX5_number__X5_numberAt rfl ⟨rfl, rfl⟩ hdX5_numberAt ⟨(Nat.le_of_ble_eq_true rfl), (Nat.le_of_ble_eq_true rfl)⟩ rfl hP (dd_M hD) hS rfl rfl (List.Perm.refl _) (List.Perm.refl _) hl.1 (Nat.le_of_ble_eq_true rfl) ⟨Nat.zero_le _, Nat.zero_le _⟩ rfl dX5_number__34 (fun H locs hP hS => ?_)
      cases hf
      exact q_iret C hP hS rfl dX5_number__37
    · have hf := if_f c4 hf
      refine lv_iconst (v := 0) hx hb dX5_number__24 (by decide) ?_
      refine lv_goto (tgt := 37) hx hb dX5_number__25 (by decide) ?_
      cases hf
      exact q_iret C hP hS rfl dX5_number__37
  · have hf := if_f c2 hf
    refine lv_iconst (v := 0) hx hb dX5_number__9 (by decide) ?_
    refine lv_goto (tgt := 14) hx hb dX5_number__10 (by decide) ?_
    obtain ⟨s6, es6, hf⟩ := nm_ex hf
    refine q_put C hP (dd_M hD) hS wM_o rfl hiX5_number__X5 tyX5_ok nmX5 0 (by decide) wdX5_number__1 rfl rfl rfl (Nat.le_of_ble_eq_true rfl) wM_sI_0 dX5_number__14 (fun H locs hP hS => ?_)
    rw [es6] at hP
    refine lv_aload_n hx hb dX5_number__17 rfl (lv_at hl 0 rfl) ?_
    refine q_get C hP wM_o rfl hiX5_number__X5 0 (by decide) wdX5_number__1 rfl dX5_number__18 ?_
    refine lv_if_le (tgt := 28) hx hb dX5_number__21 (by decide) (fun c7 => ?_) (fun c7 => ?_)
    · have hf := if_t c7 hf
      refine lv_aload_n hx hb dX5_number__28 rfl (lv_at hl 0 rfl) ?_
      refine lv_sipush (v := 1000) hx hb dX5_number__29 (by decide) ?_
      refine lv_iload_n hx hb dX5_number__32 rfl (lv_at hl 1 rfl) ?_
      refine lv_iadd hx hb dX5_number__33 ?_
      obtain ⟨x8, hx8, hf⟩ := bd_some hf
      refine q_Vi C (rc := (RX5, TX5, 42)) (q0 := 0) (ci := 5) (ws' := wM G q s6) (wr := []) (c_X5_numberAt hx8) gX5_number__X5_numberAt rfl ⟨rfl, rfl⟩ hdX5_numberAt ⟨(Nat.le_of_ble_eq_true rfl), (Nat.le_of_ble_eq_true rfl)⟩ rfl hP (dd_M hD) hS rfl rfl (List.Perm.refl _) (List.Perm.refl _) hl.1 (Nat.le_of_ble_eq_true rfl) ⟨Nat.zero_le _, Nat.zero_le _⟩ rfl dX5_number__34 (fun H locs hP hS => ?_)
      cases hf
      exact q_iret C hP hS rfl dX5_number__37
    · have hf := if_f c7 hf
      refine lv_iconst (v := 0) hx hb dX5_number__24 (by decide) ?_
      refine lv_goto (tgt := 37) hx hb dX5_number__25 (by decide) ?_
      cases hf
      exact q_iret C hP hS rfl dX5_number__37

-- X5_list_
theorem hiX5_list__X5 : ∀ w ∈ u_ws RX5 TX5 42, w ∈ wsX5_list_ := mem_run (i := 27) (by decide +kernel)
theorem wdX5_list__1 : (Cond.fieldLink RX5 1 "CombinatorRingModel" "thrown" "I") ∈ wsX5_list_ := List.mem_of_getElem? (i := 1) rfl
def m_list__113 (st : OSt) (v2 : Int32) (v3 : Int32) (v4 : Int32) (v5 : Int32) : Option (Int32 × OSt) := if v5 = (-1) then some ((-2), st) else bd (m_kindOf st v5) fun x15 => if x15 = 0 then if v2 = (-1) then some (v3, st) else some (v4, st) else some ((-2), st)
def m_list__43 : Nat → OSt → Int32 → Int32 → Int32 → Int32 → Option (Int32 × OSt)
  | 0, _, _, _, _, _ => none
  | n + 1, st, v2, v3, v4, v5 => if v5 = (-1) then m_list__113 st v2 v3 v4 v5 else bd (m_kindOf st v5) fun x7 => if x7 = 1 then bd (m_numberAt st ((3 * v5) + 1)) fun x9 => if x9 = (-2) then some ((-2), st) else if v3 = v2 then bd (m_headAt st ((3 * v5) + 2)) fun x13 => m_list__43 n st v2 (v3 + 1) x9 x13 else bd (m_headAt st ((3 * v5) + 2)) fun x12 => m_list__43 n st v2 (v3 + 1) v4 x12 else m_list__113 st v2 v3 v4 v5
def m_list__14 (st : OSt) (v1 : Int32) (v2 : Int32) (k0 : Int32) : Option (Int32 × OSt) := nm (sI st 0 k0) fun s3 => if (s3.1 0) ≤ 0 then bd (m_headAt s3 (1000 + v1)) fun x5 => m_list__43 20000 s3 v2 0 (-2) x5 else some (0, s3)
def m_list_ (st : OSt) (a1 : Int32) (a2 : Int32) : Option (Int32 × OSt) := bd (m_isRoot st a1) fun x1 => if x1 = 0 then m_list__14 st a1 a2 1 else m_list__14 st a1 a2 0
abbrev rmX5_list_ : Room := { frames := 3, cells := 0, slots := 0, locals := 67 }
theorem hdX5_list_ : yX5_list_.cls = RX5 ∧ yX5_list_.cls ≠ "java/lang/invoke/MethodHandle" ∧ yX5_list_.cls ≠ "java/lang/invoke/VarHandle" ∧ (parseMethodDescriptor yX5_list_.desc).map (fun d => d.parameters.length) = some 2 := by decide +kernel
set_option maxHeartbeats 4000000 in
set_option maxRecDepth 100000 in
theorem t_X5_list__113 {p : Program} {l : Launch} {e : Env} {s : State} {m : MethodId} {args : Array Value} {below : List Frame} {meth : Method} {c : Code} {A : Nat → Prop} {G : Gx} {q : Nat → Nat} {st0 : OSt} (C : Cx p s m args meth c G cX5_list_ wsX5_list_ RX5 (some .int) 7 A) (hD : va_D A (wM G q st0)) :
    ∀ {st : OSt} {v2 : Int32} {v3 : Int32} {v4 : Int32} {v5 : Int32} {x : Int32 × OSt}, m_list__113 st v2 v3 v4 v5 = some x → ∀ {H : Heap} {locs : List Loc} {ls : Array Slot}, va_P G.1 vwCl (wM G q st) H → va_S A s.heap H locs → lv_has ls 7 [(0, .ref (q 42)), (2, .int v2), (3, .int v3), (4, .int v4), (5, .int v5)] → W p l e rmX5_list_ s m args below meth c H locs 0 0 (MQ below (qE G A (wM G q x.2) (some (.int x.1))) args s 0 0 A) (F0 m 113 ls []) := by
  have hx := C.1
  have hb := C.2.1
  intro st v2 v3 v4 v5 x hf H locs ls hP hS hl
  unfold m_list__113 at hf
  refine lv_iload hx hb dX5_list__113 (lv_at hl 4 rfl) ?_
  refine lv_iconst (v := (-1)) hx hb dX5_list__115 (by decide) ?_
  refine lv_icmp_eq (tgt := 128) hx hb dX5_list__116 (by decide) (fun c14 => ?_) (fun c14 => ?_)
  · have hf := if_t c14 hf
    refine lv_bipush (v := (-2)) hx hb dX5_list__128 (by decide) ?_
    cases hf
    exact q_iret C hP hS rfl dX5_list__130
  · have hf := if_f c14 hf
    refine lv_aload_n hx hb dX5_list__119 rfl (lv_at hl 0 rfl) ?_
    refine lv_iload hx hb dX5_list__120 (lv_at hl 4 rfl) ?_
    obtain ⟨x15, hx15, hf⟩ := bd_some hf
    refine q_Vi C (rc := (RX5, TX5, 42)) (q0 := 0) (ci := 5) (ws' := wM G q st) (wr := []) (c_X5_kindOf hx15) gX5_list__X5_kindOf rfl ⟨rfl, rfl⟩ hdX5_kindOf ⟨(Nat.le_of_ble_eq_true rfl), (Nat.le_of_ble_eq_true rfl)⟩ rfl hP (dd_M hD) hS rfl rfl (List.Perm.refl _) (List.Perm.refl _) hl.1 (Nat.le_of_ble_eq_true rfl) ⟨Nat.zero_le _, Nat.zero_le _⟩ rfl dX5_list__122 (fun H locs hP hS => ?_)
    refine lv_if_eq (tgt := 131) hx hb dX5_list__125 (by decide) (fun c16 => ?_) (fun c16 => ?_)
    · have hf := if_t c16 hf
      refine lv_iload_n hx hb dX5_list__131 rfl (lv_at hl 1 rfl) ?_
      refine lv_iconst (v := (-1)) hx hb dX5_list__132 (by decide) ?_
      refine lv_icmp_ne (tgt := 140) hx hb dX5_list__133 (by decide) (fun c17 => ?_) (fun c17 => ?_)
      · have hf := if_f c17 hf
        refine lv_iload hx hb dX5_list__140 (lv_at hl 3 rfl) ?_
        cases hf
        exact q_iret C hP hS rfl dX5_list__142
      · have hf := if_t c17 hf
        refine lv_iload_n hx hb dX5_list__136 rfl (lv_at hl 2 rfl) ?_
        refine lv_goto (tgt := 142) hx hb dX5_list__137 (by decide) ?_
        cases hf
        exact q_iret C hP hS rfl dX5_list__142
    · have hf := if_f c16 hf
      refine lv_bipush (v := (-2)) hx hb dX5_list__128 (by decide) ?_
      cases hf
      exact q_iret C hP hS rfl dX5_list__130
set_option maxHeartbeats 4000000 in
set_option maxRecDepth 100000 in
theorem t_X5_list__43 {p : Program} {l : Launch} {e : Env} {s : State} {m : MethodId} {args : Array Value} {below : List Frame} {meth : Method} {c : Code} {A : Nat → Prop} {G : Gx} {q : Nat → Nat} {st0 : OSt} (C : Cx p s m args meth c G cX5_list_ wsX5_list_ RX5 (some .int) 7 A) (hD : va_D A (wM G q st0)) :
    ∀ {n : Nat} {st : OSt} {v2 : Int32} {v3 : Int32} {v4 : Int32} {v5 : Int32} {x : Int32 × OSt}, m_list__43 n st v2 v3 v4 v5 = some x → ∀ {H : Heap} {locs : List Loc} {ls : Array Slot}, va_P G.1 vwCl (wM G q st) H → va_S A s.heap H locs → lv_has ls 7 [(0, .ref (q 42)), (2, .int v2), (3, .int v3), (4, .int v4), (5, .int v5)] → W p l e rmX5_list_ s m args below meth c H locs 0 0 (MQ below (qE G A (wM G q x.2) (some (.int x.1))) args s 0 0 A) (F0 m 43 ls []) := by
  have hx := C.1
  have hb := C.2.1
  intro n
  induction n with
  | zero => intro st v2 v3 v4 v5 x hf; cases hf
  | succ n ih =>
    intro st v2 v3 v4 v5 x hf H locs ls hP hS hl
    rw [m_list__43] at hf
    refine lv_iload hx hb dX5_list__43 (lv_at hl 4 rfl) ?_
    refine lv_iconst (v := (-1)) hx hb dX5_list__45 (by decide) ?_
    refine lv_icmp_eq (tgt := 113) hx hb dX5_list__46 (by decide) (fun c6 => ?_) (fun c6 => ?_)
    · have hf := if_t c6 hf
      exact t_X5_list__113 C hD hf hP hS (lv_sub hl [0, 1, 2, 3, 4] rfl)
    · have hf := if_f c6 hf
      refine lv_aload_n hx hb dX5_list__49 rfl (lv_at hl 0 rfl) ?_
      refine lv_iload hx hb dX5_list__50 (lv_at hl 4 rfl) ?_
      obtain ⟨x7, hx7, hf⟩ := bd_some hf
      refine q_Vi C (rc := (RX5, TX5, 42)) (q0 := 0) (ci := 5) (ws' := wM G q st) (wr := []) (c_X5_kindOf hx7) gX5_list__X5_kindOf rfl ⟨rfl, rfl⟩ hdX5_kindOf ⟨(Nat.le_of_ble_eq_true rfl), (Nat.le_of_ble_eq_true rfl)⟩ rfl hP (dd_M hD) hS rfl rfl (List.Perm.refl _) (List.Perm.refl _) hl.1 (Nat.le_of_ble_eq_true rfl) ⟨Nat.zero_le _, Nat.zero_le _⟩ rfl dX5_list__52 (fun H locs hP hS => ?_)
      refine lv_iconst (v := 1) hx hb dX5_list__55 (by decide) ?_
      refine lv_icmp_ne (tgt := 113) hx hb dX5_list__56 (by decide) (fun c8 => ?_) (fun c8 => ?_)
      · have hf := if_f c8 hf
        exact t_X5_list__113 C hD hf hP hS (lv_sub hl [0, 1, 2, 3, 4] rfl)
      · have hf := if_t c8 hf
        refine lv_aload_n hx hb dX5_list__59 rfl (lv_at hl 0 rfl) ?_
        refine lv_iconst (v := 3) hx hb dX5_list__60 (by decide) ?_
        refine lv_iload hx hb dX5_list__61 (lv_at hl 4 rfl) ?_
        refine lv_imul hx hb dX5_list__63 ?_
        refine lv_iconst (v := 1) hx hb dX5_list__64 (by decide) ?_
        refine lv_iadd hx hb dX5_list__65 ?_
        obtain ⟨x9, hx9, hf⟩ := bd_some hf
        refine q_Vi C (rc := (RX5, TX5, 42)) (q0 := 0) (ci := 5) (ws' := wM G q st) (wr := []) (c_X5_numberAt hx9) gX5_list__X5_numberAt rfl ⟨rfl, rfl⟩ hdX5_numberAt ⟨(Nat.le_of_ble_eq_true rfl), (Nat.le_of_ble_eq_true rfl)⟩ rfl hP (dd_M hD) hS rfl rfl (List.Perm.refl _) (List.Perm.refl _) hl.1 (Nat.le_of_ble_eq_true rfl) ⟨Nat.zero_le _, Nat.zero_le _⟩ rfl dX5_list__66 (fun H locs hP hS => ?_)
        refine lv_istore (lv' := [(6, .int x9), (0, .ref (q 42)), (2, .int v2), (3, .int v3), (4, .int v4), (5, .int v5)]) hx hb dX5_list__69 hl (by decide) rfl (fun ls hl => ?_)
        refine lv_iload hx hb dX5_list__71 (lv_at hl 0 rfl) ?_
        refine lv_bipush (v := (-2)) hx hb dX5_list__73 (by decide) ?_
        refine lv_icmp_ne (tgt := 81) hx hb dX5_list__75 (by decide) (fun c10 => ?_) (fun c10 => ?_)
        · have hf := if_f c10 hf
          refine lv_iload_n hx hb dX5_list__81 rfl (lv_at hl 3 rfl) ?_
          refine lv_iload_n hx hb dX5_list__82 rfl (lv_at hl 2 rfl) ?_
          refine lv_icmp_ne (tgt := 91) hx hb dX5_list__83 (by decide) (fun c11 => ?_) (fun c11 => ?_)
          · have hf := if_f c11 hf
            refine lv_iload hx hb dX5_list__91 (lv_at hl 4 rfl) ?_
            refine lv_istore (lv' := [(4, .int v4), (6, .int x9), (0, .ref (q 42)), (2, .int v2), (3, .int v3), (5, .int v5)]) hx hb dX5_list__93 hl (by decide) rfl (fun ls hl => ?_)
            refine lv_iinc (v := (v3 + 1)) (lv' := [(3, .int (v3 + 1)), (4, .int v4), (6, .int x9), (0, .ref (q 42)), (2, .int v2), (5, .int v5)]) hx hb dX5_list__95 hl (k := 4) rfl rfl (by decide) rfl (fun ls hl => ?_)
            refine lv_aload_n hx hb dX5_list__98 rfl (lv_at hl 3 rfl) ?_
            refine lv_iconst (v := 3) hx hb dX5_list__99 (by decide) ?_
            refine lv_iload hx hb dX5_list__100 (lv_at hl 5 rfl) ?_
            refine lv_imul hx hb dX5_list__102 ?_
            refine lv_iconst (v := 2) hx hb dX5_list__103 (by decide) ?_
            refine lv_iadd hx hb dX5_list__104 ?_
            obtain ⟨x12, hx12, hf⟩ := bd_some hf
            refine q_Vi C (rc := (RX5, TX5, 42)) (q0 := 0) (ci := 5) (ws' := wM G q st) (wr := []) (c_X5_headAt hx12) gX5_list__X5_headAt rfl ⟨rfl, rfl⟩ hdX5_headAt ⟨(Nat.le_of_ble_eq_true rfl), (Nat.le_of_ble_eq_true rfl)⟩ rfl hP (dd_M hD) hS rfl rfl (List.Perm.refl _) (List.Perm.refl _) hl.1 (Nat.le_of_ble_eq_true rfl) ⟨Nat.zero_le _, Nat.zero_le _⟩ rfl dX5_list__105 (fun H locs hP hS => ?_)
            refine lv_istore (lv' := [(5, .int x12), (3, .int (v3 + 1)), (4, .int v4), (6, .int x9), (0, .ref (q 42)), (2, .int v2)]) hx hb dX5_list__108 hl (by decide) rfl (fun ls hl => ?_)
            refine lv_goto (tgt := 43) hx hb dX5_list__110 (by decide) ?_
            exact ih hf hP hS (lv_sub hl [4, 5, 1, 2, 0] rfl)
          · have hf := if_t c11 hf
            refine lv_iload hx hb dX5_list__86 (lv_at hl 0 rfl) ?_
            refine lv_goto (tgt := 93) hx hb dX5_list__88 (by decide) ?_
            refine lv_istore (lv' := [(4, .int x9), (6, .int x9), (0, .ref (q 42)), (2, .int v2), (3, .int v3), (5, .int v5)]) hx hb dX5_list__93 hl (by decide) rfl (fun ls hl => ?_)
            refine lv_iinc (v := (v3 + 1)) (lv' := [(3, .int (v3 + 1)), (4, .int x9), (6, .int x9), (0, .ref (q 42)), (2, .int v2), (5, .int v5)]) hx hb dX5_list__95 hl (k := 4) rfl rfl (by decide) rfl (fun ls hl => ?_)
            refine lv_aload_n hx hb dX5_list__98 rfl (lv_at hl 3 rfl) ?_
            refine lv_iconst (v := 3) hx hb dX5_list__99 (by decide) ?_
            refine lv_iload hx hb dX5_list__100 (lv_at hl 5 rfl) ?_
            refine lv_imul hx hb dX5_list__102 ?_
            refine lv_iconst (v := 2) hx hb dX5_list__103 (by decide) ?_
            refine lv_iadd hx hb dX5_list__104 ?_
            obtain ⟨x13, hx13, hf⟩ := bd_some hf
            refine q_Vi C (rc := (RX5, TX5, 42)) (q0 := 0) (ci := 5) (ws' := wM G q st) (wr := []) (c_X5_headAt hx13) gX5_list__X5_headAt rfl ⟨rfl, rfl⟩ hdX5_headAt ⟨(Nat.le_of_ble_eq_true rfl), (Nat.le_of_ble_eq_true rfl)⟩ rfl hP (dd_M hD) hS rfl rfl (List.Perm.refl _) (List.Perm.refl _) hl.1 (Nat.le_of_ble_eq_true rfl) ⟨Nat.zero_le _, Nat.zero_le _⟩ rfl dX5_list__105 (fun H locs hP hS => ?_)
            refine lv_istore (lv' := [(5, .int x13), (3, .int (v3 + 1)), (4, .int x9), (6, .int x9), (0, .ref (q 42)), (2, .int v2)]) hx hb dX5_list__108 hl (by decide) rfl (fun ls hl => ?_)
            refine lv_goto (tgt := 43) hx hb dX5_list__110 (by decide) ?_
            exact ih hf hP hS (lv_sub hl [4, 5, 1, 2, 0] rfl)
        · have hf := if_t c10 hf
          refine lv_bipush (v := (-2)) hx hb dX5_list__78 (by decide) ?_
          cases hf
          exact q_iret C hP hS rfl dX5_list__80
set_option maxHeartbeats 4000000 in
set_option maxRecDepth 100000 in
theorem t_X5_list__14 {p : Program} {l : Launch} {e : Env} {s : State} {m : MethodId} {args : Array Value} {below : List Frame} {meth : Method} {c : Code} {A : Nat → Prop} {G : Gx} {q : Nat → Nat} {st0 : OSt} (C : Cx p s m args meth c G cX5_list_ wsX5_list_ RX5 (some .int) 7 A) (hD : va_D A (wM G q st0)) :
    ∀ {st : OSt} {v1 : Int32} {v2 : Int32} {k0 : Int32} {x : Int32 × OSt}, m_list__14 st v1 v2 k0 = some x → ∀ {H : Heap} {locs : List Loc} {ls : Array Slot}, va_P G.1 vwCl (wM G q st) H → va_S A s.heap H locs → lv_has ls 7 [(0, .ref (q 42)), (1, .int v1), (2, .int v2)] → W p l e rmX5_list_ s m args below meth c H locs 0 0 (MQ below (qE G A (wM G q x.2) (some (.int x.1))) args s 0 0 A) (F0 m 14 ls [.int k0, .ref (q 42)]) := by
  have hx := C.1
  have hb := C.2.1
  intro st v1 v2 k0 x hf H locs ls hP hS hl
  unfold m_list__14 at hf
  obtain ⟨s3, es3, hf⟩ := nm_ex hf
  refine q_put C hP (dd_M hD) hS wM_o rfl hiX5_list__X5 tyX5_ok nmX5 0 (by decide) wdX5_list__1 rfl rfl rfl (Nat.le_of_ble_eq_true rfl) wM_sI_0 dX5_list__14 (fun H locs hP hS => ?_)
  rw [es3] at hP
  refine lv_aload_n hx hb dX5_list__17 rfl (lv_at hl 0 rfl) ?_
  refine q_get C hP wM_o rfl hiX5_list__X5 0 (by decide) wdX5_list__1 rfl dX5_list__18 ?_
  refine lv_if_le (tgt := 26) hx hb dX5_list__21 (by decide) (fun c4 => ?_) (fun c4 => ?_)
  · have hf := if_t c4 hf
    refine lv_iconst (v := 0) hx hb dX5_list__26 (by decide) ?_
    refine lv_istore_n (lv' := [(3, .int 0), (0, .ref (q 42)), (1, .int v1), (2, .int v2)]) hx hb dX5_list__27 rfl hl (by decide) rfl (fun ls hl => ?_)
    refine lv_bipush (v := (-2)) hx hb dX5_list__28 (by decide) ?_
    refine lv_istore (lv' := [(4, .int (-2)), (3, .int 0), (0, .ref (q 42)), (1, .int v1), (2, .int v2)]) hx hb dX5_list__30 hl (by decide) rfl (fun ls hl => ?_)
    refine lv_aload_n hx hb dX5_list__32 rfl (lv_at hl 2 rfl) ?_
    refine lv_sipush (v := 1000) hx hb dX5_list__33 (by decide) ?_
    refine lv_iload_n hx hb dX5_list__36 rfl (lv_at hl 3 rfl) ?_
    refine lv_iadd hx hb dX5_list__37 ?_
    obtain ⟨x5, hx5, hf⟩ := bd_some hf
    refine q_Vi C (rc := (RX5, TX5, 42)) (q0 := 0) (ci := 5) (ws' := wM G q s3) (wr := []) (c_X5_headAt hx5) gX5_list__X5_headAt rfl ⟨rfl, rfl⟩ hdX5_headAt ⟨(Nat.le_of_ble_eq_true rfl), (Nat.le_of_ble_eq_true rfl)⟩ rfl hP (dd_M hD) hS rfl rfl (List.Perm.refl _) (List.Perm.refl _) hl.1 (Nat.le_of_ble_eq_true rfl) ⟨Nat.zero_le _, Nat.zero_le _⟩ rfl dX5_list__38 (fun H locs hP hS => ?_)
    refine lv_istore (lv' := [(5, .int x5), (4, .int (-2)), (3, .int 0), (0, .ref (q 42)), (1, .int v1), (2, .int v2)]) hx hb dX5_list__41 hl (by decide) rfl (fun ls hl => ?_)
    exact t_X5_list__43 C hD hf hP hS (lv_sub hl [3, 5, 2, 1, 0] rfl)
  · have hf := if_f c4 hf
    refine lv_iconst (v := 0) hx hb dX5_list__24 (by decide) ?_
    cases hf
    exact q_iret C hP hS rfl dX5_list__25
set_option maxHeartbeats 4000000 in
set_option maxRecDepth 100000 in
theorem c_X5_list_ {l : Launch} {G : Gx} {q : Nat → Nat} {st : OSt} {a1 : Int32} {a2 : Int32} {x : Int32 × OSt} (hf : m_list_ st a1 a2 = some x) : QM l G yX5_list_ wsX5_list_ rmX5_list_ [.ref (q 42), .int a1, .int a2] (wM G q st) (wM G q x.2) (some (.int x.1)) := by
  refine QM.of (cc := cX5_list_) (maxL := 7) (ret := (some .int)) (by decide) rfl (Nat.le_of_ble_eq_true rfl) ?_
  intro p e s m below meth c A ls C hD hP hS hl
  have hx := C.1
  have hb := C.2.1
  have hl : lv_has ls 7 [(0, .ref (q 42)), (1, .int a1), (2, .int a2)] := hl
  unfold m_list_ at hf
  refine lv_aload_n hx hb dX5_list__0 rfl (lv_at hl 0 rfl) ?_
  refine lv_aload_n hx hb dX5_list__1 rfl (lv_at hl 0 rfl) ?_
  refine lv_iload_n hx hb dX5_list__2 rfl (lv_at hl 1 rfl) ?_
  obtain ⟨x1, hx1, hf⟩ := bd_some hf
  refine q_Vi C (rc := (RX5, TX5, 42)) (q0 := 0) (ci := 5) (ws' := wM G q st) (wr := []) (c_X5_isRoot hx1) gX5_list__X5_isRoot rfl ⟨rfl, rfl⟩ hdX5_isRoot ⟨(Nat.le_of_ble_eq_true rfl), (Nat.le_of_ble_eq_true rfl)⟩ rfl hP (dd_M hD) hS rfl rfl (List.Perm.refl _) (List.Perm.refl _) hl.1 (Nat.le_of_ble_eq_true rfl) ⟨Nat.zero_le _, Nat.zero_le _⟩ rfl dX5_list__3 (fun H locs hP hS => ?_)
  refine lv_if_eq (tgt := 13) hx hb dX5_list__6 (by decide) (fun c2 => ?_) (fun c2 => ?_)
  · have hf := if_t c2 hf
    refine lv_iconst (v := 1) hx hb dX5_list__13 (by decide) ?_
    exact t_X5_list__14 C hD hf hP hS (lv_sub hl [0, 1, 2] rfl)
  · have hf := if_f c2 hf
    refine lv_iconst (v := 0) hx hb dX5_list__9 (by decide) ?_
    refine lv_goto (tgt := 14) hx hb dX5_list__10 (by decide) ?_
    exact t_X5_list__14 C hD hf hP hS (lv_sub hl [0, 1, 2] rfl)

-- X5_tells
theorem hiX5_tells_X5 : ∀ w ∈ u_ws RX5 TX5 42, w ∈ wsX5_tells := mem_run (i := 3) (by decide +kernel)
theorem wdX5_tells_1 : (Cond.fieldLink RX5 64 "CombinatorRingModel" "told" "[I") ∈ wsX5_tells := List.mem_of_getElem? (i := 1) rfl
theorem wdX5_tells_2 : (Cond.fieldLink RX5 277 "CombinatorRingModel" "toldMany" "I") ∈ wsX5_tells := List.mem_of_getElem? (i := 2) rfl
def m_tells (st : OSt) (a1 : Int32) : Option (OSt) := gd (st.1 32) 1400 (nm (sA st 33 (upd (st.2 33) (st.1 32).toNatClampNeg a1)) fun s1 => nm (sI s1 32 ((s1.1 32) + 1)) fun s2 => some s2)
abbrev rmX5_tells : Room := { frames := 0, cells := 0, slots := 0, locals := 0 }
theorem hdX5_tells : yX5_tells.cls = RX5 ∧ yX5_tells.cls ≠ "java/lang/invoke/MethodHandle" ∧ yX5_tells.cls ≠ "java/lang/invoke/VarHandle" ∧ (parseMethodDescriptor yX5_tells.desc).map (fun d => d.parameters.length) = some 1 := by decide +kernel
set_option maxHeartbeats 4000000 in
set_option maxRecDepth 100000 in
theorem c_X5_tells {l : Launch} {G : Gx} {q : Nat → Nat} {st : OSt} {a1 : Int32} {x : OSt} (hf : m_tells st a1 = some x) : QM l G yX5_tells wsX5_tells rmX5_tells [.ref (q 42), .int a1] (wM G q st) (wM G q x) none := by
  refine QM.of (cc := cX5_tells) (maxL := 2) (ret := none) (by decide) rfl (Nat.le_of_ble_eq_true rfl) ?_
  intro p e s m below meth c A ls C hD hP hS hl
  have hx := C.1
  have hb := C.2.1
  have hl : lv_has ls 2 [(0, .ref (q 42)), (1, .int a1)] := hl
  unfold m_tells at hf
  refine lv_aload_n hx hb dX5_tells_0 rfl (lv_at hl 0 rfl) ?_
  refine q_get C hP wM_o rfl hiX5_tells_X5 33 (by decide) wdX5_tells_1 rfl dX5_tells_1 ?_
  refine lv_aload_n hx hb dX5_tells_4 rfl (lv_at hl 0 rfl) ?_
  refine q_get C hP wM_o rfl hiX5_tells_X5 32 (by decide) wdX5_tells_2 rfl dX5_tells_5 ?_
  refine lv_iload_n hx hb dX5_tells_8 rfl (lv_at hl 1 rfl) ?_
  obtain ⟨hin, hf⟩ := gd_some hf
  obtain ⟨s1, es1, hf⟩ := nm_ex hf
  refine q_iast C hP (dd_M hD) hS wM_a_33 rfl wM_sA_33 hin dX5_tells_9 (fun H locs hP hS => ?_)
  rw [es1] at hP
  refine lv_aload_n hx hb dX5_tells_10 rfl (lv_at hl 0 rfl) ?_
  refine lv_dup hx hb dX5_tells_11 rfl ?_
  refine q_get C hP wM_o rfl hiX5_tells_X5 32 (by decide) wdX5_tells_2 rfl dX5_tells_12 ?_
  refine lv_iconst (v := 1) hx hb dX5_tells_15 (by decide) ?_
  refine lv_iadd hx hb dX5_tells_16 ?_
  obtain ⟨s2, es2, hf⟩ := nm_ex hf
  refine q_put C hP (dd_M hD) hS wM_o rfl hiX5_tells_X5 tyX5_ok nmX5 32 (by decide) wdX5_tells_2 rfl rfl rfl (Nat.le_of_ble_eq_true rfl) wM_sI_32 dX5_tells_17 (fun H locs hP hS => ?_)
  rw [es2] at hP
  cases hf
  exact q_vret C hP hS rfl dX5_tells_20

-- X5_looks
theorem hiX5_looks_X5 : ∀ w ∈ u_ws RX5 TX5 42, w ∈ wsX5_looks := mem_run (i := 22) (by decide +kernel)
theorem wdX5_looks_1 : (Cond.fieldLink RX5 61 "CombinatorRingModel" "place" "[I") ∈ wsX5_looks := List.mem_of_getElem? (i := 1) rfl
theorem wdX5_looks_2 : (Cond.fieldLink RX5 283 "CombinatorRingModel" "metMany" "I") ∈ wsX5_looks := List.mem_of_getElem? (i := 2) rfl
theorem wdX5_looks_3 : (Cond.fieldLink RX5 55 "CombinatorRingModel" "met" "[I") ∈ wsX5_looks := List.mem_of_getElem? (i := 3) rfl
theorem wdX5_looks_4 : (Cond.fieldLink RX5 58 "CombinatorRingModel" "metBy" "[I") ∈ wsX5_looks := List.mem_of_getElem? (i := 4) rfl
theorem wdX5_looks_5 : (Cond.fieldLink RX5 67 "CombinatorRingModel" "waits" "[I") ∈ wsX5_looks := List.mem_of_getElem? (i := 5) rfl
def m_looks_129 : Nat → OSt → Int32 → Int32 → Int32 → Int32 → Option (OSt × Int32)
  | 0, _, _, _, _, _ => none
  | n + 1, st, v3, v4, v5, v6 => if v6 < 0 then some (st, v5) else if v6 = (v3 - v3 / 3 * 3) then m_looks_129 n st v3 v4 v5 (v6 + (-1)) else bd (m_kindOf st v4) fun x15 => if x15 ≤ 0 then m_looks_129 n st v3 v4 v5 (v6 + (-1)) else gd v5 1000 (nm (sA st 34 (upd (st.2 34) v5.toNatClampNeg ((3 * v4) + v6))) fun s17 => m_looks_129 n s17 v3 v4 (v5 + 1) (v6 + (-1)))
def m_looks (st : OSt) (a1 : Int32) (a2 : Int32) : Option (Int32 × OSt) := bd (m_linkOf st a1) fun x1 => if x1 < 1000 then gd (x1 / 3) 300 (if (st.2 31 (x1 / 3).toNatClampNeg) = (-1) then bd (m_kindOf st (x1 / 3)) fun x4 => bd (m_tells st ((20000 + (3 * x4)) + (x1 - x1 / 3 * 3))) fun x5 => gd (x1 / 3) 300 (nm (sA x5 31 (upd (x5.2 31) (x1 / 3).toNatClampNeg (x5.1 28))) fun s6 => gd (s6.1 28) 300 (nm (sA s6 29 (upd (s6.2 29) (s6.1 28).toNatClampNeg (x1 / 3))) fun s7 => gd (s7.1 28) 300 (nm (sA s7 30 (upd (s7.2 30) (s7.1 28).toNatClampNeg (x1 - x1 / 3 * 3))) fun s8 => nm (sI s8 28 ((s8.1 28) + 1)) fun s9 => bd (m_looks_129 20000 s9 x1 (x1 / 3) a2 2) fun x10 => some (x10.2, x10.1)))) else gd (x1 / 3) 300 (bd (m_tells st ((10000 + (3 * (st.2 31 (x1 / 3).toNatClampNeg))) + (x1 - x1 / 3 * 3))) fun x11 => some (a2, x11))) else bd (m_tells st x1) fun x12 => some (a2, x12)
abbrev rmX5_looks : Room := { frames := 1, cells := 0, slots := 0, locals := 21 }
theorem hdX5_looks : yX5_looks.cls = RX5 ∧ yX5_looks.cls ≠ "java/lang/invoke/MethodHandle" ∧ yX5_looks.cls ≠ "java/lang/invoke/VarHandle" ∧ (parseMethodDescriptor yX5_looks.desc).map (fun d => d.parameters.length) = some 2 := by decide +kernel
set_option maxHeartbeats 4000000 in
set_option maxRecDepth 100000 in
theorem t_X5_looks_129 {p : Program} {l : Launch} {e : Env} {s : State} {m : MethodId} {args : Array Value} {below : List Frame} {meth : Method} {c : Code} {Q : State → Prop} {A : Nat → Prop} {G : Gx} {q : Nat → Nat} {st0 : OSt} (C : Cx p s m args meth c G cX5_looks wsX5_looks RX5 (some .int) 7 A) (hD : va_D A (wM G q st0)) :
    ∀ {n : Nat} {st : OSt} {v3 : Int32} {v4 : Int32} {v5 : Int32} {v6 : Int32} {x : OSt × Int32}, m_looks_129 n st v3 v4 v5 v6 = some x → ∀ {H : Heap} {locs : List Loc} {ls : Array Slot}, va_P G.1 vwCl (wM G q st) H → va_S A s.heap H locs → lv_has ls 7 [(0, .ref (q 42)), (3, .int v3), (4, .int v4), (5, .int v5), (6, .int v6)] → (∀ {H : Heap} {locs : List Loc} {ls : Array Slot}, va_P G.1 vwCl (wM G q x.1) H → va_S A s.heap H locs → lv_has ls 7 [(5, .int x.2)] → W p l e rmX5_looks s m args below meth c H locs 0 0 Q (F0 m 174 ls [])) → W p l e rmX5_looks s m args below meth c H locs 0 0 Q (F0 m 129 ls []) := by
  have hx := C.1
  have hb := C.2.1
  intro n
  induction n with
  | zero => intro st v3 v4 v5 v6 x hf; cases hf
  | succ n ih =>
    intro st v3 v4 v5 v6 x hf H locs ls hP hS hl kk
    rw [m_looks_129] at hf
    refine lv_iload hx hb dX5_looks_129 (lv_at hl 4 rfl) ?_
    refine lv_if_lt (tgt := 174) hx hb dX5_looks_131 (by decide) (fun c13 => ?_) (fun c13 => ?_)
    · have hf := if_t c13 hf
      cases hf
      exact kk hP hS (lv_sub hl [3] rfl)
    · have hf := if_f c13 hf
      refine lv_iload hx hb dX5_looks_134 (lv_at hl 4 rfl) ?_
      refine lv_iload_n hx hb dX5_looks_136 rfl (lv_at hl 1 rfl) ?_
      refine lv_iconst (v := 3) hx hb dX5_looks_137 (by decide) ?_
      refine lv_irem hx hb dX5_looks_138 (by decide) ?_
      refine lv_icmp_eq (tgt := 168) hx hb dX5_looks_139 (by decide) (fun c14 => ?_) (fun c14 => ?_)
      · have hf := if_t c14 hf
        refine lv_iinc (v := (v6 + (-1))) (lv' := [(6, .int (v6 + (-1))), (0, .ref (q 42)), (3, .int v3), (4, .int v4), (5, .int v5)]) hx hb dX5_looks_168 hl (k := 4) rfl rfl (by decide) rfl (fun ls hl => ?_)
        refine lv_goto (tgt := 129) hx hb dX5_looks_171 (by decide) ?_
        exact ih hf hP hS (lv_sub hl [1, 2, 3, 4, 0] rfl) kk
      · have hf := if_f c14 hf
        refine lv_aload_n hx hb dX5_looks_142 rfl (lv_at hl 0 rfl) ?_
        refine lv_iload hx hb dX5_looks_143 (lv_at hl 2 rfl) ?_
        obtain ⟨x15, hx15, hf⟩ := bd_some hf
        refine q_Vi C (rc := (RX5, TX5, 42)) (q0 := 0) (ci := 5) (ws' := wM G q st) (wr := []) (c_X5_kindOf hx15) gX5_looks_X5_kindOf rfl ⟨rfl, rfl⟩ hdX5_kindOf ⟨(Nat.le_of_ble_eq_true rfl), (Nat.le_of_ble_eq_true rfl)⟩ rfl hP (dd_M hD) hS rfl rfl (List.Perm.refl _) (List.Perm.refl _) hl.1 (Nat.le_of_ble_eq_true rfl) ⟨Nat.zero_le _, Nat.zero_le _⟩ rfl dX5_looks_145 (fun H locs hP hS => ?_)
        refine lv_if_le (tgt := 168) hx hb dX5_looks_148 (by decide) (fun c16 => ?_) (fun c16 => ?_)
        · have hf := if_t c16 hf
          refine lv_iinc (v := (v6 + (-1))) (lv' := [(6, .int (v6 + (-1))), (0, .ref (q 42)), (3, .int v3), (4, .int v4), (5, .int v5)]) hx hb dX5_looks_168 hl (k := 4) rfl rfl (by decide) rfl (fun ls hl => ?_)
          refine lv_goto (tgt := 129) hx hb dX5_looks_171 (by decide) ?_
          exact ih hf hP hS (lv_sub hl [1, 2, 3, 4, 0] rfl) kk
        · have hf := if_f c16 hf
          refine lv_aload_n hx hb dX5_looks_151 rfl (lv_at hl 0 rfl) ?_
          refine q_get C hP wM_o rfl hiX5_looks_X5 34 (by decide) wdX5_looks_5 rfl dX5_looks_152 ?_
          refine lv_iload hx hb dX5_looks_155 (lv_at hl 3 rfl) ?_
          refine lv_iconst (v := 3) hx hb dX5_looks_157 (by decide) ?_
          refine lv_iload hx hb dX5_looks_158 (lv_at hl 2 rfl) ?_
          refine lv_imul hx hb dX5_looks_160 ?_
          refine lv_iload hx hb dX5_looks_161 (lv_at hl 4 rfl) ?_
          refine lv_iadd hx hb dX5_looks_163 ?_
          obtain ⟨hin, hf⟩ := gd_some hf
          obtain ⟨s17, es17, hf⟩ := nm_ex hf
          refine q_iast C hP (dd_M hD) hS wM_a_34 rfl wM_sA_34 hin dX5_looks_164 (fun H locs hP hS => ?_)
          rw [es17] at hP
          refine lv_iinc (v := (v5 + 1)) (lv' := [(5, .int (v5 + 1)), (0, .ref (q 42)), (3, .int v3), (4, .int v4), (6, .int v6)]) hx hb dX5_looks_165 hl (k := 3) rfl rfl (by decide) rfl (fun ls hl => ?_)
          refine lv_iinc (v := (v6 + (-1))) (lv' := [(6, .int (v6 + (-1))), (5, .int (v5 + 1)), (0, .ref (q 42)), (3, .int v3), (4, .int v4)]) hx hb dX5_looks_168 hl (k := 4) rfl rfl (by decide) rfl (fun ls hl => ?_)
          refine lv_goto (tgt := 129) hx hb dX5_looks_171 (by decide) ?_
          exact ih hf hP hS (lv_sub hl [2, 3, 4, 1, 0] rfl) kk
set_option maxHeartbeats 4000000 in
set_option maxRecDepth 100000 in
theorem c_X5_looks {l : Launch} {G : Gx} {q : Nat → Nat} {st : OSt} {a1 : Int32} {a2 : Int32} {x : Int32 × OSt} (hf : m_looks st a1 a2 = some x) : QM l G yX5_looks wsX5_looks rmX5_looks [.ref (q 42), .int a1, .int a2] (wM G q st) (wM G q x.2) (some (.int x.1)) := by
  refine QM.of (cc := cX5_looks) (maxL := 7) (ret := (some .int)) (by decide) rfl (Nat.le_of_ble_eq_true rfl) ?_
  intro p e s m below meth c A ls C hD hP hS hl
  have hx := C.1
  have hb := C.2.1
  have hl : lv_has ls 7 [(0, .ref (q 42)), (1, .int a1), (2, .int a2)] := hl
  unfold m_looks at hf
  refine lv_aload_n hx hb dX5_looks_0 rfl (lv_at hl 0 rfl) ?_
  refine lv_iload_n hx hb dX5_looks_1 rfl (lv_at hl 1 rfl) ?_
  obtain ⟨x1, hx1, hf⟩ := bd_some hf
  refine q_Vi C (rc := (RX5, TX5, 42)) (q0 := 0) (ci := 5) (ws' := wM G q st) (wr := []) (c_X5_linkOf hx1) gX5_looks_X5_linkOf rfl ⟨rfl, rfl⟩ hdX5_linkOf ⟨(Nat.le_of_ble_eq_true rfl), (Nat.le_of_ble_eq_true rfl)⟩ rfl hP (dd_M hD) hS rfl rfl (List.Perm.refl _) (List.Perm.refl _) hl.1 (Nat.le_of_ble_eq_true rfl) ⟨Nat.zero_le _, Nat.zero_le _⟩ rfl dX5_looks_2 (fun H locs hP hS => ?_)
  refine lv_istore_n (lv' := [(3, .int x1), (0, .ref (q 42)), (1, .int a1), (2, .int a2)]) hx hb dX5_looks_5 rfl hl (by decide) rfl (fun ls hl => ?_)
  refine lv_iload_n hx hb dX5_looks_6 rfl (lv_at hl 0 rfl) ?_
  refine lv_sipush (v := 1000) hx hb dX5_looks_7 (by decide) ?_
  refine lv_icmp_lt (tgt := 20) hx hb dX5_looks_10 (by decide) (fun c2 => ?_) (fun c2 => ?_)
  · have hf := if_t c2 hf
    refine lv_iload_n hx hb dX5_looks_20 rfl (lv_at hl 0 rfl) ?_
    refine lv_iconst (v := 3) hx hb dX5_looks_21 (by decide) ?_
    refine lv_idiv hx hb dX5_looks_22 (by decide) ?_
    refine lv_istore (lv' := [(4, .int (x1 / 3)), (3, .int x1), (0, .ref (q 42)), (1, .int a1), (2, .int a2)]) hx hb dX5_looks_23 hl (by decide) rfl (fun ls hl => ?_)
    refine lv_aload_n hx hb dX5_looks_25 rfl (lv_at hl 2 rfl) ?_
    refine q_get C hP wM_o rfl hiX5_looks_X5 31 (by decide) wdX5_looks_1 rfl dX5_looks_26 ?_
    refine lv_iload hx hb dX5_looks_29 (lv_at hl 0 rfl) ?_
    obtain ⟨hin, hf⟩ := gd_some hf
    refine q_iald C hP wM_a_31 rfl hin dX5_looks_31 ?_
    refine lv_iconst (v := (-1)) hx hb dX5_looks_32 (by decide) ?_
    refine lv_icmp_eq (tgt := 59) hx hb dX5_looks_33 (by decide) (fun c3 => ?_) (fun c3 => ?_)
    · have hf := if_t c3 hf
      refine lv_aload_n hx hb dX5_looks_59 rfl (lv_at hl 2 rfl) ?_
      refine lv_sipush (v := 20000) hx hb dX5_looks_60 (by decide) ?_
      refine lv_iconst (v := 3) hx hb dX5_looks_63 (by decide) ?_
      refine lv_aload_n hx hb dX5_looks_64 rfl (lv_at hl 2 rfl) ?_
      refine lv_iload hx hb dX5_looks_65 (lv_at hl 0 rfl) ?_
      obtain ⟨x4, hx4, hf⟩ := bd_some hf
      refine q_Vi C (rc := (RX5, TX5, 42)) (q0 := 0) (ci := 5) (ws' := wM G q st) (wr := []) (c_X5_kindOf hx4) gX5_looks_X5_kindOf rfl ⟨rfl, rfl⟩ hdX5_kindOf ⟨(Nat.le_of_ble_eq_true rfl), (Nat.le_of_ble_eq_true rfl)⟩ rfl hP (dd_M hD) hS rfl rfl (List.Perm.refl _) (List.Perm.refl _) hl.1 (Nat.le_of_ble_eq_true rfl) ⟨Nat.zero_le _, Nat.zero_le _⟩ rfl dX5_looks_67 (fun H locs hP hS => ?_)
      refine lv_imul hx hb dX5_looks_70 ?_
      refine lv_iadd hx hb dX5_looks_71 ?_
      refine lv_iload_n hx hb dX5_looks_72 rfl (lv_at hl 1 rfl) ?_
      refine lv_iconst (v := 3) hx hb dX5_looks_73 (by decide) ?_
      refine lv_irem hx hb dX5_looks_74 (by decide) ?_
      refine lv_iadd hx hb dX5_looks_75 ?_
      obtain ⟨x5, hx5, hf⟩ := bd_some hf
      refine q_Vv C (rc := (RX5, TX5, 42)) (q0 := 0) (ci := 5) (ws' := wM G q x5) (wr := []) (c_X5_tells hx5) gX5_looks_X5_tells rfl ⟨rfl, rfl⟩ hdX5_tells ⟨(Nat.le_of_ble_eq_true rfl), (Nat.le_of_ble_eq_true rfl)⟩ rfl hP (dd_M hD) hS rfl rfl (List.Perm.refl _) (List.Perm.refl _) hl.1 (Nat.le_of_ble_eq_true rfl) ⟨Nat.zero_le _, Nat.zero_le _⟩ rfl dX5_looks_76 (fun H locs hP hS => ?_)
      refine lv_aload_n hx hb dX5_looks_79 rfl (lv_at hl 2 rfl) ?_
      refine q_get C hP wM_o rfl hiX5_looks_X5 31 (by decide) wdX5_looks_1 rfl dX5_looks_80 ?_
      refine lv_iload hx hb dX5_looks_83 (lv_at hl 0 rfl) ?_
      refine lv_aload_n hx hb dX5_looks_85 rfl (lv_at hl 2 rfl) ?_
      refine q_get C hP wM_o rfl hiX5_looks_X5 28 (by decide) wdX5_looks_2 rfl dX5_looks_86 ?_
      obtain ⟨hin, hf⟩ := gd_some hf
      obtain ⟨s6, es6, hf⟩ := nm_ex hf
      refine q_iast C hP (dd_M hD) hS wM_a_31 rfl wM_sA_31 hin dX5_looks_89 (fun H locs hP hS => ?_)
      rw [es6] at hP
      refine lv_aload_n hx hb dX5_looks_90 rfl (lv_at hl 2 rfl) ?_
      refine q_get C hP wM_o rfl hiX5_looks_X5 29 (by decide) wdX5_looks_3 rfl dX5_looks_91 ?_
      refine lv_aload_n hx hb dX5_looks_94 rfl (lv_at hl 2 rfl) ?_
      refine q_get C hP wM_o rfl hiX5_looks_X5 28 (by decide) wdX5_looks_2 rfl dX5_looks_95 ?_
      refine lv_iload hx hb dX5_looks_98 (lv_at hl 0 rfl) ?_
      obtain ⟨hin, hf⟩ := gd_some hf
      obtain ⟨s7, es7, hf⟩ := nm_ex hf
      refine q_iast C hP (dd_M hD) hS wM_a_29 rfl wM_sA_29 hin dX5_looks_100 (fun H locs hP hS => ?_)
      rw [es7] at hP
      refine lv_aload_n hx hb dX5_looks_101 rfl (lv_at hl 2 rfl) ?_
      refine q_get C hP wM_o rfl hiX5_looks_X5 30 (by decide) wdX5_looks_4 rfl dX5_looks_102 ?_
      refine lv_aload_n hx hb dX5_looks_105 rfl (lv_at hl 2 rfl) ?_
      refine q_get C hP wM_o rfl hiX5_looks_X5 28 (by decide) wdX5_looks_2 rfl dX5_looks_106 ?_
      refine lv_iload_n hx hb dX5_looks_109 rfl (lv_at hl 1 rfl) ?_
      refine lv_iconst (v := 3) hx hb dX5_looks_110 (by decide) ?_
      refine lv_irem hx hb dX5_looks_111 (by decide) ?_
      obtain ⟨hin, hf⟩ := gd_some hf
      obtain ⟨s8, es8, hf⟩ := nm_ex hf
      refine q_iast C hP (dd_M hD) hS wM_a_30 rfl wM_sA_30 hin dX5_looks_112 (fun H locs hP hS => ?_)
      rw [es8] at hP
      refine lv_aload_n hx hb dX5_looks_113 rfl (lv_at hl 2 rfl) ?_
      refine lv_dup hx hb dX5_looks_114 rfl ?_
      refine q_get C hP wM_o rfl hiX5_looks_X5 28 (by decide) wdX5_looks_2 rfl dX5_looks_115 ?_
      refine lv_iconst (v := 1) hx hb dX5_looks_118 (by decide) ?_
      refine lv_iadd hx hb dX5_looks_119 ?_
      obtain ⟨s9, es9, hf⟩ := nm_ex hf
      refine q_put C hP (dd_M hD) hS wM_o rfl hiX5_looks_X5 tyX5_ok nmX5 28 (by decide) wdX5_looks_2 rfl rfl rfl (Nat.le_of_ble_eq_true rfl) wM_sI_28 dX5_looks_120 (fun H locs hP hS => ?_)
      rw [es9] at hP
      refine lv_iload_n hx hb dX5_looks_123 rfl (lv_at hl 4 rfl) ?_
      refine lv_istore (lv' := [(5, .int a2), (4, .int (x1 / 3)), (3, .int x1), (0, .ref (q 42)), (1, .int a1), (2, .int a2)]) hx hb dX5_looks_124 hl (by decide) rfl (fun ls hl => ?_)
      refine lv_iconst (v := 2) hx hb dX5_looks_126 (by decide) ?_
      refine lv_istore (lv' := [(6, .int 2), (5, .int a2), (4, .int (x1 / 3)), (3, .int x1), (0, .ref (q 42)), (1, .int a1), (2, .int a2)]) hx hb dX5_looks_127 hl (by decide) rfl (fun ls hl => ?_)
      obtain ⟨x10, hx10, hf⟩ := bd_some hf
      refine t_X5_looks_129 C hD hx10 hP hS (lv_sub hl [4, 3, 2, 1, 0] rfl) (fun {H locs ls} hP hS hl => ?_)
      refine lv_iload hx hb dX5_looks_174 (lv_at hl 0 rfl) ?_
      cases hf
      exact q_iret C hP hS rfl dX5_looks_176
    · have hf := if_f c3 hf
      refine lv_aload_n hx hb dX5_looks_36 rfl (lv_at hl 2 rfl) ?_
      refine lv_sipush (v := 10000) hx hb dX5_looks_37 (by decide) ?_
      refine lv_iconst (v := 3) hx hb dX5_looks_40 (by decide) ?_
      refine lv_aload_n hx hb dX5_looks_41 rfl (lv_at hl 2 rfl) ?_
      refine q_get C hP wM_o rfl hiX5_looks_X5 31 (by decide) wdX5_looks_1 rfl dX5_looks_42 ?_
      refine lv_iload hx hb dX5_looks_45 (lv_at hl 0 rfl) ?_
      obtain ⟨hin, hf⟩ := gd_some hf
      refine q_iald C hP wM_a_31 rfl hin dX5_looks_47 ?_
      refine lv_imul hx hb dX5_looks_48 ?_
      refine lv_iadd hx hb dX5_looks_49 ?_
      refine lv_iload_n hx hb dX5_looks_50 rfl (lv_at hl 1 rfl) ?_
      refine lv_iconst (v := 3) hx hb dX5_looks_51 (by decide) ?_
      refine lv_irem hx hb dX5_looks_52 (by decide) ?_
      refine lv_iadd hx hb dX5_looks_53 ?_
      obtain ⟨x11, hx11, hf⟩ := bd_some hf
      refine q_Vv C (rc := (RX5, TX5, 42)) (q0 := 0) (ci := 5) (ws' := wM G q x11) (wr := []) (c_X5_tells hx11) gX5_looks_X5_tells rfl ⟨rfl, rfl⟩ hdX5_tells ⟨(Nat.le_of_ble_eq_true rfl), (Nat.le_of_ble_eq_true rfl)⟩ rfl hP (dd_M hD) hS rfl rfl (List.Perm.refl _) (List.Perm.refl _) hl.1 (Nat.le_of_ble_eq_true rfl) ⟨Nat.zero_le _, Nat.zero_le _⟩ rfl dX5_looks_54 (fun H locs hP hS => ?_)
      refine lv_iload_n hx hb dX5_looks_57 rfl (lv_at hl 4 rfl) ?_
      cases hf
      exact q_iret C hP hS rfl dX5_looks_58
  · have hf := if_f c2 hf
    refine lv_aload_n hx hb dX5_looks_13 rfl (lv_at hl 1 rfl) ?_
    refine lv_iload_n hx hb dX5_looks_14 rfl (lv_at hl 0 rfl) ?_
    obtain ⟨x12, hx12, hf⟩ := bd_some hf
    refine q_Vv C (rc := (RX5, TX5, 42)) (q0 := 0) (ci := 5) (ws' := wM G q x12) (wr := []) (c_X5_tells hx12) gX5_looks_X5_tells rfl ⟨rfl, rfl⟩ hdX5_tells ⟨(Nat.le_of_ble_eq_true rfl), (Nat.le_of_ble_eq_true rfl)⟩ rfl hP (dd_M hD) hS rfl rfl (List.Perm.refl _) (List.Perm.refl _) hl.1 (Nat.le_of_ble_eq_true rfl) ⟨Nat.zero_le _, Nat.zero_le _⟩ rfl dX5_looks_15 (fun H locs hP hS => ?_)
    refine lv_iload_n hx hb dX5_looks_18 rfl (lv_at hl 3 rfl) ?_
    cases hf
    exact q_iret C hP hS rfl dX5_looks_19

-- X5_looksAll
theorem hiX5_looksAll_X5 : ∀ w ∈ u_ws RX5 TX5 42, w ∈ wsX5_looksAll := mem_run (i := 33) (by decide +kernel)
theorem wdX5_looksAll_2 : (Cond.fieldLink RX5 277 "CombinatorRingModel" "toldMany" "I") ∈ wsX5_looksAll := List.mem_of_getElem? (i := 2) rfl
theorem wdX5_looksAll_1 : (Cond.fieldLink RX5 283 "CombinatorRingModel" "metMany" "I") ∈ wsX5_looksAll := List.mem_of_getElem? (i := 1) rfl
theorem wdX5_looksAll_3 : (Cond.fieldLink RX5 61 "CombinatorRingModel" "place" "[I") ∈ wsX5_looksAll := List.mem_of_getElem? (i := 3) rfl
theorem wdX5_looksAll_4 : (Cond.fieldLink RX5 67 "CombinatorRingModel" "waits" "[I") ∈ wsX5_looksAll := List.mem_of_getElem? (i := 4) rfl
def m_looksAll_12 : Nat → OSt → Int32 → Option (OSt)
  | 0, _, _ => none
  | n + 1, st, v1 => if 300 ≤ v1 then some st else gd v1 300 (nm (sA st 31 (upd (st.2 31) v1.toNatClampNeg (-1))) fun s6 => m_looksAll_12 n s6 (v1 + 1))
def m_looksAll_68 : Nat → OSt → Int32 → Int32 → Option (OSt)
  | 0, _, _, _ => none
  | n + 1, st, v1, v2 => if v2 ≤ 0 then some st else gd (v2 - 1) 1000 (bd (m_looks st (st.2 34 (v2 - 1).toNatClampNeg) (v2 - 1)) fun x14 => m_looksAll_68 n x14.2 v1 x14.1)
def m_looksAll_34 : Nat → OSt → Int32 → Option (OSt)
  | 0, _, _ => none
  | n + 1, st, v1 => if 16 ≤ v1 then some st else bd (m_isRoot st v1) fun x8 => if x8 = 0 then m_looksAll_34 n st (v1 + 1) else bd (m_tells st (30000 + v1)) fun x10 => bd (m_looks x10 (1000 + v1) 0) fun x11 => bd (m_looksAll_68 20000 x11.2 v1 x11.1) fun x12 => m_looksAll_34 n x12 (v1 + 1)
def m_looksAll (st : OSt)  : Option (OSt) := nm (sI st 28 0) fun s1 => nm (sI s1 32 0) fun s2 => bd (m_looksAll_12 20000 s2 0) fun x3 => bd (m_looksAll_34 20000 x3 0) fun x4 => some x4
abbrev rmX5_looksAll : Room := { frames := 2, cells := 0, slots := 0, locals := 47 }
theorem hdX5_looksAll : yX5_looksAll.cls = RX5 ∧ yX5_looksAll.cls ≠ "java/lang/invoke/MethodHandle" ∧ yX5_looksAll.cls ≠ "java/lang/invoke/VarHandle" ∧ (parseMethodDescriptor yX5_looksAll.desc).map (fun d => d.parameters.length) = some 0 := by decide +kernel
set_option maxHeartbeats 4000000 in
set_option maxRecDepth 100000 in
theorem t_X5_looksAll_12 {p : Program} {l : Launch} {e : Env} {s : State} {m : MethodId} {args : Array Value} {below : List Frame} {meth : Method} {c : Code} {Q : State → Prop} {A : Nat → Prop} {G : Gx} {q : Nat → Nat} {st0 : OSt} (C : Cx p s m args meth c G cX5_looksAll wsX5_looksAll RX5 none 3 A) (hD : va_D A (wM G q st0)) :
    ∀ {n : Nat} {st : OSt} {v1 : Int32} {x : OSt}, m_looksAll_12 n st v1 = some x → ∀ {H : Heap} {locs : List Loc} {ls : Array Slot}, va_P G.1 vwCl (wM G q st) H → va_S A s.heap H locs → lv_has ls 3 [(0, .ref (q 42)), (1, .int v1)] → (∀ {H : Heap} {locs : List Loc} {ls : Array Slot}, va_P G.1 vwCl (wM G q x) H → va_S A s.heap H locs → lv_has ls 3 [(0, .ref (q 42))] → W p l e rmX5_looksAll s m args below meth c H locs 0 0 Q (F0 m 32 ls [])) → W p l e rmX5_looksAll s m args below meth c H locs 0 0 Q (F0 m 12 ls []) := by
  have hx := C.1
  have hb := C.2.1
  intro n
  induction n with
  | zero => intro st v1 x hf; cases hf
  | succ n ih =>
    intro st v1 x hf H locs ls hP hS hl kk
    rw [m_looksAll_12] at hf
    refine lv_iload_n hx hb dX5_looksAll_12 rfl (lv_at hl 1 rfl) ?_
    refine lv_sipush (v := 300) hx hb dX5_looksAll_13 (by decide) ?_
    refine lv_icmp_ge (tgt := 32) hx hb dX5_looksAll_16 (by decide) (fun c5 => ?_) (fun c5 => ?_)
    · have hf := if_t c5 hf
      cases hf
      exact kk hP hS (lv_sub hl [0] rfl)
    · have hf := if_f c5 hf
      refine lv_aload_n hx hb dX5_looksAll_19 rfl (lv_at hl 0 rfl) ?_
      refine q_get C hP wM_o rfl hiX5_looksAll_X5 31 (by decide) wdX5_looksAll_3 rfl dX5_looksAll_20 ?_
      refine lv_iload_n hx hb dX5_looksAll_23 rfl (lv_at hl 1 rfl) ?_
      refine lv_iconst (v := (-1)) hx hb dX5_looksAll_24 (by decide) ?_
      obtain ⟨hin, hf⟩ := gd_some hf
      obtain ⟨s6, es6, hf⟩ := nm_ex hf
      refine q_iast C hP (dd_M hD) hS wM_a_31 rfl wM_sA_31 hin dX5_looksAll_25 (fun H locs hP hS => ?_)
      rw [es6] at hP
      refine lv_iinc (v := (v1 + 1)) (lv' := [(1, .int (v1 + 1)), (0, .ref (q 42))]) hx hb dX5_looksAll_26 hl (k := 1) rfl rfl (by decide) rfl (fun ls hl => ?_)
      refine lv_goto (tgt := 12) hx hb dX5_looksAll_29 (by decide) ?_
      exact ih hf hP hS (lv_sub hl [1, 0] rfl) kk
set_option maxHeartbeats 4000000 in
set_option maxRecDepth 100000 in
theorem t_X5_looksAll_68 {p : Program} {l : Launch} {e : Env} {s : State} {m : MethodId} {args : Array Value} {below : List Frame} {meth : Method} {c : Code} {Q : State → Prop} {A : Nat → Prop} {G : Gx} {q : Nat → Nat} {st0 : OSt} (C : Cx p s m args meth c G cX5_looksAll wsX5_looksAll RX5 none 3 A) (hD : va_D A (wM G q st0)) :
    ∀ {n : Nat} {st : OSt} {v1 : Int32} {v2 : Int32} {x : OSt}, m_looksAll_68 n st v1 v2 = some x → ∀ {H : Heap} {locs : List Loc} {ls : Array Slot}, va_P G.1 vwCl (wM G q st) H → va_S A s.heap H locs → lv_has ls 3 [(0, .ref (q 42)), (1, .int v1), (2, .int v2)] → (∀ {H : Heap} {locs : List Loc} {ls : Array Slot}, va_P G.1 vwCl (wM G q x) H → va_S A s.heap H locs → lv_has ls 3 [(0, .ref (q 42)), (1, .int v1)] → W p l e rmX5_looksAll s m args below meth c H locs 0 0 Q (F0 m 91 ls [])) → W p l e rmX5_looksAll s m args below meth c H locs 0 0 Q (F0 m 68 ls []) := by
  have hx := C.1
  have hb := C.2.1
  intro n
  induction n with
  | zero => intro st v1 v2 x hf; cases hf
  | succ n ih =>
    intro st v1 v2 x hf H locs ls hP hS hl kk
    rw [m_looksAll_68] at hf
    refine lv_iload_n hx hb dX5_looksAll_68 rfl (lv_at hl 2 rfl) ?_
    refine lv_if_le (tgt := 91) hx hb dX5_looksAll_69 (by decide) (fun c13 => ?_) (fun c13 => ?_)
    · have hf := if_t c13 hf
      cases hf
      exact kk hP hS (lv_sub hl [0, 1] rfl)
    · have hf := if_f c13 hf
      refine lv_aload_n hx hb dX5_looksAll_72 rfl (lv_at hl 0 rfl) ?_
      refine lv_aload_n hx hb dX5_looksAll_73 rfl (lv_at hl 0 rfl) ?_
      refine q_get C hP wM_o rfl hiX5_looksAll_X5 34 (by decide) wdX5_looksAll_4 rfl dX5_looksAll_74 ?_
      refine lv_iload_n hx hb dX5_looksAll_77 rfl (lv_at hl 2 rfl) ?_
      refine lv_iconst (v := 1) hx hb dX5_looksAll_78 (by decide) ?_
      refine lv_isub hx hb dX5_looksAll_79 ?_
      obtain ⟨hin, hf⟩ := gd_some hf
      refine q_iald C hP wM_a_34 rfl hin dX5_looksAll_80 ?_
      refine lv_iload_n hx hb dX5_looksAll_81 rfl (lv_at hl 2 rfl) ?_
      refine lv_iconst (v := 1) hx hb dX5_looksAll_82 (by decide) ?_
      refine lv_isub hx hb dX5_looksAll_83 ?_
      obtain ⟨x14, hx14, hf⟩ := bd_some hf
      refine q_Vi C (rc := (RX5, TX5, 42)) (q0 := 0) (ci := 5) (ws' := wM G q x14.2) (wr := []) (c_X5_looks hx14) gX5_looksAll_X5_looks rfl ⟨rfl, rfl⟩ hdX5_looks ⟨(Nat.le_of_ble_eq_true rfl), (Nat.le_of_ble_eq_true rfl)⟩ rfl hP (dd_M hD) hS rfl rfl (List.Perm.refl _) (List.Perm.refl _) hl.1 (Nat.le_of_ble_eq_true rfl) ⟨Nat.zero_le _, Nat.zero_le _⟩ rfl dX5_looksAll_84 (fun H locs hP hS => ?_)
      refine lv_istore_n (lv' := [(2, .int x14.1), (0, .ref (q 42)), (1, .int v1)]) hx hb dX5_looksAll_87 rfl hl (by decide) rfl (fun ls hl => ?_)
      refine lv_goto (tgt := 68) hx hb dX5_looksAll_88 (by decide) ?_
      exact ih hf hP hS (lv_sub hl [1, 2, 0] rfl) kk
set_option maxHeartbeats 4000000 in
set_option maxRecDepth 100000 in
theorem t_X5_looksAll_34 {p : Program} {l : Launch} {e : Env} {s : State} {m : MethodId} {args : Array Value} {below : List Frame} {meth : Method} {c : Code} {Q : State → Prop} {A : Nat → Prop} {G : Gx} {q : Nat → Nat} {st0 : OSt} (C : Cx p s m args meth c G cX5_looksAll wsX5_looksAll RX5 none 3 A) (hD : va_D A (wM G q st0)) :
    ∀ {n : Nat} {st : OSt} {v1 : Int32} {x : OSt}, m_looksAll_34 n st v1 = some x → ∀ {H : Heap} {locs : List Loc} {ls : Array Slot}, va_P G.1 vwCl (wM G q st) H → va_S A s.heap H locs → lv_has ls 3 [(0, .ref (q 42)), (1, .int v1)] → (∀ {H : Heap} {locs : List Loc} {ls : Array Slot}, va_P G.1 vwCl (wM G q x) H → va_S A s.heap H locs → lv_has ls 3 [] → W p l e rmX5_looksAll s m args below meth c H locs 0 0 Q (F0 m 97 ls [])) → W p l e rmX5_looksAll s m args below meth c H locs 0 0 Q (F0 m 34 ls []) := by
  have hx := C.1
  have hb := C.2.1
  intro n
  induction n with
  | zero => intro st v1 x hf; cases hf
  | succ n ih =>
    intro st v1 x hf H locs ls hP hS hl kk
    rw [m_looksAll_34] at hf
    refine lv_iload_n hx hb dX5_looksAll_34 rfl (lv_at hl 1 rfl) ?_
    refine lv_bipush (v := 16) hx hb dX5_looksAll_35 (by decide) ?_
    refine lv_icmp_ge (tgt := 97) hx hb dX5_looksAll_37 (by decide) (fun c7 => ?_) (fun c7 => ?_)
    · have hf := if_t c7 hf
      cases hf
      exact kk hP hS (lv_sub hl [] rfl)
    · have hf := if_f c7 hf
      refine lv_aload_n hx hb dX5_looksAll_40 rfl (lv_at hl 0 rfl) ?_
      refine lv_iload_n hx hb dX5_looksAll_41 rfl (lv_at hl 1 rfl) ?_
      obtain ⟨x8, hx8, hf⟩ := bd_some hf
      refine q_Vi C (rc := (RX5, TX5, 42)) (q0 := 0) (ci := 5) (ws' := wM G q st) (wr := []) (c_X5_isRoot hx8) gX5_looksAll_X5_isRoot rfl ⟨rfl, rfl⟩ hdX5_isRoot ⟨(Nat.le_of_ble_eq_true rfl), (Nat.le_of_ble_eq_true rfl)⟩ rfl hP (dd_M hD) hS rfl rfl (List.Perm.refl _) (List.Perm.refl _) hl.1 (Nat.le_of_ble_eq_true rfl) ⟨Nat.zero_le _, Nat.zero_le _⟩ rfl dX5_looksAll_42 (fun H locs hP hS => ?_)
      refine lv_if_eq (tgt := 91) hx hb dX5_looksAll_45 (by decide) (fun c9 => ?_) (fun c9 => ?_)
      · have hf := if_t c9 hf
        refine lv_iinc (v := (v1 + 1)) (lv' := [(1, .int (v1 + 1)), (0, .ref (q 42))]) hx hb dX5_looksAll_91 hl (k := 1) rfl rfl (by decide) rfl (fun ls hl => ?_)
        refine lv_goto (tgt := 34) hx hb dX5_looksAll_94 (by decide) ?_
        exact ih hf hP hS (lv_sub hl [1, 0] rfl) kk
      · have hf := if_f c9 hf
        refine lv_aload_n hx hb dX5_looksAll_48 rfl (lv_at hl 0 rfl) ?_
        refine lv_sipush (v := 30000) hx hb dX5_looksAll_49 (by decide) ?_
        refine lv_iload_n hx hb dX5_looksAll_52 rfl (lv_at hl 1 rfl) ?_
        refine lv_iadd hx hb dX5_looksAll_53 ?_
        obtain ⟨x10, hx10, hf⟩ := bd_some hf
        refine q_Vv C (rc := (RX5, TX5, 42)) (q0 := 0) (ci := 5) (ws' := wM G q x10) (wr := []) (c_X5_tells hx10) gX5_looksAll_X5_tells rfl ⟨rfl, rfl⟩ hdX5_tells ⟨(Nat.le_of_ble_eq_true rfl), (Nat.le_of_ble_eq_true rfl)⟩ rfl hP (dd_M hD) hS rfl rfl (List.Perm.refl _) (List.Perm.refl _) hl.1 (Nat.le_of_ble_eq_true rfl) ⟨Nat.zero_le _, Nat.zero_le _⟩ rfl dX5_looksAll_54 (fun H locs hP hS => ?_)
        refine lv_aload_n hx hb dX5_looksAll_57 rfl (lv_at hl 0 rfl) ?_
        refine lv_sipush (v := 1000) hx hb dX5_looksAll_58 (by decide) ?_
        refine lv_iload_n hx hb dX5_looksAll_61 rfl (lv_at hl 1 rfl) ?_
        refine lv_iadd hx hb dX5_looksAll_62 ?_
        refine lv_iconst (v := 0) hx hb dX5_looksAll_63 (by decide) ?_
        obtain ⟨x11, hx11, hf⟩ := bd_some hf
        refine q_Vi C (rc := (RX5, TX5, 42)) (q0 := 0) (ci := 5) (ws' := wM G q x11.2) (wr := []) (c_X5_looks hx11) gX5_looksAll_X5_looks rfl ⟨rfl, rfl⟩ hdX5_looks ⟨(Nat.le_of_ble_eq_true rfl), (Nat.le_of_ble_eq_true rfl)⟩ rfl hP (dd_M hD) hS rfl rfl (List.Perm.refl _) (List.Perm.refl _) hl.1 (Nat.le_of_ble_eq_true rfl) ⟨Nat.zero_le _, Nat.zero_le _⟩ rfl dX5_looksAll_64 (fun H locs hP hS => ?_)
        refine lv_istore_n (lv' := [(2, .int x11.1), (0, .ref (q 42)), (1, .int v1)]) hx hb dX5_looksAll_67 rfl hl (by decide) rfl (fun ls hl => ?_)
        obtain ⟨x12, hx12, hf⟩ := bd_some hf
        refine t_X5_looksAll_68 C hD hx12 hP hS (lv_sub hl [1, 2, 0] rfl) (fun {H locs ls} hP hS hl => ?_)
        refine lv_iinc (v := (v1 + 1)) (lv' := [(1, .int (v1 + 1)), (0, .ref (q 42))]) hx hb dX5_looksAll_91 hl (k := 1) rfl rfl (by decide) rfl (fun ls hl => ?_)
        refine lv_goto (tgt := 34) hx hb dX5_looksAll_94 (by decide) ?_
        exact ih hf hP hS (lv_sub hl [1, 0] rfl) kk
set_option maxHeartbeats 4000000 in
set_option maxRecDepth 100000 in
theorem c_X5_looksAll {l : Launch} {G : Gx} {q : Nat → Nat} {st : OSt}  {x : OSt} (hf : m_looksAll st = some x) : QM l G yX5_looksAll wsX5_looksAll rmX5_looksAll [.ref (q 42)] (wM G q st) (wM G q x) none := by
  refine QM.of (cc := cX5_looksAll) (maxL := 3) (ret := none) (by decide) rfl (Nat.le_of_ble_eq_true rfl) ?_
  intro p e s m below meth c A ls C hD hP hS hl
  have hx := C.1
  have hb := C.2.1
  have hl : lv_has ls 3 [(0, .ref (q 42))] := hl
  unfold m_looksAll at hf
  refine lv_aload_n hx hb dX5_looksAll_0 rfl (lv_at hl 0 rfl) ?_
  refine lv_iconst (v := 0) hx hb dX5_looksAll_1 (by decide) ?_
  obtain ⟨s1, es1, hf⟩ := nm_ex hf
  refine q_put C hP (dd_M hD) hS wM_o rfl hiX5_looksAll_X5 tyX5_ok nmX5 28 (by decide) wdX5_looksAll_1 rfl rfl rfl (Nat.le_of_ble_eq_true rfl) wM_sI_28 dX5_looksAll_2 (fun H locs hP hS => ?_)
  rw [es1] at hP
  refine lv_aload_n hx hb dX5_looksAll_5 rfl (lv_at hl 0 rfl) ?_
  refine lv_iconst (v := 0) hx hb dX5_looksAll_6 (by decide) ?_
  obtain ⟨s2, es2, hf⟩ := nm_ex hf
  refine q_put C hP (dd_M hD) hS wM_o rfl hiX5_looksAll_X5 tyX5_ok nmX5 32 (by decide) wdX5_looksAll_2 rfl rfl rfl (Nat.le_of_ble_eq_true rfl) wM_sI_32 dX5_looksAll_7 (fun H locs hP hS => ?_)
  rw [es2] at hP
  refine lv_iconst (v := 0) hx hb dX5_looksAll_10 (by decide) ?_
  refine lv_istore_n (lv' := [(1, .int 0), (0, .ref (q 42))]) hx hb dX5_looksAll_11 rfl hl (by decide) rfl (fun ls hl => ?_)
  obtain ⟨x3, hx3, hf⟩ := bd_some hf
  refine t_X5_looksAll_12 C hD hx3 hP hS (lv_sub hl [1, 0] rfl) (fun {H locs ls} hP hS hl => ?_)
  refine lv_iconst (v := 0) hx hb dX5_looksAll_32 (by decide) ?_
  refine lv_istore_n (lv' := [(1, .int 0), (0, .ref (q 42))]) hx hb dX5_looksAll_33 rfl hl (by decide) rfl (fun ls hl => ?_)
  obtain ⟨x4, hx4, hf⟩ := bd_some hf
  refine t_X5_looksAll_34 C hD hx4 hP hS (lv_sub hl [1, 0] rfl) (fun {H locs ls} hP hS hl => ?_)
  cases hf
  exact q_vret C hP hS rfl dX5_looksAll_97

-- X5_seen
theorem hiX5_seen_X5 : ∀ w ∈ u_ws RX5 TX5 42, w ∈ wsX5_seen := mem_run (i := 38) (by decide +kernel)
theorem wdX5_seen_2 : (Cond.fieldLink RX5 283 "CombinatorRingModel" "metMany" "I") ∈ wsX5_seen := List.mem_of_getElem? (i := 2) rfl
theorem wdX5_seen_1 : (Cond.fieldLink RX5 1 "CombinatorRingModel" "thrown" "I") ∈ wsX5_seen := List.mem_of_getElem? (i := 1) rfl
def m_seen (st : OSt)  : Option (Int32 × OSt) := nm (sI st 0 0) fun s1 => bd (m_looksAll s1) fun x2 => some ((x2.1 28), x2)
abbrev rmX5_seen : Room := { frames := 3, cells := 0, slots := 0, locals := 69 }
theorem hdX5_seen : yX5_seen.cls = RX5 ∧ yX5_seen.cls ≠ "java/lang/invoke/MethodHandle" ∧ yX5_seen.cls ≠ "java/lang/invoke/VarHandle" ∧ (parseMethodDescriptor yX5_seen.desc).map (fun d => d.parameters.length) = some 0 := by decide +kernel
set_option maxHeartbeats 4000000 in
set_option maxRecDepth 100000 in
theorem c_X5_seen {l : Launch} {G : Gx} {q : Nat → Nat} {st : OSt}  {x : Int32 × OSt} (hf : m_seen st = some x) : QM l G yX5_seen wsX5_seen rmX5_seen [.ref (q 42)] (wM G q st) (wM G q x.2) (some (.int x.1)) := by
  refine QM.of (cc := cX5_seen) (maxL := 1) (ret := (some .int)) (by decide) rfl (Nat.le_of_ble_eq_true rfl) ?_
  intro p e s m below meth c A ls C hD hP hS hl
  have hx := C.1
  have hb := C.2.1
  have hl : lv_has ls 1 [(0, .ref (q 42))] := hl
  unfold m_seen at hf
  refine lv_aload_n hx hb dX5_seen_0 rfl (lv_at hl 0 rfl) ?_
  refine lv_iconst (v := 0) hx hb dX5_seen_1 (by decide) ?_
  obtain ⟨s1, es1, hf⟩ := nm_ex hf
  refine q_put C hP (dd_M hD) hS wM_o rfl hiX5_seen_X5 tyX5_ok nmX5 0 (by decide) wdX5_seen_1 rfl rfl rfl (Nat.le_of_ble_eq_true rfl) wM_sI_0 dX5_seen_2 (fun H locs hP hS => ?_)
  rw [es1] at hP
  refine lv_aload_n hx hb dX5_seen_5 rfl (lv_at hl 0 rfl) ?_
  obtain ⟨x2, hx2, hf⟩ := bd_some hf
  refine q_Vv C (rc := (RX5, TX5, 42)) (q0 := 0) (ci := 5) (ws' := wM G q x2) (wr := []) (c_X5_looksAll hx2) gX5_seen_X5_looksAll rfl ⟨rfl, rfl⟩ hdX5_looksAll ⟨(Nat.le_of_ble_eq_true rfl), (Nat.le_of_ble_eq_true rfl)⟩ rfl hP (dd_M hD) hS rfl rfl (List.Perm.refl _) (List.Perm.refl _) hl.1 (Nat.le_of_ble_eq_true rfl) ⟨Nat.zero_le _, Nat.zero_le _⟩ rfl dX5_seen_6 (fun H locs hP hS => ?_)
  refine lv_aload_n hx hb dX5_seen_9 rfl (lv_at hl 0 rfl) ?_
  refine q_get C hP wM_o rfl hiX5_seen_X5 28 (by decide) wdX5_seen_2 rfl dX5_seen_10 ?_
  cases hf
  exact q_iret C hP hS rfl dX5_seen_13

-- X5_met
theorem hiX5_met_X5 : ∀ w ∈ u_ws RX5 TX5 42, w ∈ wsX5_met := mem_run (i := 38) (by decide +kernel)
theorem wdX5_met_2 : (Cond.fieldLink RX5 283 "CombinatorRingModel" "metMany" "I") ∈ wsX5_met := List.mem_of_getElem? (i := 2) rfl
theorem wdX5_met_4 : (Cond.fieldLink RX5 58 "CombinatorRingModel" "metBy" "[I") ∈ wsX5_met := List.mem_of_getElem? (i := 4) rfl
theorem wdX5_met_3 : (Cond.fieldLink RX5 55 "CombinatorRingModel" "met" "[I") ∈ wsX5_met := List.mem_of_getElem? (i := 3) rfl
theorem wdX5_met_1 : (Cond.fieldLink RX5 1 "CombinatorRingModel" "thrown" "I") ∈ wsX5_met := List.mem_of_getElem? (i := 1) rfl
def m_met (st : OSt) (a1 : Int32) (a2 : Int32) : Option (Int32 × OSt) := nm (sI st 0 0) fun s1 => bd (m_looksAll s1) fun x2 => bd (m_within a1 0 ((x2.1 28) - 1)) fun x3 => if x3 = 0 then some ((-1), x2) else bd (m_within a2 0 1) fun x5 => if x5 = 0 then some ((-1), x2) else if a2 = 0 then gd a1 300 (some ((x2.2 29 a1.toNatClampNeg), x2)) else gd a1 300 (some ((x2.2 30 a1.toNatClampNeg), x2))
abbrev rmX5_met : Room := { frames := 3, cells := 0, slots := 0, locals := 69 }
theorem hdX5_met : yX5_met.cls = RX5 ∧ yX5_met.cls ≠ "java/lang/invoke/MethodHandle" ∧ yX5_met.cls ≠ "java/lang/invoke/VarHandle" ∧ (parseMethodDescriptor yX5_met.desc).map (fun d => d.parameters.length) = some 2 := by decide +kernel
set_option maxHeartbeats 4000000 in
set_option maxRecDepth 100000 in
theorem c_X5_met {l : Launch} {G : Gx} {q : Nat → Nat} {st : OSt} {a1 : Int32} {a2 : Int32} {x : Int32 × OSt} (hf : m_met st a1 a2 = some x) : QM l G yX5_met wsX5_met rmX5_met [.ref (q 42), .int a1, .int a2] (wM G q st) (wM G q x.2) (some (.int x.1)) := by
  refine QM.of (cc := cX5_met) (maxL := 3) (ret := (some .int)) (by decide) rfl (Nat.le_of_ble_eq_true rfl) ?_
  intro p e s m below meth c A ls C hD hP hS hl
  have hx := C.1
  have hb := C.2.1
  have hl : lv_has ls 3 [(0, .ref (q 42)), (1, .int a1), (2, .int a2)] := hl
  unfold m_met at hf
  refine lv_aload_n hx hb dX5_met_0 rfl (lv_at hl 0 rfl) ?_
  refine lv_iconst (v := 0) hx hb dX5_met_1 (by decide) ?_
  obtain ⟨s1, es1, hf⟩ := nm_ex hf
  refine q_put C hP (dd_M hD) hS wM_o rfl hiX5_met_X5 tyX5_ok nmX5 0 (by decide) wdX5_met_1 rfl rfl rfl (Nat.le_of_ble_eq_true rfl) wM_sI_0 dX5_met_2 (fun H locs hP hS => ?_)
  rw [es1] at hP
  refine lv_aload_n hx hb dX5_met_5 rfl (lv_at hl 0 rfl) ?_
  obtain ⟨x2, hx2, hf⟩ := bd_some hf
  refine q_Vv C (rc := (RX5, TX5, 42)) (q0 := 0) (ci := 5) (ws' := wM G q x2) (wr := []) (c_X5_looksAll hx2) gX5_met_X5_looksAll rfl ⟨rfl, rfl⟩ hdX5_looksAll ⟨(Nat.le_of_ble_eq_true rfl), (Nat.le_of_ble_eq_true rfl)⟩ rfl hP (dd_M hD) hS rfl rfl (List.Perm.refl _) (List.Perm.refl _) hl.1 (Nat.le_of_ble_eq_true rfl) ⟨Nat.zero_le _, Nat.zero_le _⟩ rfl dX5_met_6 (fun H locs hP hS => ?_)
  refine lv_iload_n hx hb dX5_met_9 rfl (lv_at hl 1 rfl) ?_
  refine lv_iconst (v := 0) hx hb dX5_met_10 (by decide) ?_
  refine lv_aload_n hx hb dX5_met_11 rfl (lv_at hl 0 rfl) ?_
  refine q_get C hP wM_o rfl hiX5_met_X5 28 (by decide) wdX5_met_2 rfl dX5_met_12 ?_
  refine lv_iconst (v := 1) hx hb dX5_met_15 (by decide) ?_
  refine lv_isub hx hb dX5_met_16 ?_
  obtain ⟨x3, hx3, hf⟩ := bd_some hf
  refine q_Si C (ws' := wM G q x2) (wr := []) (c_X5_within (w := wM G q x2) hx3) gX5_met_X5_within rfl ⟨rfl, rfl⟩ hdX5_within ⟨(Nat.le_of_ble_eq_true rfl), (Nat.le_of_ble_eq_true rfl)⟩ rfl hP (dd_M hD) hS (List.Perm.refl _) (List.Perm.refl _) hl.1 (Nat.le_of_ble_eq_true rfl) ⟨Nat.zero_le _, Nat.zero_le _⟩ rfl dX5_met_17 (fun H locs hP hS => ?_)
  refine lv_if_eq (tgt := 54) hx hb dX5_met_20 (by decide) (fun c4 => ?_) (fun c4 => ?_)
  · have hf := if_t c4 hf
    refine lv_iconst (v := (-1)) hx hb dX5_met_54 (by decide) ?_
    cases hf
    exact q_iret C hP hS rfl dX5_met_55
  · have hf := if_f c4 hf
    refine lv_iload_n hx hb dX5_met_23 rfl (lv_at hl 2 rfl) ?_
    refine lv_iconst (v := 0) hx hb dX5_met_24 (by decide) ?_
    refine lv_iconst (v := 1) hx hb dX5_met_25 (by decide) ?_
    obtain ⟨x5, hx5, hf⟩ := bd_some hf
    refine q_Si C (ws' := wM G q x2) (wr := []) (c_X5_within (w := wM G q x2) hx5) gX5_met_X5_within rfl ⟨rfl, rfl⟩ hdX5_within ⟨(Nat.le_of_ble_eq_true rfl), (Nat.le_of_ble_eq_true rfl)⟩ rfl hP (dd_M hD) hS (List.Perm.refl _) (List.Perm.refl _) hl.1 (Nat.le_of_ble_eq_true rfl) ⟨Nat.zero_le _, Nat.zero_le _⟩ rfl dX5_met_26 (fun H locs hP hS => ?_)
    refine lv_if_eq (tgt := 54) hx hb dX5_met_29 (by decide) (fun c6 => ?_) (fun c6 => ?_)
    · have hf := if_t c6 hf
      refine lv_iconst (v := (-1)) hx hb dX5_met_54 (by decide) ?_
      cases hf
      exact q_iret C hP hS rfl dX5_met_55
    · have hf := if_f c6 hf
      refine lv_iload_n hx hb dX5_met_32 rfl (lv_at hl 2 rfl) ?_
      refine lv_if_ne (tgt := 45) hx hb dX5_met_33 (by decide) (fun c7 => ?_) (fun c7 => ?_)
      · have hf := if_f c7 hf
        refine lv_aload_n hx hb dX5_met_45 rfl (lv_at hl 0 rfl) ?_
        refine q_get C hP wM_o rfl hiX5_met_X5 30 (by decide) wdX5_met_4 rfl dX5_met_46 ?_
        refine lv_iload_n hx hb dX5_met_49 rfl (lv_at hl 1 rfl) ?_
        obtain ⟨hin, hf⟩ := gd_some hf
        refine q_iald C hP wM_a_30 rfl hin dX5_met_50 ?_
        refine lv_goto (tgt := 55) hx hb dX5_met_51 (by decide) ?_
        cases hf
        exact q_iret C hP hS rfl dX5_met_55
      · have hf := if_t c7 hf
        refine lv_aload_n hx hb dX5_met_36 rfl (lv_at hl 0 rfl) ?_
        refine q_get C hP wM_o rfl hiX5_met_X5 29 (by decide) wdX5_met_3 rfl dX5_met_37 ?_
        refine lv_iload_n hx hb dX5_met_40 rfl (lv_at hl 1 rfl) ?_
        obtain ⟨hin, hf⟩ := gd_some hf
        refine q_iald C hP wM_a_29 rfl hin dX5_met_41 ?_
        refine lv_goto (tgt := 55) hx hb dX5_met_42 (by decide) ?_
        cases hf
        exact q_iret C hP hS rfl dX5_met_55

-- X5_laysBy
theorem hiX5_laysBy_X5 : ∀ w ∈ u_ws RX5 TX5 42, w ∈ wsX5_laysBy := mem_run (i := 39) (by decide +kernel)
theorem wdX5_laysBy_1 : (Cond.fieldLink RX5 277 "CombinatorRingModel" "toldMany" "I") ∈ wsX5_laysBy := List.mem_of_getElem? (i := 1) rfl
theorem wdX5_laysBy_2 : (Cond.fieldLink RX5 293 "CombinatorRingModel" "otherMany" "I") ∈ wsX5_laysBy := List.mem_of_getElem? (i := 2) rfl
theorem wdX5_laysBy_3 : (Cond.fieldLink RX5 70 "CombinatorRingModel" "otherTold" "[I") ∈ wsX5_laysBy := List.mem_of_getElem? (i := 3) rfl
theorem wdX5_laysBy_4 : (Cond.fieldLink RX5 64 "CombinatorRingModel" "told" "[I") ∈ wsX5_laysBy := List.mem_of_getElem? (i := 4) rfl
def m_laysBy_14 : Nat → OSt → Int32 → Option (OSt)
  | 0, _, _ => none
  | n + 1, st, v1 => if (st.1 32) ≤ v1 then some st else gd v1 1400 (gd v1 1400 (nm (sA st 36 (upd (st.2 36) v1.toNatClampNeg (st.2 33 v1.toNatClampNeg))) fun s5 => m_laysBy_14 n s5 (v1 + 1)))
def m_laysBy (st : OSt)  : Option (OSt) := bd (m_looksAll st) fun x1 => nm (sI x1 35 (x1.1 32)) fun s2 => bd (m_laysBy_14 20000 s2 0) fun x3 => some x3
abbrev rmX5_laysBy : Room := { frames := 3, cells := 0, slots := 0, locals := 69 }
theorem hdX5_laysBy : yX5_laysBy.cls = RX5 ∧ yX5_laysBy.cls ≠ "java/lang/invoke/MethodHandle" ∧ yX5_laysBy.cls ≠ "java/lang/invoke/VarHandle" ∧ (parseMethodDescriptor yX5_laysBy.desc).map (fun d => d.parameters.length) = some 0 := by decide +kernel
set_option maxHeartbeats 4000000 in
set_option maxRecDepth 100000 in
theorem t_X5_laysBy_14 {p : Program} {l : Launch} {e : Env} {s : State} {m : MethodId} {args : Array Value} {below : List Frame} {meth : Method} {c : Code} {Q : State → Prop} {A : Nat → Prop} {G : Gx} {q : Nat → Nat} {st0 : OSt} (C : Cx p s m args meth c G cX5_laysBy wsX5_laysBy RX5 none 2 A) (hD : va_D A (wM G q st0)) :
    ∀ {n : Nat} {st : OSt} {v1 : Int32} {x : OSt}, m_laysBy_14 n st v1 = some x → ∀ {H : Heap} {locs : List Loc} {ls : Array Slot}, va_P G.1 vwCl (wM G q st) H → va_S A s.heap H locs → lv_has ls 2 [(0, .ref (q 42)), (1, .int v1)] → (∀ {H : Heap} {locs : List Loc} {ls : Array Slot}, va_P G.1 vwCl (wM G q x) H → va_S A s.heap H locs → lv_has ls 2 [] → W p l e rmX5_laysBy s m args below meth c H locs 0 0 Q (F0 m 40 ls [])) → W p l e rmX5_laysBy s m args below meth c H locs 0 0 Q (F0 m 14 ls []) := by
  have hx := C.1
  have hb := C.2.1
  intro n
  induction n with
  | zero => intro st v1 x hf; cases hf
  | succ n ih =>
    intro st v1 x hf H locs ls hP hS hl kk
    rw [m_laysBy_14] at hf
    refine lv_iload_n hx hb dX5_laysBy_14 rfl (lv_at hl 1 rfl) ?_
    refine lv_aload_n hx hb dX5_laysBy_15 rfl (lv_at hl 0 rfl) ?_
    refine q_get C hP wM_o rfl hiX5_laysBy_X5 32 (by decide) wdX5_laysBy_1 rfl dX5_laysBy_16 ?_
    refine lv_icmp_ge (tgt := 40) hx hb dX5_laysBy_19 (by decide) (fun c4 => ?_) (fun c4 => ?_)
    · have hf := if_t c4 hf
      cases hf
      exact kk hP hS (lv_sub hl [] rfl)
    · have hf := if_f c4 hf
      refine lv_aload_n hx hb dX5_laysBy_22 rfl (lv_at hl 0 rfl) ?_
      refine q_get C hP wM_o rfl hiX5_laysBy_X5 36 (by decide) wdX5_laysBy_3 rfl dX5_laysBy_23 ?_
      refine lv_iload_n hx hb dX5_laysBy_26 rfl (lv_at hl 1 rfl) ?_
      refine lv_aload_n hx hb dX5_laysBy_27 rfl (lv_at hl 0 rfl) ?_
      refine q_get C hP wM_o rfl hiX5_laysBy_X5 33 (by decide) wdX5_laysBy_4 rfl dX5_laysBy_28 ?_
      refine lv_iload_n hx hb dX5_laysBy_31 rfl (lv_at hl 1 rfl) ?_
      obtain ⟨hin, hf⟩ := gd_some hf
      refine q_iald C hP wM_a_33 rfl hin dX5_laysBy_32 ?_
      obtain ⟨hin, hf⟩ := gd_some hf
      obtain ⟨s5, es5, hf⟩ := nm_ex hf
      refine q_iast C hP (dd_M hD) hS wM_a_36 rfl wM_sA_36 hin dX5_laysBy_33 (fun H locs hP hS => ?_)
      rw [es5] at hP
      refine lv_iinc (v := (v1 + 1)) (lv' := [(1, .int (v1 + 1)), (0, .ref (q 42))]) hx hb dX5_laysBy_34 hl (k := 1) rfl rfl (by decide) rfl (fun ls hl => ?_)
      refine lv_goto (tgt := 14) hx hb dX5_laysBy_37 (by decide) ?_
      exact ih hf hP hS (lv_sub hl [1, 0] rfl) kk
set_option maxHeartbeats 4000000 in
set_option maxRecDepth 100000 in
theorem c_X5_laysBy {l : Launch} {G : Gx} {q : Nat → Nat} {st : OSt}  {x : OSt} (hf : m_laysBy st = some x) : QM l G yX5_laysBy wsX5_laysBy rmX5_laysBy [.ref (q 42)] (wM G q st) (wM G q x) none := by
  refine QM.of (cc := cX5_laysBy) (maxL := 2) (ret := none) (by decide) rfl (Nat.le_of_ble_eq_true rfl) ?_
  intro p e s m below meth c A ls C hD hP hS hl
  have hx := C.1
  have hb := C.2.1
  have hl : lv_has ls 2 [(0, .ref (q 42))] := hl
  unfold m_laysBy at hf
  refine lv_aload_n hx hb dX5_laysBy_0 rfl (lv_at hl 0 rfl) ?_
  obtain ⟨x1, hx1, hf⟩ := bd_some hf
  refine q_Vv C (rc := (RX5, TX5, 42)) (q0 := 0) (ci := 5) (ws' := wM G q x1) (wr := []) (c_X5_looksAll hx1) gX5_laysBy_X5_looksAll rfl ⟨rfl, rfl⟩ hdX5_looksAll ⟨(Nat.le_of_ble_eq_true rfl), (Nat.le_of_ble_eq_true rfl)⟩ rfl hP (dd_M hD) hS rfl rfl (List.Perm.refl _) (List.Perm.refl _) hl.1 (Nat.le_of_ble_eq_true rfl) ⟨Nat.zero_le _, Nat.zero_le _⟩ rfl dX5_laysBy_1 (fun H locs hP hS => ?_)
  refine lv_aload_n hx hb dX5_laysBy_4 rfl (lv_at hl 0 rfl) ?_
  refine lv_aload_n hx hb dX5_laysBy_5 rfl (lv_at hl 0 rfl) ?_
  refine q_get C hP wM_o rfl hiX5_laysBy_X5 32 (by decide) wdX5_laysBy_1 rfl dX5_laysBy_6 ?_
  obtain ⟨s2, es2, hf⟩ := nm_ex hf
  refine q_put C hP (dd_M hD) hS wM_o rfl hiX5_laysBy_X5 tyX5_ok nmX5 35 (by decide) wdX5_laysBy_2 rfl rfl rfl (Nat.le_of_ble_eq_true rfl) wM_sI_35 dX5_laysBy_9 (fun H locs hP hS => ?_)
  rw [es2] at hP
  refine lv_iconst (v := 0) hx hb dX5_laysBy_12 (by decide) ?_
  refine lv_istore_n (lv' := [(1, .int 0), (0, .ref (q 42))]) hx hb dX5_laysBy_13 rfl hl (by decide) rfl (fun ls hl => ?_)
  obtain ⟨x3, hx3, hf⟩ := bd_some hf
  refine t_X5_laysBy_14 C hD hx3 hP hS (lv_sub hl [1, 0] rfl) (fun {H locs ls} hP hS hl => ?_)
  cases hf
  exact q_vret C hP hS rfl dX5_laysBy_40

-- X5_areAlike
theorem hiX5_areAlike_X5 : ∀ w ∈ u_ws RX5 TX5 42, w ∈ wsX5_areAlike := mem_run (i := 39) (by decide +kernel)
theorem wdX5_areAlike_1 : (Cond.fieldLink RX5 277 "CombinatorRingModel" "toldMany" "I") ∈ wsX5_areAlike := List.mem_of_getElem? (i := 1) rfl
theorem wdX5_areAlike_2 : (Cond.fieldLink RX5 293 "CombinatorRingModel" "otherMany" "I") ∈ wsX5_areAlike := List.mem_of_getElem? (i := 2) rfl
theorem wdX5_areAlike_3 : (Cond.fieldLink RX5 64 "CombinatorRingModel" "told" "[I") ∈ wsX5_areAlike := List.mem_of_getElem? (i := 3) rfl
theorem wdX5_areAlike_4 : (Cond.fieldLink RX5 70 "CombinatorRingModel" "otherTold" "[I") ∈ wsX5_areAlike := List.mem_of_getElem? (i := 4) rfl
def m_areAlike_23 : Nat → OSt → Int32 → Int32 → Option (Int32)
  | 0, _, _, _ => none
  | n + 1, st, v1, v2 => if (st.1 32) ≤ v2 then some v1 else if v1 = 0 then some v1 else gd v2 1400 (gd v2 1400 (if (st.2 33 v2.toNatClampNeg) = (st.2 36 v2.toNatClampNeg) then m_areAlike_23 n st 1 (v2 + 1) else m_areAlike_23 n st 0 (v2 + 1)))
def m_areAlike_20 (st : OSt) (k0 : Int32) : Option (Int32 × OSt) := bd (m_areAlike_23 20000 st k0 0) fun x3 => gb x3 (some (x3, st))
def m_areAlike (st : OSt)  : Option (Int32 × OSt) := bd (m_looksAll st) fun x1 => if (x1.1 32) = (x1.1 35) then m_areAlike_20 x1 1 else m_areAlike_20 x1 0
abbrev rmX5_areAlike : Room := { frames := 3, cells := 0, slots := 0, locals := 69 }
theorem hdX5_areAlike : yX5_areAlike.cls = RX5 ∧ yX5_areAlike.cls ≠ "java/lang/invoke/MethodHandle" ∧ yX5_areAlike.cls ≠ "java/lang/invoke/VarHandle" ∧ (parseMethodDescriptor yX5_areAlike.desc).map (fun d => d.parameters.length) = some 0 := by decide +kernel
set_option maxHeartbeats 4000000 in
set_option maxRecDepth 100000 in
theorem t_X5_areAlike_23 {p : Program} {l : Launch} {e : Env} {s : State} {m : MethodId} {args : Array Value} {below : List Frame} {meth : Method} {c : Code} {Q : State → Prop} {A : Nat → Prop} {G : Gx} {q : Nat → Nat} {st0 : OSt} (C : Cx p s m args meth c G cX5_areAlike wsX5_areAlike RX5 (some .boolean) 3 A) (hD : va_D A (wM G q st0)) :
    ∀ {n : Nat} {st : OSt} {v1 : Int32} {v2 : Int32} {x : Int32}, m_areAlike_23 n st v1 v2 = some x → ∀ {H : Heap} {locs : List Loc} {ls : Array Slot}, va_P G.1 vwCl (wM G q st) H → va_S A s.heap H locs → lv_has ls 3 [(0, .ref (q 42)), (1, .int v1), (2, .int v2)] → (∀ {H : Heap} {locs : List Loc} {ls : Array Slot}, va_P G.1 vwCl (wM G q st) H → va_S A s.heap H locs → lv_has ls 3 [(1, .int x)] → W p l e rmX5_areAlike s m args below meth c H locs 0 0 Q (F0 m 62 ls [])) → W p l e rmX5_areAlike s m args below meth c H locs 0 0 Q (F0 m 23 ls []) := by
  have hx := C.1
  have hb := C.2.1
  intro n
  induction n with
  | zero => intro st v1 v2 x hf; cases hf
  | succ n ih =>
    intro st v1 v2 x hf H locs ls hP hS hl kk
    rw [m_areAlike_23] at hf
    refine lv_iload_n hx hb dX5_areAlike_23 rfl (lv_at hl 2 rfl) ?_
    refine lv_aload_n hx hb dX5_areAlike_24 rfl (lv_at hl 0 rfl) ?_
    refine q_get C hP wM_o rfl hiX5_areAlike_X5 32 (by decide) wdX5_areAlike_1 rfl dX5_areAlike_25 ?_
    refine lv_icmp_ge (tgt := 62) hx hb dX5_areAlike_28 (by decide) (fun c4 => ?_) (fun c4 => ?_)
    · have hf := if_t c4 hf
      cases hf
      exact kk hP hS (lv_sub hl [1] rfl)
    · have hf := if_f c4 hf
      refine lv_iload_n hx hb dX5_areAlike_31 rfl (lv_at hl 1 rfl) ?_
      refine lv_if_eq (tgt := 62) hx hb dX5_areAlike_32 (by decide) (fun c5 => ?_) (fun c5 => ?_)
      · have hf := if_t c5 hf
        cases hf
        exact kk hP hS (lv_sub hl [1] rfl)
      · have hf := if_f c5 hf
        refine lv_aload_n hx hb dX5_areAlike_35 rfl (lv_at hl 0 rfl) ?_
        refine q_get C hP wM_o rfl hiX5_areAlike_X5 33 (by decide) wdX5_areAlike_3 rfl dX5_areAlike_36 ?_
        refine lv_iload_n hx hb dX5_areAlike_39 rfl (lv_at hl 2 rfl) ?_
        obtain ⟨hin, hf⟩ := gd_some hf
        refine q_iald C hP wM_a_33 rfl hin dX5_areAlike_40 ?_
        refine lv_aload_n hx hb dX5_areAlike_41 rfl (lv_at hl 0 rfl) ?_
        refine q_get C hP wM_o rfl hiX5_areAlike_X5 36 (by decide) wdX5_areAlike_4 rfl dX5_areAlike_42 ?_
        refine lv_iload_n hx hb dX5_areAlike_45 rfl (lv_at hl 2 rfl) ?_
        obtain ⟨hin, hf⟩ := gd_some hf
        refine q_iald C hP wM_a_36 rfl hin dX5_areAlike_46 ?_
        refine lv_icmp_ne (tgt := 54) hx hb dX5_areAlike_47 (by decide) (fun c6 => ?_) (fun c6 => ?_)
        · have hf := if_f c6 hf
          refine lv_iconst (v := 0) hx hb dX5_areAlike_54 (by decide) ?_
          refine lv_istore_n (lv' := [(1, .int 0), (0, .ref (q 42)), (2, .int v2)]) hx hb dX5_areAlike_55 rfl hl (by decide) rfl (fun ls hl => ?_)
          refine lv_iinc (v := (v2 + 1)) (lv' := [(2, .int (v2 + 1)), (1, .int 0), (0, .ref (q 42))]) hx hb dX5_areAlike_56 hl (k := 2) rfl rfl (by decide) rfl (fun ls hl => ?_)
          refine lv_goto (tgt := 23) hx hb dX5_areAlike_59 (by decide) ?_
          exact ih hf hP hS (lv_sub hl [2, 1, 0] rfl) kk
        · have hf := if_t c6 hf
          refine lv_iconst (v := 1) hx hb dX5_areAlike_50 (by decide) ?_
          refine lv_goto (tgt := 55) hx hb dX5_areAlike_51 (by decide) ?_
          refine lv_istore_n (lv' := [(1, .int 1), (0, .ref (q 42)), (2, .int v2)]) hx hb dX5_areAlike_55 rfl hl (by decide) rfl (fun ls hl => ?_)
          refine lv_iinc (v := (v2 + 1)) (lv' := [(2, .int (v2 + 1)), (1, .int 1), (0, .ref (q 42))]) hx hb dX5_areAlike_56 hl (k := 2) rfl rfl (by decide) rfl (fun ls hl => ?_)
          refine lv_goto (tgt := 23) hx hb dX5_areAlike_59 (by decide) ?_
          exact ih hf hP hS (lv_sub hl [2, 1, 0] rfl) kk
set_option maxHeartbeats 4000000 in
set_option maxRecDepth 100000 in
theorem t_X5_areAlike_20 {p : Program} {l : Launch} {e : Env} {s : State} {m : MethodId} {args : Array Value} {below : List Frame} {meth : Method} {c : Code} {A : Nat → Prop} {G : Gx} {q : Nat → Nat} {st0 : OSt} (C : Cx p s m args meth c G cX5_areAlike wsX5_areAlike RX5 (some .boolean) 3 A) (hD : va_D A (wM G q st0)) :
    ∀ {st : OSt} {k0 : Int32} {x : Int32 × OSt}, m_areAlike_20 st k0 = some x → ∀ {H : Heap} {locs : List Loc} {ls : Array Slot}, va_P G.1 vwCl (wM G q st) H → va_S A s.heap H locs → lv_has ls 3 [(0, .ref (q 42))] → W p l e rmX5_areAlike s m args below meth c H locs 0 0 (MQ below (qE G A (wM G q x.2) (some (.int x.1))) args s 0 0 A) (F0 m 20 ls [.int k0]) := by
  have hx := C.1
  have hb := C.2.1
  intro st k0 x hf H locs ls hP hS hl
  unfold m_areAlike_20 at hf
  refine lv_istore_n (lv' := [(1, .int k0), (0, .ref (q 42))]) hx hb dX5_areAlike_20 rfl hl (by decide) rfl (fun ls hl => ?_)
  refine lv_iconst (v := 0) hx hb dX5_areAlike_21 (by decide) ?_
  refine lv_istore_n (lv' := [(2, .int 0), (1, .int k0), (0, .ref (q 42))]) hx hb dX5_areAlike_22 rfl hl (by decide) rfl (fun ls hl => ?_)
  obtain ⟨x3, hx3, hf⟩ := bd_some hf
  refine t_X5_areAlike_23 C hD hx3 hP hS (lv_sub hl [2, 1, 0] rfl) (fun {H locs ls} hP hS hl => ?_)
  refine lv_iload_n hx hb dX5_areAlike_62 rfl (lv_at hl 0 rfl) ?_
  obtain ⟨hb9, hf⟩ := gb_some hf
  cases hf
  exact q_zret C hP hS rfl (gb_nar hb9) dX5_areAlike_63
set_option maxHeartbeats 4000000 in
set_option maxRecDepth 100000 in
theorem c_X5_areAlike {l : Launch} {G : Gx} {q : Nat → Nat} {st : OSt}  {x : Int32 × OSt} (hf : m_areAlike st = some x) : QM l G yX5_areAlike wsX5_areAlike rmX5_areAlike [.ref (q 42)] (wM G q st) (wM G q x.2) (some (.int x.1)) := by
  refine QM.of (cc := cX5_areAlike) (maxL := 3) (ret := (some .boolean)) (by decide) rfl (Nat.le_of_ble_eq_true rfl) ?_
  intro p e s m below meth c A ls C hD hP hS hl
  have hx := C.1
  have hb := C.2.1
  have hl : lv_has ls 3 [(0, .ref (q 42))] := hl
  unfold m_areAlike at hf
  refine lv_aload_n hx hb dX5_areAlike_0 rfl (lv_at hl 0 rfl) ?_
  obtain ⟨x1, hx1, hf⟩ := bd_some hf
  refine q_Vv C (rc := (RX5, TX5, 42)) (q0 := 0) (ci := 5) (ws' := wM G q x1) (wr := []) (c_X5_looksAll hx1) gX5_areAlike_X5_looksAll rfl ⟨rfl, rfl⟩ hdX5_looksAll ⟨(Nat.le_of_ble_eq_true rfl), (Nat.le_of_ble_eq_true rfl)⟩ rfl hP (dd_M hD) hS rfl rfl (List.Perm.refl _) (List.Perm.refl _) hl.1 (Nat.le_of_ble_eq_true rfl) ⟨Nat.zero_le _, Nat.zero_le _⟩ rfl dX5_areAlike_1 (fun H locs hP hS => ?_)
  refine lv_aload_n hx hb dX5_areAlike_4 rfl (lv_at hl 0 rfl) ?_
  refine q_get C hP wM_o rfl hiX5_areAlike_X5 32 (by decide) wdX5_areAlike_1 rfl dX5_areAlike_5 ?_
  refine lv_aload_n hx hb dX5_areAlike_8 rfl (lv_at hl 0 rfl) ?_
  refine q_get C hP wM_o rfl hiX5_areAlike_X5 35 (by decide) wdX5_areAlike_2 rfl dX5_areAlike_9 ?_
  refine lv_icmp_ne (tgt := 19) hx hb dX5_areAlike_12 (by decide) (fun c2 => ?_) (fun c2 => ?_)
  · have hf := if_f c2 hf
    refine lv_iconst (v := 0) hx hb dX5_areAlike_19 (by decide) ?_
    exact t_X5_areAlike_20 C hD hf hP hS (lv_sub hl [0] rfl)
  · have hf := if_t c2 hf
    refine lv_iconst (v := 1) hx hb dX5_areAlike_15 (by decide) ?_
    refine lv_goto (tgt := 20) hx hb dX5_areAlike_16 (by decide) ?_
    exact t_X5_areAlike_20 C hD hf hP hS (lv_sub hl [0] rfl)

-- X5_keepsAhead
theorem hiX5_keepsAhead_X5 : ∀ w ∈ u_ws RX5 TX5 42, w ∈ wsX5_keepsAhead := mem_run (i := 8) (by decide +kernel)
theorem wdX5_keepsAhead_1 : (Cond.fieldLink RX5 212 "CombinatorRingModel" "backMany" "I") ∈ wsX5_keepsAhead := List.mem_of_getElem? (i := 1) rfl
theorem wdX5_keepsAhead_3 : (Cond.fieldLink RX5 7 "CombinatorRingModel" "now" "[I") ∈ wsX5_keepsAhead := List.mem_of_getElem? (i := 3) rfl
theorem wdX5_keepsAhead_2 : (Cond.fieldLink RX5 73 "CombinatorRingModel" "backs" "[I") ∈ wsX5_keepsAhead := List.mem_of_getElem? (i := 2) rfl
def m_keepsAhead_11 : Nat → OSt → Int32 → Option (OSt)
  | 0, _, _ => none
  | n + 1, st, v1 => if 18106 ≤ v1 then some st else gd (v1 + 1646) 19752 (gd v1 19752 (nm (sA st 38 (upd (st.2 38) v1.toNatClampNeg (st.2 38 (v1 + 1646).toNatClampNeg))) fun s7 => m_keepsAhead_11 n s7 (v1 + 1)))
def m_keepsAhead_50 (st : OSt) : Option (OSt) := bd (m_copies 1646 (st.2 1) 19752 (st.2 38) 0 (1646 * (st.1 37))) fun x4 => nm (sI (sA st 38 x4) 37 (((sA st 38 x4).1 37) + 1)) fun s5 => some s5
def m_keepsAhead (st : OSt)  : Option (OSt) := if (st.1 37) = 12 then bd (m_keepsAhead_11 20000 st 0) fun x2 => nm (sI x2 37 ((x2.1 37) - 1)) fun s3 => m_keepsAhead_50 s3 else m_keepsAhead_50 st
abbrev rmX5_keepsAhead : Room := { frames := 1, cells := 0, slots := 0, locals := 24 }
theorem hdX5_keepsAhead : yX5_keepsAhead.cls = RX5 ∧ yX5_keepsAhead.cls ≠ "java/lang/invoke/MethodHandle" ∧ yX5_keepsAhead.cls ≠ "java/lang/invoke/VarHandle" ∧ (parseMethodDescriptor yX5_keepsAhead.desc).map (fun d => d.parameters.length) = some 0 := by decide +kernel
set_option maxHeartbeats 4000000 in
set_option maxRecDepth 100000 in
theorem t_X5_keepsAhead_11 {p : Program} {l : Launch} {e : Env} {s : State} {m : MethodId} {args : Array Value} {below : List Frame} {meth : Method} {c : Code} {Q : State → Prop} {A : Nat → Prop} {G : Gx} {q : Nat → Nat} {st0 : OSt} (C : Cx p s m args meth c G cX5_keepsAhead wsX5_keepsAhead RX5 none 2 A) (hD : va_D A (wM G q st0)) :
    ∀ {n : Nat} {st : OSt} {v1 : Int32} {x : OSt}, m_keepsAhead_11 n st v1 = some x → ∀ {H : Heap} {locs : List Loc} {ls : Array Slot}, va_P G.1 vwCl (wM G q st) H → va_S A s.heap H locs → lv_has ls 2 [(0, .ref (q 42)), (1, .int v1)] → (∀ {H : Heap} {locs : List Loc} {ls : Array Slot}, va_P G.1 vwCl (wM G q x) H → va_S A s.heap H locs → lv_has ls 2 [(0, .ref (q 42))] → W p l e rmX5_keepsAhead s m args below meth c H locs 0 0 Q (F0 m 40 ls [])) → W p l e rmX5_keepsAhead s m args below meth c H locs 0 0 Q (F0 m 11 ls []) := by
  have hx := C.1
  have hb := C.2.1
  intro n
  induction n with
  | zero => intro st v1 x hf; cases hf
  | succ n ih =>
    intro st v1 x hf H locs ls hP hS hl kk
    rw [m_keepsAhead_11] at hf
    refine lv_iload_n hx hb dX5_keepsAhead_11 rfl (lv_at hl 1 rfl) ?_
    refine lv_sipush (v := 18106) hx hb dX5_keepsAhead_12 (by decide) ?_
    refine lv_icmp_ge (tgt := 40) hx hb dX5_keepsAhead_15 (by decide) (fun c6 => ?_) (fun c6 => ?_)
    · have hf := if_t c6 hf
      cases hf
      exact kk hP hS (lv_sub hl [0] rfl)
    · have hf := if_f c6 hf
      refine lv_aload_n hx hb dX5_keepsAhead_18 rfl (lv_at hl 0 rfl) ?_
      refine q_get C hP wM_o rfl hiX5_keepsAhead_X5 38 (by decide) wdX5_keepsAhead_2 rfl dX5_keepsAhead_19 ?_
      refine lv_iload_n hx hb dX5_keepsAhead_22 rfl (lv_at hl 1 rfl) ?_
      refine lv_aload_n hx hb dX5_keepsAhead_23 rfl (lv_at hl 0 rfl) ?_
      refine q_get C hP wM_o rfl hiX5_keepsAhead_X5 38 (by decide) wdX5_keepsAhead_2 rfl dX5_keepsAhead_24 ?_
      refine lv_iload_n hx hb dX5_keepsAhead_27 rfl (lv_at hl 1 rfl) ?_
      refine lv_sipush (v := 1646) hx hb dX5_keepsAhead_28 (by decide) ?_
      refine lv_iadd hx hb dX5_keepsAhead_31 ?_
      obtain ⟨hin, hf⟩ := gd_some hf
      refine q_iald C hP wM_a_38 rfl hin dX5_keepsAhead_32 ?_
      obtain ⟨hin, hf⟩ := gd_some hf
      obtain ⟨s7, es7, hf⟩ := nm_ex hf
      refine q_iast C hP (dd_M hD) hS wM_a_38 rfl wM_sA_38 hin dX5_keepsAhead_33 (fun H locs hP hS => ?_)
      rw [es7] at hP
      refine lv_iinc (v := (v1 + 1)) (lv' := [(1, .int (v1 + 1)), (0, .ref (q 42))]) hx hb dX5_keepsAhead_34 hl (k := 1) rfl rfl (by decide) rfl (fun ls hl => ?_)
      refine lv_goto (tgt := 11) hx hb dX5_keepsAhead_37 (by decide) ?_
      exact ih hf hP hS (lv_sub hl [1, 0] rfl) kk
set_option maxHeartbeats 4000000 in
set_option maxRecDepth 100000 in
theorem t_X5_keepsAhead_50 {p : Program} {l : Launch} {e : Env} {s : State} {m : MethodId} {args : Array Value} {below : List Frame} {meth : Method} {c : Code} {A : Nat → Prop} {G : Gx} {q : Nat → Nat} {st0 : OSt} (C : Cx p s m args meth c G cX5_keepsAhead wsX5_keepsAhead RX5 none 2 A) (hD : va_D A (wM G q st0)) :
    ∀ {st : OSt}  {x : OSt}, m_keepsAhead_50 st = some x → ∀ {H : Heap} {locs : List Loc} {ls : Array Slot}, va_P G.1 vwCl (wM G q st) H → va_S A s.heap H locs → lv_has ls 2 [(0, .ref (q 42))] → W p l e rmX5_keepsAhead s m args below meth c H locs 0 0 (MQ below (qE G A (wM G q x) none) args s 0 0 A) (F0 m 50 ls []) := by
  have hx := C.1
  have hb := C.2.1
  intro st x hf H locs ls hP hS hl
  unfold m_keepsAhead_50 at hf
  refine lv_aload_n hx hb dX5_keepsAhead_50 rfl (lv_at hl 0 rfl) ?_
  refine q_get C hP wM_o rfl hiX5_keepsAhead_X5 1 (by decide) wdX5_keepsAhead_3 rfl dX5_keepsAhead_51 ?_
  refine lv_iconst (v := 0) hx hb dX5_keepsAhead_54 (by decide) ?_
  refine lv_aload_n hx hb dX5_keepsAhead_55 rfl (lv_at hl 0 rfl) ?_
  refine q_get C hP wM_o rfl hiX5_keepsAhead_X5 38 (by decide) wdX5_keepsAhead_2 rfl dX5_keepsAhead_56 ?_
  refine lv_sipush (v := 1646) hx hb dX5_keepsAhead_59 (by decide) ?_
  refine lv_aload_n hx hb dX5_keepsAhead_62 rfl (lv_at hl 0 rfl) ?_
  refine q_get C hP wM_o rfl hiX5_keepsAhead_X5 37 (by decide) wdX5_keepsAhead_1 rfl dX5_keepsAhead_63 ?_
  refine lv_imul hx hb dX5_keepsAhead_66 ?_
  obtain ⟨x4, hx4, hf⟩ := bd_some hf
  refine q_Sv C (ws' := wM G q (sA st 38 x4)) (c_X5_copies (da := (q 1)) (ka := 1646) (da2 := (q 38)) (ka2 := 19752) hx4) gX5_keepsAhead_X5_copies rfl ⟨rfl, rfl⟩ hdX5_copies ⟨(Nat.le_of_ble_eq_true rfl), (Nat.le_of_ble_eq_true rfl)⟩ rfl hP (dd_M hD) hS (pm_M2 (i := 1) (j := 20) rfl rfl (by decide)) (pm_M2' (i := 1) (j := 20) rfl rfl (by decide) rfl) hl.1 (Nat.le_of_ble_eq_true rfl) ⟨Nat.zero_le _, Nat.zero_le _⟩ rfl dX5_keepsAhead_67 (fun H locs hP hS => ?_)
  refine lv_aload_n hx hb dX5_keepsAhead_70 rfl (lv_at hl 0 rfl) ?_
  refine lv_dup hx hb dX5_keepsAhead_71 rfl ?_
  refine q_get C hP wM_o rfl hiX5_keepsAhead_X5 37 (by decide) wdX5_keepsAhead_1 rfl dX5_keepsAhead_72 ?_
  refine lv_iconst (v := 1) hx hb dX5_keepsAhead_75 (by decide) ?_
  refine lv_iadd hx hb dX5_keepsAhead_76 ?_
  obtain ⟨s5, es5, hf⟩ := nm_ex hf
  refine q_put C hP (dd_M hD) hS wM_o rfl hiX5_keepsAhead_X5 tyX5_ok nmX5 37 (by decide) wdX5_keepsAhead_1 rfl rfl rfl (Nat.le_of_ble_eq_true rfl) wM_sI_37 dX5_keepsAhead_77 (fun H locs hP hS => ?_)
  rw [es5] at hP
  cases hf
  exact q_vret C hP hS rfl dX5_keepsAhead_80
set_option maxHeartbeats 4000000 in
set_option maxRecDepth 100000 in
theorem c_X5_keepsAhead {l : Launch} {G : Gx} {q : Nat → Nat} {st : OSt}  {x : OSt} (hf : m_keepsAhead st = some x) : QM l G yX5_keepsAhead wsX5_keepsAhead rmX5_keepsAhead [.ref (q 42)] (wM G q st) (wM G q x) none := by
  refine QM.of (cc := cX5_keepsAhead) (maxL := 2) (ret := none) (by decide) rfl (Nat.le_of_ble_eq_true rfl) ?_
  intro p e s m below meth c A ls C hD hP hS hl
  have hx := C.1
  have hb := C.2.1
  have hl : lv_has ls 2 [(0, .ref (q 42))] := hl
  unfold m_keepsAhead at hf
  refine lv_aload_n hx hb dX5_keepsAhead_0 rfl (lv_at hl 0 rfl) ?_
  refine q_get C hP wM_o rfl hiX5_keepsAhead_X5 37 (by decide) wdX5_keepsAhead_1 rfl dX5_keepsAhead_1 ?_
  refine lv_bipush (v := 12) hx hb dX5_keepsAhead_4 (by decide) ?_
  refine lv_icmp_ne (tgt := 50) hx hb dX5_keepsAhead_6 (by decide) (fun c1 => ?_) (fun c1 => ?_)
  · have hf := if_f c1 hf
    exact t_X5_keepsAhead_50 C hD hf hP hS (lv_sub hl [0] rfl)
  · have hf := if_t c1 hf
    refine lv_iconst (v := 0) hx hb dX5_keepsAhead_9 (by decide) ?_
    refine lv_istore_n (lv' := [(1, .int 0), (0, .ref (q 42))]) hx hb dX5_keepsAhead_10 rfl hl (by decide) rfl (fun ls hl => ?_)
    obtain ⟨x2, hx2, hf⟩ := bd_some hf
    refine t_X5_keepsAhead_11 C hD hx2 hP hS (lv_sub hl [1, 0] rfl) (fun {H locs ls} hP hS hl => ?_)
    refine lv_aload_n hx hb dX5_keepsAhead_40 rfl (lv_at hl 0 rfl) ?_
    refine lv_dup hx hb dX5_keepsAhead_41 rfl ?_
    refine q_get C hP wM_o rfl hiX5_keepsAhead_X5 37 (by decide) wdX5_keepsAhead_1 rfl dX5_keepsAhead_42 ?_
    refine lv_iconst (v := 1) hx hb dX5_keepsAhead_45 (by decide) ?_
    refine lv_isub hx hb dX5_keepsAhead_46 ?_
    obtain ⟨s3, es3, hf⟩ := nm_ex hf
    refine q_put C hP (dd_M hD) hS wM_o rfl hiX5_keepsAhead_X5 tyX5_ok nmX5 37 (by decide) wdX5_keepsAhead_1 rfl rfl rfl (Nat.le_of_ble_eq_true rfl) wM_sI_37 dX5_keepsAhead_47 (fun H locs hP hS => ?_)
    rw [es3] at hP
    exact t_X5_keepsAhead_50 C hD hf hP hS (lv_sub hl [0] rfl)

-- X5_isRun
def m_isRun  (a1 : Int32) (a2 : Int32) : Option (Int32) := bd (m_within a1 0 2) fun x1 => if x1 = 0 then some 0 else bd (m_within a2 0 9999) fun x3 => if x3 = 0 then some 0 else some 1
abbrev rmX5_isRun : Room := { frames := 1, cells := 0, slots := 0, locals := 22 }
theorem hdX5_isRun : yX5_isRun.cls ≠ "java/lang/invoke/MethodHandle" ∧ yX5_isRun.cls ≠ "java/lang/invoke/VarHandle" ∧ (parseMethodDescriptor yX5_isRun.desc).map (fun d => d.parameters.length) = some 2 := by decide +kernel
set_option maxHeartbeats 4000000 in
set_option maxRecDepth 100000 in
theorem c_X5_isRun {l : Launch} {G : Gx} {w : va_W}  {a1 : Int32} {a2 : Int32} {x : Int32} (hf : m_isRun a1 a2 = some x) : QM l G yX5_isRun wsX5_isRun rmX5_isRun [.int a1, .int a2] (w) (w) (some (.int x)) := by
  refine QM.of (cc := cX5_isRun) (maxL := 2) (ret := (some .boolean)) (by decide) rfl (Nat.le_of_ble_eq_true rfl) ?_
  intro p e s m below meth c A ls C hD hP hS hl
  have hx := C.1
  have hb := C.2.1
  have hl : lv_has ls 2 [(0, .int a1), (1, .int a2)] := hl
  unfold m_isRun at hf
  refine lv_iload_n hx hb dX5_isRun_0 rfl (lv_at hl 0 rfl) ?_
  refine lv_iconst (v := 0) hx hb dX5_isRun_1 (by decide) ?_
  refine lv_iconst (v := 2) hx hb dX5_isRun_2 (by decide) ?_
  obtain ⟨x1, hx1, hf⟩ := bd_some hf
  refine q_Si C (ws' := w) (wr := []) (c_X5_within (w := w) hx1) gX5_isRun_X5_within rfl ⟨rfl, rfl⟩ hdX5_within ⟨(Nat.le_of_ble_eq_true rfl), (Nat.le_of_ble_eq_true rfl)⟩ rfl hP hD hS (List.Perm.refl _) (List.Perm.refl _) hl.1 (Nat.le_of_ble_eq_true rfl) ⟨Nat.zero_le _, Nat.zero_le _⟩ rfl dX5_isRun_3 (fun H locs hP hS => ?_)
  refine lv_if_eq (tgt := 24) hx hb dX5_isRun_6 (by decide) (fun c2 => ?_) (fun c2 => ?_)
  · have hf := if_t c2 hf
    refine lv_iconst (v := 0) hx hb dX5_isRun_24 (by decide) ?_
    cases hf
    exact q_zret C hP hS rfl (gb_nar (Or.inl rfl)) dX5_isRun_25
  · have hf := if_f c2 hf
    refine lv_iload_n hx hb dX5_isRun_9 rfl (lv_at hl 1 rfl) ?_
    refine lv_iconst (v := 0) hx hb dX5_isRun_10 (by decide) ?_
    refine lv_sipush (v := 9999) hx hb dX5_isRun_11 (by decide) ?_
    obtain ⟨x3, hx3, hf⟩ := bd_some hf
    refine q_Si C (ws' := w) (wr := []) (c_X5_within (w := w) hx3) gX5_isRun_X5_within rfl ⟨rfl, rfl⟩ hdX5_within ⟨(Nat.le_of_ble_eq_true rfl), (Nat.le_of_ble_eq_true rfl)⟩ rfl hP hD hS (List.Perm.refl _) (List.Perm.refl _) hl.1 (Nat.le_of_ble_eq_true rfl) ⟨Nat.zero_le _, Nat.zero_le _⟩ rfl dX5_isRun_14 (fun H locs hP hS => ?_)
    refine lv_if_eq (tgt := 24) hx hb dX5_isRun_17 (by decide) (fun c4 => ?_) (fun c4 => ?_)
    · have hf := if_t c4 hf
      refine lv_iconst (v := 0) hx hb dX5_isRun_24 (by decide) ?_
      cases hf
      exact q_zret C hP hS rfl (gb_nar (Or.inl rfl)) dX5_isRun_25
    · have hf := if_f c4 hf
      refine lv_iconst (v := 1) hx hb dX5_isRun_20 (by decide) ?_
      refine lv_goto (tgt := 25) hx hb dX5_isRun_21 (by decide) ?_
      cases hf
      exact q_zret C hP hS rfl (gb_nar (Or.inr rfl)) dX5_isRun_25

-- X5_run
theorem hiX5_run_X5 : ∀ w ∈ u_ws RX5 TX5 42, w ∈ wsX5_run := mem_run (i := 98) (by decide +kernel)
theorem wdX5_run_1 : (Cond.fieldLink RX5 1 "CombinatorRingModel" "thrown" "I") ∈ wsX5_run := List.mem_of_getElem? (i := 1) rfl
def m_run (st : OSt) (a1 : Int32) (a2 : Int32) (a3 : Int32) : Option (Int32 × OSt) := nm (sI st 0 0) fun s1 => bd (m_isRun a1 a2) fun x2 => if x2 = 0 then some ((-1), s1) else bd (m_keepsAhead s1) fun x4 => bd (m_steps x4 a1 a2 a3) fun x5 => some (x5.1, x5.2)
abbrev rmX5_run : Room := { frames := 7, cells := 0, slots := 0, locals := 159 }
theorem hdX5_run : yX5_run.cls = RX5 ∧ yX5_run.cls ≠ "java/lang/invoke/MethodHandle" ∧ yX5_run.cls ≠ "java/lang/invoke/VarHandle" ∧ (parseMethodDescriptor yX5_run.desc).map (fun d => d.parameters.length) = some 3 := by decide +kernel
set_option maxHeartbeats 4000000 in
set_option maxRecDepth 100000 in
theorem c_X5_run {l : Launch} {G : Gx} {q : Nat → Nat} {st : OSt} {a1 : Int32} {a2 : Int32} {a3 : Int32} {x : Int32 × OSt} (hf : m_run st a1 a2 a3 = some x) : QM l G yX5_run wsX5_run rmX5_run [.ref (q 42), .int a1, .int a2, .int a3] (wM G q st) (wM G q x.2) (some (.int x.1)) := by
  refine QM.of (cc := cX5_run) (maxL := 4) (ret := (some .int)) (by decide) rfl (Nat.le_of_ble_eq_true rfl) ?_
  intro p e s m below meth c A ls C hD hP hS hl
  have hx := C.1
  have hb := C.2.1
  have hl : lv_has ls 4 [(0, .ref (q 42)), (1, .int a1), (2, .int a2), (3, .int a3)] := hl
  unfold m_run at hf
  refine lv_aload_n hx hb dX5_run_0 rfl (lv_at hl 0 rfl) ?_
  refine lv_iconst (v := 0) hx hb dX5_run_1 (by decide) ?_
  obtain ⟨s1, es1, hf⟩ := nm_ex hf
  refine q_put C hP (dd_M hD) hS wM_o rfl hiX5_run_X5 tyX5_ok nmX5 0 (by decide) wdX5_run_1 rfl rfl rfl (Nat.le_of_ble_eq_true rfl) wM_sI_0 dX5_run_2 (fun H locs hP hS => ?_)
  rw [es1] at hP
  refine lv_iload_n hx hb dX5_run_5 rfl (lv_at hl 1 rfl) ?_
  refine lv_iload_n hx hb dX5_run_6 rfl (lv_at hl 2 rfl) ?_
  obtain ⟨x2, hx2, hf⟩ := bd_some hf
  refine q_Si C (ws' := wM G q s1) (wr := []) (c_X5_isRun (w := wM G q s1) hx2) gX5_run_X5_isRun rfl ⟨rfl, rfl⟩ hdX5_isRun ⟨(Nat.le_of_ble_eq_true rfl), (Nat.le_of_ble_eq_true rfl)⟩ rfl hP (dd_M hD) hS (List.Perm.refl _) (List.Perm.refl _) hl.1 (Nat.le_of_ble_eq_true rfl) ⟨Nat.zero_le _, Nat.zero_le _⟩ rfl dX5_run_7 (fun H locs hP hS => ?_)
  refine lv_if_ne (tgt := 15) hx hb dX5_run_10 (by decide) (fun c3 => ?_) (fun c3 => ?_)
  · have hf := if_f c3 hf
    refine lv_aload_n hx hb dX5_run_15 rfl (lv_at hl 0 rfl) ?_
    obtain ⟨x4, hx4, hf⟩ := bd_some hf
    refine q_Vv C (rc := (RX5, TX5, 42)) (q0 := 0) (ci := 5) (ws' := wM G q x4) (wr := []) (c_X5_keepsAhead hx4) gX5_run_X5_keepsAhead rfl ⟨rfl, rfl⟩ hdX5_keepsAhead ⟨(Nat.le_of_ble_eq_true rfl), (Nat.le_of_ble_eq_true rfl)⟩ rfl hP (dd_M hD) hS rfl rfl (List.Perm.refl _) (List.Perm.refl _) hl.1 (Nat.le_of_ble_eq_true rfl) ⟨Nat.zero_le _, Nat.zero_le _⟩ rfl dX5_run_16 (fun H locs hP hS => ?_)
    refine lv_aload_n hx hb dX5_run_19 rfl (lv_at hl 0 rfl) ?_
    refine lv_iload_n hx hb dX5_run_20 rfl (lv_at hl 1 rfl) ?_
    refine lv_iload_n hx hb dX5_run_21 rfl (lv_at hl 2 rfl) ?_
    refine lv_iload_n hx hb dX5_run_22 rfl (lv_at hl 3 rfl) ?_
    obtain ⟨x5, hx5, hf⟩ := bd_some hf
    refine q_Vi C (rc := (RX5, TX5, 42)) (q0 := 0) (ci := 5) (ws' := wM G q x5.2) (wr := []) (c_X5_steps hx5) gX5_run_X5_steps rfl ⟨rfl, rfl⟩ hdX5_steps ⟨(Nat.le_of_ble_eq_true rfl), (Nat.le_of_ble_eq_true rfl)⟩ rfl hP (dd_M hD) hS rfl rfl (List.Perm.refl _) (List.Perm.refl _) hl.1 (Nat.le_of_ble_eq_true rfl) ⟨Nat.zero_le _, Nat.zero_le _⟩ rfl dX5_run_23 (fun H locs hP hS => ?_)
    cases hf
    exact q_iret C hP hS rfl dX5_run_26
  · have hf := if_t c3 hf
    refine lv_iconst (v := (-1)) hx hb dX5_run_13 (by decide) ?_
    cases hf
    exact q_iret C hP hS rfl dX5_run_14

-- X5_round
theorem hiX5_round_X5 : ∀ w ∈ u_ws RX5 TX5 42, w ∈ wsX5_round := mem_run (i := 85) (by decide +kernel)
theorem wdX5_round_1 : (Cond.fieldLink RX5 1 "CombinatorRingModel" "thrown" "I") ∈ wsX5_round := List.mem_of_getElem? (i := 1) rfl
def m_round (st : OSt)  : Option (Int32 × OSt) := nm (sI st 0 0) fun s1 => bd (m_keepsAhead s1) fun x2 => bd (m_goesRound x2) fun x3 => some (x3.1, x3.2)
abbrev rmX5_round : Room := { frames := 5, cells := 0, slots := 0, locals := 119 }
theorem hdX5_round : yX5_round.cls = RX5 ∧ yX5_round.cls ≠ "java/lang/invoke/MethodHandle" ∧ yX5_round.cls ≠ "java/lang/invoke/VarHandle" ∧ (parseMethodDescriptor yX5_round.desc).map (fun d => d.parameters.length) = some 0 := by decide +kernel
set_option maxHeartbeats 4000000 in
set_option maxRecDepth 100000 in
theorem c_X5_round {l : Launch} {G : Gx} {q : Nat → Nat} {st : OSt}  {x : Int32 × OSt} (hf : m_round st = some x) : QM l G yX5_round wsX5_round rmX5_round [.ref (q 42)] (wM G q st) (wM G q x.2) (some (.int x.1)) := by
  refine QM.of (cc := cX5_round) (maxL := 1) (ret := (some .int)) (by decide) rfl (Nat.le_of_ble_eq_true rfl) ?_
  intro p e s m below meth c A ls C hD hP hS hl
  have hx := C.1
  have hb := C.2.1
  have hl : lv_has ls 1 [(0, .ref (q 42))] := hl
  unfold m_round at hf
  refine lv_aload_n hx hb dX5_round_0 rfl (lv_at hl 0 rfl) ?_
  refine lv_iconst (v := 0) hx hb dX5_round_1 (by decide) ?_
  obtain ⟨s1, es1, hf⟩ := nm_ex hf
  refine q_put C hP (dd_M hD) hS wM_o rfl hiX5_round_X5 tyX5_ok nmX5 0 (by decide) wdX5_round_1 rfl rfl rfl (Nat.le_of_ble_eq_true rfl) wM_sI_0 dX5_round_2 (fun H locs hP hS => ?_)
  rw [es1] at hP
  refine lv_aload_n hx hb dX5_round_5 rfl (lv_at hl 0 rfl) ?_
  obtain ⟨x2, hx2, hf⟩ := bd_some hf
  refine q_Vv C (rc := (RX5, TX5, 42)) (q0 := 0) (ci := 5) (ws' := wM G q x2) (wr := []) (c_X5_keepsAhead hx2) gX5_round_X5_keepsAhead rfl ⟨rfl, rfl⟩ hdX5_keepsAhead ⟨(Nat.le_of_ble_eq_true rfl), (Nat.le_of_ble_eq_true rfl)⟩ rfl hP (dd_M hD) hS rfl rfl (List.Perm.refl _) (List.Perm.refl _) hl.1 (Nat.le_of_ble_eq_true rfl) ⟨Nat.zero_le _, Nat.zero_le _⟩ rfl dX5_round_6 (fun H locs hP hS => ?_)
  refine lv_aload_n hx hb dX5_round_9 rfl (lv_at hl 0 rfl) ?_
  obtain ⟨x3, hx3, hf⟩ := bd_some hf
  refine q_Vi C (rc := (RX5, TX5, 42)) (q0 := 0) (ci := 5) (ws' := wM G q x3.2) (wr := []) (c_X5_goesRound hx3) gX5_round_X5_goesRound rfl ⟨rfl, rfl⟩ hdX5_goesRound ⟨(Nat.le_of_ble_eq_true rfl), (Nat.le_of_ble_eq_true rfl)⟩ rfl hP (dd_M hD) hS rfl rfl (List.Perm.refl _) (List.Perm.refl _) hl.1 (Nat.le_of_ble_eq_true rfl) ⟨Nat.zero_le _, Nat.zero_le _⟩ rfl dX5_round_10 (fun H locs hP hS => ?_)
  cases hf
  exact q_iret C hP hS rfl dX5_round_13

-- X5_reduce
theorem hiX5_reduce_X5 : ∀ w ∈ u_ws RX5 TX5 42, w ∈ wsX5_reduce := mem_run (i := 80) (by decide +kernel)
theorem wdX5_reduce_1 : (Cond.fieldLink RX5 1 "CombinatorRingModel" "thrown" "I") ∈ wsX5_reduce := List.mem_of_getElem? (i := 1) rfl
def m_reduce (st : OSt) (a1 : Int32) : Option (Int32 × OSt) := nm (sI st 0 0) fun s1 => bd (m_isPair s1 a1) fun x2 => if x2 = 0 then some ((-1), s1) else bd (m_canReduce s1 a1) fun x4 => if x4 = 0 then some ((-1), s1) else bd (m_ruleOf s1 a1) fun x6 => bd (m_keepsAhead s1) fun x7 => bd (m_reduces x7 a1) fun x8 => some (x6, x8)
abbrev rmX5_reduce : Room := { frames := 4, cells := 0, slots := 0, locals := 96 }
theorem hdX5_reduce : yX5_reduce.cls = RX5 ∧ yX5_reduce.cls ≠ "java/lang/invoke/MethodHandle" ∧ yX5_reduce.cls ≠ "java/lang/invoke/VarHandle" ∧ (parseMethodDescriptor yX5_reduce.desc).map (fun d => d.parameters.length) = some 1 := by decide +kernel
set_option maxHeartbeats 4000000 in
set_option maxRecDepth 100000 in
theorem c_X5_reduce {l : Launch} {G : Gx} {q : Nat → Nat} {st : OSt} {a1 : Int32} {x : Int32 × OSt} (hf : m_reduce st a1 = some x) : QM l G yX5_reduce wsX5_reduce rmX5_reduce [.ref (q 42), .int a1] (wM G q st) (wM G q x.2) (some (.int x.1)) := by
  refine QM.of (cc := cX5_reduce) (maxL := 3) (ret := (some .int)) (by decide) rfl (Nat.le_of_ble_eq_true rfl) ?_
  intro p e s m below meth c A ls C hD hP hS hl
  have hx := C.1
  have hb := C.2.1
  have hl : lv_has ls 3 [(0, .ref (q 42)), (1, .int a1)] := hl
  unfold m_reduce at hf
  refine lv_aload_n hx hb dX5_reduce_0 rfl (lv_at hl 0 rfl) ?_
  refine lv_iconst (v := 0) hx hb dX5_reduce_1 (by decide) ?_
  obtain ⟨s1, es1, hf⟩ := nm_ex hf
  refine q_put C hP (dd_M hD) hS wM_o rfl hiX5_reduce_X5 tyX5_ok nmX5 0 (by decide) wdX5_reduce_1 rfl rfl rfl (Nat.le_of_ble_eq_true rfl) wM_sI_0 dX5_reduce_2 (fun H locs hP hS => ?_)
  rw [es1] at hP
  refine lv_aload_n hx hb dX5_reduce_5 rfl (lv_at hl 0 rfl) ?_
  refine lv_iload_n hx hb dX5_reduce_6 rfl (lv_at hl 1 rfl) ?_
  obtain ⟨x2, hx2, hf⟩ := bd_some hf
  refine q_Vi C (rc := (RX5, TX5, 42)) (q0 := 0) (ci := 5) (ws' := wM G q s1) (wr := []) (c_X5_isPair hx2) gX5_reduce_X5_isPair rfl ⟨rfl, rfl⟩ hdX5_isPair ⟨(Nat.le_of_ble_eq_true rfl), (Nat.le_of_ble_eq_true rfl)⟩ rfl hP (dd_M hD) hS rfl rfl (List.Perm.refl _) (List.Perm.refl _) hl.1 (Nat.le_of_ble_eq_true rfl) ⟨Nat.zero_le _, Nat.zero_le _⟩ rfl dX5_reduce_7 (fun H locs hP hS => ?_)
  refine lv_if_eq (tgt := 21) hx hb dX5_reduce_10 (by decide) (fun c3 => ?_) (fun c3 => ?_)
  · have hf := if_t c3 hf
    refine lv_iconst (v := (-1)) hx hb dX5_reduce_21 (by decide) ?_
    cases hf
    exact q_iret C hP hS rfl dX5_reduce_22
  · have hf := if_f c3 hf
    refine lv_aload_n hx hb dX5_reduce_13 rfl (lv_at hl 0 rfl) ?_
    refine lv_iload_n hx hb dX5_reduce_14 rfl (lv_at hl 1 rfl) ?_
    obtain ⟨x4, hx4, hf⟩ := bd_some hf
    refine q_Vi C (rc := (RX5, TX5, 42)) (q0 := 0) (ci := 5) (ws' := wM G q s1) (wr := []) (c_X5_canReduce hx4) gX5_reduce_X5_canReduce rfl ⟨rfl, rfl⟩ hdX5_canReduce ⟨(Nat.le_of_ble_eq_true rfl), (Nat.le_of_ble_eq_true rfl)⟩ rfl hP (dd_M hD) hS rfl rfl (List.Perm.refl _) (List.Perm.refl _) hl.1 (Nat.le_of_ble_eq_true rfl) ⟨Nat.zero_le _, Nat.zero_le _⟩ rfl dX5_reduce_15 (fun H locs hP hS => ?_)
    refine lv_if_ne (tgt := 23) hx hb dX5_reduce_18 (by decide) (fun c5 => ?_) (fun c5 => ?_)
    · have hf := if_f c5 hf
      refine lv_aload_n hx hb dX5_reduce_23 rfl (lv_at hl 0 rfl) ?_
      refine lv_iload_n hx hb dX5_reduce_24 rfl (lv_at hl 1 rfl) ?_
      obtain ⟨x6, hx6, hf⟩ := bd_some hf
      refine q_Vi C (rc := (RX5, TX5, 42)) (q0 := 0) (ci := 5) (ws' := wM G q s1) (wr := []) (c_X5_ruleOf hx6) gX5_reduce_X5_ruleOf rfl ⟨rfl, rfl⟩ hdX5_ruleOf ⟨(Nat.le_of_ble_eq_true rfl), (Nat.le_of_ble_eq_true rfl)⟩ rfl hP (dd_M hD) hS rfl rfl (List.Perm.refl _) (List.Perm.refl _) hl.1 (Nat.le_of_ble_eq_true rfl) ⟨Nat.zero_le _, Nat.zero_le _⟩ rfl dX5_reduce_25 (fun H locs hP hS => ?_)
      refine lv_istore_n (lv' := [(2, .int x6), (0, .ref (q 42)), (1, .int a1)]) hx hb dX5_reduce_28 rfl hl (by decide) rfl (fun ls hl => ?_)
      refine lv_aload_n hx hb dX5_reduce_29 rfl (lv_at hl 1 rfl) ?_
      obtain ⟨x7, hx7, hf⟩ := bd_some hf
      refine q_Vv C (rc := (RX5, TX5, 42)) (q0 := 0) (ci := 5) (ws' := wM G q x7) (wr := []) (c_X5_keepsAhead hx7) gX5_reduce_X5_keepsAhead rfl ⟨rfl, rfl⟩ hdX5_keepsAhead ⟨(Nat.le_of_ble_eq_true rfl), (Nat.le_of_ble_eq_true rfl)⟩ rfl hP (dd_M hD) hS rfl rfl (List.Perm.refl _) (List.Perm.refl _) hl.1 (Nat.le_of_ble_eq_true rfl) ⟨Nat.zero_le _, Nat.zero_le _⟩ rfl dX5_reduce_30 (fun H locs hP hS => ?_)
      refine lv_aload_n hx hb dX5_reduce_33 rfl (lv_at hl 1 rfl) ?_
      refine lv_iload_n hx hb dX5_reduce_34 rfl (lv_at hl 2 rfl) ?_
      obtain ⟨x8, hx8, hf⟩ := bd_some hf
      refine q_Vv C (rc := (RX5, TX5, 42)) (q0 := 0) (ci := 5) (ws' := wM G q x8) (wr := []) (c_X5_reduces hx8) gX5_reduce_X5_reduces rfl ⟨rfl, rfl⟩ hdX5_reduces ⟨(Nat.le_of_ble_eq_true rfl), (Nat.le_of_ble_eq_true rfl)⟩ rfl hP (dd_M hD) hS rfl rfl (List.Perm.refl _) (List.Perm.refl _) hl.1 (Nat.le_of_ble_eq_true rfl) ⟨Nat.zero_le _, Nat.zero_le _⟩ rfl dX5_reduce_35 (fun H locs hP hS => ?_)
      refine lv_iload_n hx hb dX5_reduce_38 rfl (lv_at hl 0 rfl) ?_
      cases hf
      exact q_iret C hP hS rfl dX5_reduce_39
    · have hf := if_t c5 hf
      refine lv_iconst (v := (-1)) hx hb dX5_reduce_21 (by decide) ?_
      cases hf
      exact q_iret C hP hS rfl dX5_reduce_22

-- X5_tried
theorem hiX5_tried_X5 : ∀ w ∈ u_ws RX5 TX5 42, w ∈ wsX5_tried := mem_run (i := 93) (by decide +kernel)
theorem wdX5_tried_2 : (Cond.fieldLink RX5 7 "CombinatorRingModel" "now" "[I") ∈ wsX5_tried := List.mem_of_getElem? (i := 2) rfl
theorem wdX5_tried_3 : (Cond.fieldLink RX5 76 "CombinatorRingModel" "thought" "[I") ∈ wsX5_tried := List.mem_of_getElem? (i := 3) rfl
theorem wdX5_tried_4 : (Cond.fieldLink RX5 256 "CombinatorRingModel" "mostNodes" "I") ∈ wsX5_tried := List.mem_of_getElem? (i := 4) rfl
theorem wdX5_tried_1 : (Cond.fieldLink RX5 1 "CombinatorRingModel" "thrown" "I") ∈ wsX5_tried := List.mem_of_getElem? (i := 1) rfl
def m_tried (st : OSt) (a1 : Int32) (a2 : Int32) (a3 : Int32) (a4 : Int32) : Option (Int32 × OSt) := nm (sI st 0 0) fun s1 => bd (m_isRun a1 a2) fun x2 => if x2 = 0 then some ((-1), s1) else bd (m_within a4 0 2) fun x4 => if x4 = 0 then some ((-1), s1) else bd (m_copies 1646 (s1.2 1) 1646 (s1.2 39) 0 0) fun x6 => bd (m_steps (sA s1 39 x6) a1 a2 a3) fun x7 => bd (m_pairs x7.2 0) fun x8 => bd (m_copies 1646 (x7.2.2 39) 1646 (x7.2.2 1) 0 0) fun x9 => if a4 = 0 then some (x7.1, (sA x7.2 1 x9)) else if a4 = 1 then some (((sA x7.2 1 x9).1 25), (sA x7.2 1 x9)) else some (x8, (sA x7.2 1 x9))
abbrev rmX5_tried : Room := { frames := 7, cells := 0, slots := 0, locals := 159 }
theorem hdX5_tried : yX5_tried.cls = RX5 ∧ yX5_tried.cls ≠ "java/lang/invoke/MethodHandle" ∧ yX5_tried.cls ≠ "java/lang/invoke/VarHandle" ∧ (parseMethodDescriptor yX5_tried.desc).map (fun d => d.parameters.length) = some 4 := by decide +kernel
set_option maxHeartbeats 4000000 in
set_option maxRecDepth 100000 in
theorem c_X5_tried {l : Launch} {G : Gx} {q : Nat → Nat} {st : OSt} {a1 : Int32} {a2 : Int32} {a3 : Int32} {a4 : Int32} {x : Int32 × OSt} (hf : m_tried st a1 a2 a3 a4 = some x) : QM l G yX5_tried wsX5_tried rmX5_tried [.ref (q 42), .int a1, .int a2, .int a3, .int a4] (wM G q st) (wM G q x.2) (some (.int x.1)) := by
  refine QM.of (cc := cX5_tried) (maxL := 7) (ret := (some .int)) (by decide) rfl (Nat.le_of_ble_eq_true rfl) ?_
  intro p e s m below meth c A ls C hD hP hS hl
  have hx := C.1
  have hb := C.2.1
  have hl : lv_has ls 7 [(0, .ref (q 42)), (1, .int a1), (2, .int a2), (3, .int a3), (4, .int a4)] := hl
  unfold m_tried at hf
  refine lv_aload_n hx hb dX5_tried_0 rfl (lv_at hl 0 rfl) ?_
  refine lv_iconst (v := 0) hx hb dX5_tried_1 (by decide) ?_
  obtain ⟨s1, es1, hf⟩ := nm_ex hf
  refine q_put C hP (dd_M hD) hS wM_o rfl hiX5_tried_X5 tyX5_ok nmX5 0 (by decide) wdX5_tried_1 rfl rfl rfl (Nat.le_of_ble_eq_true rfl) wM_sI_0 dX5_tried_2 (fun H locs hP hS => ?_)
  rw [es1] at hP
  refine lv_iload_n hx hb dX5_tried_5 rfl (lv_at hl 1 rfl) ?_
  refine lv_iload_n hx hb dX5_tried_6 rfl (lv_at hl 2 rfl) ?_
  obtain ⟨x2, hx2, hf⟩ := bd_some hf
  refine q_Si C (ws' := wM G q s1) (wr := []) (c_X5_isRun (w := wM G q s1) hx2) gX5_tried_X5_isRun rfl ⟨rfl, rfl⟩ hdX5_isRun ⟨(Nat.le_of_ble_eq_true rfl), (Nat.le_of_ble_eq_true rfl)⟩ rfl hP (dd_M hD) hS (List.Perm.refl _) (List.Perm.refl _) hl.1 (Nat.le_of_ble_eq_true rfl) ⟨Nat.zero_le _, Nat.zero_le _⟩ rfl dX5_tried_7 (fun H locs hP hS => ?_)
  refine lv_if_eq (tgt := 23) hx hb dX5_tried_10 (by decide) (fun c3 => ?_) (fun c3 => ?_)
  · have hf := if_t c3 hf
    refine lv_iconst (v := (-1)) hx hb dX5_tried_23 (by decide) ?_
    cases hf
    exact q_iret C hP hS rfl dX5_tried_24
  · have hf := if_f c3 hf
    refine lv_iload hx hb dX5_tried_13 (lv_at hl 4 rfl) ?_
    refine lv_iconst (v := 0) hx hb dX5_tried_15 (by decide) ?_
    refine lv_iconst (v := 2) hx hb dX5_tried_16 (by decide) ?_
    obtain ⟨x4, hx4, hf⟩ := bd_some hf
    refine q_Si C (ws' := wM G q s1) (wr := []) (c_X5_within (w := wM G q s1) hx4) gX5_tried_X5_within rfl ⟨rfl, rfl⟩ hdX5_within ⟨(Nat.le_of_ble_eq_true rfl), (Nat.le_of_ble_eq_true rfl)⟩ rfl hP (dd_M hD) hS (List.Perm.refl _) (List.Perm.refl _) hl.1 (Nat.le_of_ble_eq_true rfl) ⟨Nat.zero_le _, Nat.zero_le _⟩ rfl dX5_tried_17 (fun H locs hP hS => ?_)
    refine lv_if_ne (tgt := 25) hx hb dX5_tried_20 (by decide) (fun c5 => ?_) (fun c5 => ?_)
    · have hf := if_f c5 hf
      refine lv_aload_n hx hb dX5_tried_25 rfl (lv_at hl 0 rfl) ?_
      refine q_get C hP wM_o rfl hiX5_tried_X5 1 (by decide) wdX5_tried_2 rfl dX5_tried_26 ?_
      refine lv_iconst (v := 0) hx hb dX5_tried_29 (by decide) ?_
      refine lv_aload_n hx hb dX5_tried_30 rfl (lv_at hl 0 rfl) ?_
      refine q_get C hP wM_o rfl hiX5_tried_X5 39 (by decide) wdX5_tried_3 rfl dX5_tried_31 ?_
      refine lv_iconst (v := 0) hx hb dX5_tried_34 (by decide) ?_
      obtain ⟨x6, hx6, hf⟩ := bd_some hf
      refine q_Sv C (ws' := wM G q (sA s1 39 x6)) (c_X5_copies (da := (q 1)) (ka := 1646) (da2 := (q 39)) (ka2 := 1646) hx6) gX5_tried_X5_copies rfl ⟨rfl, rfl⟩ hdX5_copies ⟨(Nat.le_of_ble_eq_true rfl), (Nat.le_of_ble_eq_true rfl)⟩ rfl hP (dd_M hD) hS (pm_M2 (i := 1) (j := 21) rfl rfl (by decide)) (pm_M2' (i := 1) (j := 21) rfl rfl (by decide) rfl) hl.1 (Nat.le_of_ble_eq_true rfl) ⟨Nat.zero_le _, Nat.zero_le _⟩ rfl dX5_tried_35 (fun H locs hP hS => ?_)
      refine lv_aload_n hx hb dX5_tried_38 rfl (lv_at hl 0 rfl) ?_
      refine lv_iload_n hx hb dX5_tried_39 rfl (lv_at hl 1 rfl) ?_
      refine lv_iload_n hx hb dX5_tried_40 rfl (lv_at hl 2 rfl) ?_
      refine lv_iload_n hx hb dX5_tried_41 rfl (lv_at hl 3 rfl) ?_
      obtain ⟨x7, hx7, hf⟩ := bd_some hf
      refine q_Vi C (rc := (RX5, TX5, 42)) (q0 := 0) (ci := 5) (ws' := wM G q x7.2) (wr := []) (c_X5_steps hx7) gX5_tried_X5_steps rfl ⟨rfl, rfl⟩ hdX5_steps ⟨(Nat.le_of_ble_eq_true rfl), (Nat.le_of_ble_eq_true rfl)⟩ rfl hP (dd_M hD) hS rfl rfl (List.Perm.refl _) (List.Perm.refl _) hl.1 (Nat.le_of_ble_eq_true rfl) ⟨Nat.zero_le _, Nat.zero_le _⟩ rfl dX5_tried_42 (fun H locs hP hS => ?_)
      refine lv_istore (lv' := [(5, .int x7.1), (0, .ref (q 42)), (1, .int a1), (2, .int a2), (3, .int a3), (4, .int a4)]) hx hb dX5_tried_45 hl (by decide) rfl (fun ls hl => ?_)
      refine lv_aload_n hx hb dX5_tried_47 rfl (lv_at hl 1 rfl) ?_
      refine lv_iconst (v := 0) hx hb dX5_tried_48 (by decide) ?_
      obtain ⟨x8, hx8, hf⟩ := bd_some hf
      refine q_Vi C (rc := (RX5, TX5, 42)) (q0 := 0) (ci := 5) (ws' := wM G q x7.2) (wr := []) (c_X5_pairs hx8) gX5_tried_X5_pairs rfl ⟨rfl, rfl⟩ hdX5_pairs ⟨(Nat.le_of_ble_eq_true rfl), (Nat.le_of_ble_eq_true rfl)⟩ rfl hP (dd_M hD) hS rfl rfl (List.Perm.refl _) (List.Perm.refl _) hl.1 (Nat.le_of_ble_eq_true rfl) ⟨Nat.zero_le _, Nat.zero_le _⟩ rfl dX5_tried_49 (fun H locs hP hS => ?_)
      refine lv_istore (lv' := [(6, .int x8), (5, .int x7.1), (0, .ref (q 42)), (1, .int a1), (2, .int a2), (3, .int a3), (4, .int a4)]) hx hb dX5_tried_52 hl (by decide) rfl (fun ls hl => ?_)
      refine lv_aload_n hx hb dX5_tried_54 rfl (lv_at hl 2 rfl) ?_
      refine q_get C hP wM_o rfl hiX5_tried_X5 39 (by decide) wdX5_tried_3 rfl dX5_tried_55 ?_
      refine lv_iconst (v := 0) hx hb dX5_tried_58 (by decide) ?_
      refine lv_aload_n hx hb dX5_tried_59 rfl (lv_at hl 2 rfl) ?_
      refine q_get C hP wM_o rfl hiX5_tried_X5 1 (by decide) wdX5_tried_2 rfl dX5_tried_60 ?_
      refine lv_iconst (v := 0) hx hb dX5_tried_63 (by decide) ?_
      obtain ⟨x9, hx9, hf⟩ := bd_some hf
      refine q_Sv C (ws' := wM G q (sA x7.2 1 x9)) (c_X5_copies (da := (q 39)) (ka := 1646) (da2 := (q 1)) (ka2 := 1646) hx9) gX5_tried_X5_copies rfl ⟨rfl, rfl⟩ hdX5_copies ⟨(Nat.le_of_ble_eq_true rfl), (Nat.le_of_ble_eq_true rfl)⟩ rfl hP (dd_M hD) hS (pm_M2 (i := 21) (j := 1) rfl rfl (by decide)) (pm_M2' (i := 21) (j := 1) rfl rfl (by decide) rfl) hl.1 (Nat.le_of_ble_eq_true rfl) ⟨Nat.zero_le _, Nat.zero_le _⟩ rfl dX5_tried_64 (fun H locs hP hS => ?_)
      refine lv_iload hx hb dX5_tried_67 (lv_at hl 6 rfl) ?_
      refine lv_if_ne (tgt := 77) hx hb dX5_tried_69 (by decide) (fun c10 => ?_) (fun c10 => ?_)
      · have hf := if_f c10 hf
        refine lv_iload hx hb dX5_tried_77 (lv_at hl 6 rfl) ?_
        refine lv_iconst (v := 1) hx hb dX5_tried_79 (by decide) ?_
        refine lv_icmp_ne (tgt := 90) hx hb dX5_tried_80 (by decide) (fun c11 => ?_) (fun c11 => ?_)
        · have hf := if_f c11 hf
          refine lv_iload hx hb dX5_tried_90 (lv_at hl 0 rfl) ?_
          cases hf
          exact q_iret C hP hS rfl dX5_tried_92
        · have hf := if_t c11 hf
          refine lv_aload_n hx hb dX5_tried_83 rfl (lv_at hl 2 rfl) ?_
          refine q_get C hP wM_o rfl hiX5_tried_X5 25 (by decide) wdX5_tried_4 rfl dX5_tried_84 ?_
          refine lv_goto (tgt := 92) hx hb dX5_tried_87 (by decide) ?_
          cases hf
          exact q_iret C hP hS rfl dX5_tried_92
      · have hf := if_t c10 hf
        refine lv_iload hx hb dX5_tried_72 (lv_at hl 1 rfl) ?_
        refine lv_goto (tgt := 92) hx hb dX5_tried_74 (by decide) ?_
        cases hf
        exact q_iret C hP hS rfl dX5_tried_92
    · have hf := if_t c5 hf
      refine lv_iconst (v := (-1)) hx hb dX5_tried_23 (by decide) ?_
      cases hf
      exact q_iret C hP hS rfl dX5_tried_24

-- X5_rounds
theorem hiX5_rounds_X5 : ∀ w ∈ u_ws RX5 TX5 42, w ∈ wsX5_rounds := mem_run (i := 80) (by decide +kernel)
theorem wdX5_rounds_2 : (Cond.fieldLink RX5 7 "CombinatorRingModel" "now" "[I") ∈ wsX5_rounds := List.mem_of_getElem? (i := 2) rfl
theorem wdX5_rounds_3 : (Cond.fieldLink RX5 76 "CombinatorRingModel" "thought" "[I") ∈ wsX5_rounds := List.mem_of_getElem? (i := 3) rfl
theorem wdX5_rounds_1 : (Cond.fieldLink RX5 1 "CombinatorRingModel" "thrown" "I") ∈ wsX5_rounds := List.mem_of_getElem? (i := 1) rfl
def m_rounds_20 : Nat → OSt → Int32 → Option (OSt × Int32)
  | 0, _, _ => none
  | n + 1, st, v1 => if 500 < v1 then some (st, v1) else bd (m_goesRound st) fun x7 => if x7.1 ≤ 0 then some (x7.2, v1) else m_rounds_20 n x7.2 (v1 + 1)
def m_rounds (st : OSt)  : Option (Int32 × OSt) := nm (sI st 0 0) fun s1 => bd (m_copies 1646 (s1.2 1) 1646 (s1.2 39) 0 0) fun x2 => bd (m_rounds_20 20000 (sA s1 39 x2) 0) fun x3 => bd (m_copies 1646 (x3.1.2 39) 1646 (x3.1.2 1) 0 0) fun x4 => if x3.2 ≤ 500 then some (x3.2, (sA x3.1 1 x4)) else some ((-2), (sA x3.1 1 x4))
abbrev rmX5_rounds : Room := { frames := 5, cells := 0, slots := 0, locals := 119 }
theorem hdX5_rounds : yX5_rounds.cls = RX5 ∧ yX5_rounds.cls ≠ "java/lang/invoke/MethodHandle" ∧ yX5_rounds.cls ≠ "java/lang/invoke/VarHandle" ∧ (parseMethodDescriptor yX5_rounds.desc).map (fun d => d.parameters.length) = some 0 := by decide +kernel
set_option maxHeartbeats 4000000 in
set_option maxRecDepth 100000 in
theorem t_X5_rounds_20 {p : Program} {l : Launch} {e : Env} {s : State} {m : MethodId} {args : Array Value} {below : List Frame} {meth : Method} {c : Code} {Q : State → Prop} {A : Nat → Prop} {G : Gx} {q : Nat → Nat} {st0 : OSt} (C : Cx p s m args meth c G cX5_rounds wsX5_rounds RX5 (some .int) 2 A) (hD : va_D A (wM G q st0)) :
    ∀ {n : Nat} {st : OSt} {v1 : Int32} {x : OSt × Int32}, m_rounds_20 n st v1 = some x → ∀ {H : Heap} {locs : List Loc} {ls : Array Slot}, va_P G.1 vwCl (wM G q st) H → va_S A s.heap H locs → lv_has ls 2 [(0, .ref (q 42)), (1, .int v1)] → (∀ {H : Heap} {locs : List Loc} {ls : Array Slot}, va_P G.1 vwCl (wM G q x.1) H → va_S A s.heap H locs → lv_has ls 2 [(0, .ref (q 42)), (1, .int x.2)] → W p l e rmX5_rounds s m args below meth c H locs 0 0 Q (F0 m 40 ls [])) → W p l e rmX5_rounds s m args below meth c H locs 0 0 Q (F0 m 20 ls []) := by
  have hx := C.1
  have hb := C.2.1
  intro n
  induction n with
  | zero => intro st v1 x hf; cases hf
  | succ n ih =>
    intro st v1 x hf H locs ls hP hS hl kk
    rw [m_rounds_20] at hf
    refine lv_iload_n hx hb dX5_rounds_20 rfl (lv_at hl 1 rfl) ?_
    refine lv_sipush (v := 500) hx hb dX5_rounds_21 (by decide) ?_
    refine lv_icmp_gt (tgt := 40) hx hb dX5_rounds_24 (by decide) (fun c6 => ?_) (fun c6 => ?_)
    · have hf := if_t c6 hf
      cases hf
      exact kk hP hS (lv_sub hl [0, 1] rfl)
    · have hf := if_f c6 hf
      refine lv_aload_n hx hb dX5_rounds_27 rfl (lv_at hl 0 rfl) ?_
      obtain ⟨x7, hx7, hf⟩ := bd_some hf
      refine q_Vi C (rc := (RX5, TX5, 42)) (q0 := 0) (ci := 5) (ws' := wM G q x7.2) (wr := []) (c_X5_goesRound hx7) gX5_rounds_X5_goesRound rfl ⟨rfl, rfl⟩ hdX5_goesRound ⟨(Nat.le_of_ble_eq_true rfl), (Nat.le_of_ble_eq_true rfl)⟩ rfl hP (dd_M hD) hS rfl rfl (List.Perm.refl _) (List.Perm.refl _) hl.1 (Nat.le_of_ble_eq_true rfl) ⟨Nat.zero_le _, Nat.zero_le _⟩ rfl dX5_rounds_28 (fun H locs hP hS => ?_)
      refine lv_if_le (tgt := 40) hx hb dX5_rounds_31 (by decide) (fun c8 => ?_) (fun c8 => ?_)
      · have hf := if_t c8 hf
        cases hf
        exact kk hP hS (lv_sub hl [0, 1] rfl)
      · have hf := if_f c8 hf
        refine lv_iinc (v := (v1 + 1)) (lv' := [(1, .int (v1 + 1)), (0, .ref (q 42))]) hx hb dX5_rounds_34 hl (k := 1) rfl rfl (by decide) rfl (fun ls hl => ?_)
        refine lv_goto (tgt := 20) hx hb dX5_rounds_37 (by decide) ?_
        exact ih hf hP hS (lv_sub hl [1, 0] rfl) kk
set_option maxHeartbeats 4000000 in
set_option maxRecDepth 100000 in
theorem c_X5_rounds {l : Launch} {G : Gx} {q : Nat → Nat} {st : OSt}  {x : Int32 × OSt} (hf : m_rounds st = some x) : QM l G yX5_rounds wsX5_rounds rmX5_rounds [.ref (q 42)] (wM G q st) (wM G q x.2) (some (.int x.1)) := by
  refine QM.of (cc := cX5_rounds) (maxL := 2) (ret := (some .int)) (by decide) rfl (Nat.le_of_ble_eq_true rfl) ?_
  intro p e s m below meth c A ls C hD hP hS hl
  have hx := C.1
  have hb := C.2.1
  have hl : lv_has ls 2 [(0, .ref (q 42))] := hl
  unfold m_rounds at hf
  refine lv_aload_n hx hb dX5_rounds_0 rfl (lv_at hl 0 rfl) ?_
  refine lv_iconst (v := 0) hx hb dX5_rounds_1 (by decide) ?_
  obtain ⟨s1, es1, hf⟩ := nm_ex hf
  refine q_put C hP (dd_M hD) hS wM_o rfl hiX5_rounds_X5 tyX5_ok nmX5 0 (by decide) wdX5_rounds_1 rfl rfl rfl (Nat.le_of_ble_eq_true rfl) wM_sI_0 dX5_rounds_2 (fun H locs hP hS => ?_)
  rw [es1] at hP
  refine lv_aload_n hx hb dX5_rounds_5 rfl (lv_at hl 0 rfl) ?_
  refine q_get C hP wM_o rfl hiX5_rounds_X5 1 (by decide) wdX5_rounds_2 rfl dX5_rounds_6 ?_
  refine lv_iconst (v := 0) hx hb dX5_rounds_9 (by decide) ?_
  refine lv_aload_n hx hb dX5_rounds_10 rfl (lv_at hl 0 rfl) ?_
  refine q_get C hP wM_o rfl hiX5_rounds_X5 39 (by decide) wdX5_rounds_3 rfl dX5_rounds_11 ?_
  refine lv_iconst (v := 0) hx hb dX5_rounds_14 (by decide) ?_
  obtain ⟨x2, hx2, hf⟩ := bd_some hf
  refine q_Sv C (ws' := wM G q (sA s1 39 x2)) (c_X5_copies (da := (q 1)) (ka := 1646) (da2 := (q 39)) (ka2 := 1646) hx2) gX5_rounds_X5_copies rfl ⟨rfl, rfl⟩ hdX5_copies ⟨(Nat.le_of_ble_eq_true rfl), (Nat.le_of_ble_eq_true rfl)⟩ rfl hP (dd_M hD) hS (pm_M2 (i := 1) (j := 21) rfl rfl (by decide)) (pm_M2' (i := 1) (j := 21) rfl rfl (by decide) rfl) hl.1 (Nat.le_of_ble_eq_true rfl) ⟨Nat.zero_le _, Nat.zero_le _⟩ rfl dX5_rounds_15 (fun H locs hP hS => ?_)
  refine lv_iconst (v := 0) hx hb dX5_rounds_18 (by decide) ?_
  refine lv_istore_n (lv' := [(1, .int 0), (0, .ref (q 42))]) hx hb dX5_rounds_19 rfl hl (by decide) rfl (fun ls hl => ?_)
  obtain ⟨x3, hx3, hf⟩ := bd_some hf
  refine t_X5_rounds_20 C hD hx3 hP hS (lv_sub hl [1, 0] rfl) (fun {H locs ls} hP hS hl => ?_)
  refine lv_aload_n hx hb dX5_rounds_40 rfl (lv_at hl 0 rfl) ?_
  refine q_get C hP wM_o rfl hiX5_rounds_X5 39 (by decide) wdX5_rounds_3 rfl dX5_rounds_41 ?_
  refine lv_iconst (v := 0) hx hb dX5_rounds_44 (by decide) ?_
  refine lv_aload_n hx hb dX5_rounds_45 rfl (lv_at hl 0 rfl) ?_
  refine q_get C hP wM_o rfl hiX5_rounds_X5 1 (by decide) wdX5_rounds_2 rfl dX5_rounds_46 ?_
  refine lv_iconst (v := 0) hx hb dX5_rounds_49 (by decide) ?_
  obtain ⟨x4, hx4, hf⟩ := bd_some hf
  refine q_Sv C (ws' := wM G q (sA x3.1 1 x4)) (c_X5_copies (da := (q 39)) (ka := 1646) (da2 := (q 1)) (ka2 := 1646) hx4) gX5_rounds_X5_copies rfl ⟨rfl, rfl⟩ hdX5_copies ⟨(Nat.le_of_ble_eq_true rfl), (Nat.le_of_ble_eq_true rfl)⟩ rfl hP (dd_M hD) hS (pm_M2 (i := 21) (j := 1) rfl rfl (by decide)) (pm_M2' (i := 21) (j := 1) rfl rfl (by decide) rfl) hl.1 (Nat.le_of_ble_eq_true rfl) ⟨Nat.zero_le _, Nat.zero_le _⟩ rfl dX5_rounds_50 (fun H locs hP hS => ?_)
  refine lv_iload_n hx hb dX5_rounds_53 rfl (lv_at hl 1 rfl) ?_
  refine lv_sipush (v := 500) hx hb dX5_rounds_54 (by decide) ?_
  refine lv_icmp_le (tgt := 65) hx hb dX5_rounds_57 (by decide) (fun c5 => ?_) (fun c5 => ?_)
  · have hf := if_t c5 hf
    refine lv_iload_n hx hb dX5_rounds_65 rfl (lv_at hl 1 rfl) ?_
    cases hf
    exact q_iret C hP hS rfl dX5_rounds_66
  · have hf := if_f c5 hf
    refine lv_bipush (v := (-2)) hx hb dX5_rounds_60 (by decide) ?_
    refine lv_goto (tgt := 66) hx hb dX5_rounds_62 (by decide) ?_
    cases hf
    exact q_iret C hP hS rfl dX5_rounds_66

-- X5_alike
theorem hiX5_alike_X5 : ∀ w ∈ u_ws RX5 TX5 42, w ∈ wsX5_alike := mem_run (i := 127) (by decide +kernel)
theorem wdX5_alike_2 : (Cond.fieldLink RX5 7 "CombinatorRingModel" "now" "[I") ∈ wsX5_alike := List.mem_of_getElem? (i := 2) rfl
theorem wdX5_alike_3 : (Cond.fieldLink RX5 76 "CombinatorRingModel" "thought" "[I") ∈ wsX5_alike := List.mem_of_getElem? (i := 3) rfl
theorem wdX5_alike_4 : (Cond.fieldLink RX5 309 "CombinatorRingModel" "mostSteps" "I") ∈ wsX5_alike := List.mem_of_getElem? (i := 4) rfl
theorem wdX5_alike_1 : (Cond.fieldLink RX5 1 "CombinatorRingModel" "thrown" "I") ∈ wsX5_alike := List.mem_of_getElem? (i := 1) rfl
def m_alike_111 (st : OSt) (k0 : Int32) : Option (Int32 × OSt) := bd (m_areAlike st) fun x18 => bd (m_copies 1646 (x18.2.2 39) 1646 (x18.2.2 1) 0 0) fun x19 => if k0 = 0 then if x18.1 = 0 then some (0, (sA x18.2 1 x19)) else some (1, (sA x18.2 1 x19)) else some ((-2), (sA x18.2 1 x19))
def m_alike_106 (st : OSt) : Option (Int32 × OSt) := m_alike_111 st 1
def m_alike_62 (st : OSt) (v2 : Int32) (v3 : Int32) (v4 : Int32) (k0 : Int32) : Option (Int32 × OSt) := bd (m_laysBy st) fun x11 => bd (m_copies 1646 (x11.2 39) 1646 (x11.2 1) 0 0) fun x12 => bd (m_steps (sA x11 1 x12) v2 v3 v4) fun x13 => nm (sI x13.2 26 x13.1) fun s14 => if k0 = 0 then bd (m_pairs s14 1) fun x16 => if x16 ≤ 0 then m_alike_111 s14 0 else m_alike_106 s14 else m_alike_106 s14
def m_alike (st : OSt) (a1 : Int32) (a2 : Int32) (a3 : Int32) (a4 : Int32) : Option (Int32 × OSt) := nm (sI st 0 0) fun s1 => bd (m_isRun a1 a3) fun x2 => if x2 = 0 then some ((-1), s1) else bd (m_within a2 0 2) fun x4 => if x4 = 0 then some ((-1), s1) else bd (m_copies 1646 (s1.2 1) 1646 (s1.2 39) 0 0) fun x6 => bd (m_steps (sA s1 39 x6) a1 a3 a4) fun x7 => nm (sI x7.2 26 x7.1) fun s8 => bd (m_pairs s8 1) fun x9 => if x9 ≤ 0 then m_alike_62 s8 a2 a3 a4 0 else m_alike_62 s8 a2 a3 a4 1
abbrev rmX5_alike : Room := { frames := 7, cells := 0, slots := 0, locals := 159 }
theorem hdX5_alike : yX5_alike.cls = RX5 ∧ yX5_alike.cls ≠ "java/lang/invoke/MethodHandle" ∧ yX5_alike.cls ≠ "java/lang/invoke/VarHandle" ∧ (parseMethodDescriptor yX5_alike.desc).map (fun d => d.parameters.length) = some 4 := by decide +kernel
set_option maxHeartbeats 4000000 in
set_option maxRecDepth 100000 in
theorem t_X5_alike_111 {p : Program} {l : Launch} {e : Env} {s : State} {m : MethodId} {args : Array Value} {below : List Frame} {meth : Method} {c : Code} {A : Nat → Prop} {G : Gx} {q : Nat → Nat} {st0 : OSt} (C : Cx p s m args meth c G cX5_alike wsX5_alike RX5 (some .int) 7 A) (hD : va_D A (wM G q st0)) :
    ∀ {st : OSt} {k0 : Int32} {x : Int32 × OSt}, m_alike_111 st k0 = some x → ∀ {H : Heap} {locs : List Loc} {ls : Array Slot}, va_P G.1 vwCl (wM G q st) H → va_S A s.heap H locs → lv_has ls 7 [(0, .ref (q 42))] → W p l e rmX5_alike s m args below meth c H locs 0 0 (MQ below (qE G A (wM G q x.2) (some (.int x.1))) args s 0 0 A) (F0 m 111 ls [.int k0]) := by
  have hx := C.1
  have hb := C.2.1
  intro st k0 x hf H locs ls hP hS hl
  unfold m_alike_111 at hf
  refine lv_istore (lv' := [(5, .int k0), (0, .ref (q 42))]) hx hb dX5_alike_111 hl (by decide) rfl (fun ls hl => ?_)
  refine lv_aload_n hx hb dX5_alike_113 rfl (lv_at hl 1 rfl) ?_
  obtain ⟨x18, hx18, hf⟩ := bd_some hf
  refine q_Vi C (rc := (RX5, TX5, 42)) (q0 := 0) (ci := 5) (ws' := wM G q x18.2) (wr := []) (c_X5_areAlike hx18) gX5_alike_X5_areAlike rfl ⟨rfl, rfl⟩ hdX5_areAlike ⟨(Nat.le_of_ble_eq_true rfl), (Nat.le_of_ble_eq_true rfl)⟩ rfl hP (dd_M hD) hS rfl rfl (List.Perm.refl _) (List.Perm.refl _) hl.1 (Nat.le_of_ble_eq_true rfl) ⟨Nat.zero_le _, Nat.zero_le _⟩ rfl dX5_alike_114 (fun H locs hP hS => ?_)
  refine lv_istore (lv' := [(6, .int x18.1), (5, .int k0), (0, .ref (q 42))]) hx hb dX5_alike_117 hl (by decide) rfl (fun ls hl => ?_)
  refine lv_aload_n hx hb dX5_alike_119 rfl (lv_at hl 2 rfl) ?_
  refine q_get C hP wM_o rfl hiX5_alike_X5 39 (by decide) wdX5_alike_3 rfl dX5_alike_120 ?_
  refine lv_iconst (v := 0) hx hb dX5_alike_123 (by decide) ?_
  refine lv_aload_n hx hb dX5_alike_124 rfl (lv_at hl 2 rfl) ?_
  refine q_get C hP wM_o rfl hiX5_alike_X5 1 (by decide) wdX5_alike_2 rfl dX5_alike_125 ?_
  refine lv_iconst (v := 0) hx hb dX5_alike_128 (by decide) ?_
  obtain ⟨x19, hx19, hf⟩ := bd_some hf
  refine q_Sv C (ws' := wM G q (sA x18.2 1 x19)) (c_X5_copies (da := (q 39)) (ka := 1646) (da2 := (q 1)) (ka2 := 1646) hx19) gX5_alike_X5_copies rfl ⟨rfl, rfl⟩ hdX5_copies ⟨(Nat.le_of_ble_eq_true rfl), (Nat.le_of_ble_eq_true rfl)⟩ rfl hP (dd_M hD) hS (pm_M2 (i := 21) (j := 1) rfl rfl (by decide)) (pm_M2' (i := 21) (j := 1) rfl rfl (by decide) rfl) hl.1 (Nat.le_of_ble_eq_true rfl) ⟨Nat.zero_le _, Nat.zero_le _⟩ rfl dX5_alike_129 (fun H locs hP hS => ?_)
  refine lv_iload hx hb dX5_alike_132 (lv_at hl 1 rfl) ?_
  refine lv_if_eq (tgt := 142) hx hb dX5_alike_134 (by decide) (fun c20 => ?_) (fun c20 => ?_)
  · have hf := if_t c20 hf
    refine lv_iload hx hb dX5_alike_142 (lv_at hl 0 rfl) ?_
    refine lv_if_eq (tgt := 151) hx hb dX5_alike_144 (by decide) (fun c21 => ?_) (fun c21 => ?_)
    · have hf := if_t c21 hf
      refine lv_iconst (v := 0) hx hb dX5_alike_151 (by decide) ?_
      cases hf
      exact q_iret C hP hS rfl dX5_alike_152
    · have hf := if_f c21 hf
      refine lv_iconst (v := 1) hx hb dX5_alike_147 (by decide) ?_
      refine lv_goto (tgt := 152) hx hb dX5_alike_148 (by decide) ?_
      cases hf
      exact q_iret C hP hS rfl dX5_alike_152
  · have hf := if_f c20 hf
    refine lv_bipush (v := (-2)) hx hb dX5_alike_137 (by decide) ?_
    refine lv_goto (tgt := 152) hx hb dX5_alike_139 (by decide) ?_
    cases hf
    exact q_iret C hP hS rfl dX5_alike_152
set_option maxHeartbeats 4000000 in
set_option maxRecDepth 100000 in
theorem t_X5_alike_106 {p : Program} {l : Launch} {e : Env} {s : State} {m : MethodId} {args : Array Value} {below : List Frame} {meth : Method} {c : Code} {A : Nat → Prop} {G : Gx} {q : Nat → Nat} {st0 : OSt} (C : Cx p s m args meth c G cX5_alike wsX5_alike RX5 (some .int) 7 A) (hD : va_D A (wM G q st0)) :
    ∀ {st : OSt}  {x : Int32 × OSt}, m_alike_106 st = some x → ∀ {H : Heap} {locs : List Loc} {ls : Array Slot}, va_P G.1 vwCl (wM G q st) H → va_S A s.heap H locs → lv_has ls 7 [(0, .ref (q 42))] → W p l e rmX5_alike s m args below meth c H locs 0 0 (MQ below (qE G A (wM G q x.2) (some (.int x.1))) args s 0 0 A) (F0 m 106 ls []) := by
  have hx := C.1
  have hb := C.2.1
  intro st x hf H locs ls hP hS hl
  unfold m_alike_106 at hf
  refine lv_iconst (v := 1) hx hb dX5_alike_106 (by decide) ?_
  refine lv_goto (tgt := 111) hx hb dX5_alike_107 (by decide) ?_
  exact t_X5_alike_111 C hD hf hP hS (lv_sub hl [0] rfl)
set_option maxHeartbeats 4000000 in
set_option maxRecDepth 100000 in
theorem t_X5_alike_62 {p : Program} {l : Launch} {e : Env} {s : State} {m : MethodId} {args : Array Value} {below : List Frame} {meth : Method} {c : Code} {A : Nat → Prop} {G : Gx} {q : Nat → Nat} {st0 : OSt} (C : Cx p s m args meth c G cX5_alike wsX5_alike RX5 (some .int) 7 A) (hD : va_D A (wM G q st0)) :
    ∀ {st : OSt} {v2 : Int32} {v3 : Int32} {v4 : Int32} {k0 : Int32} {x : Int32 × OSt}, m_alike_62 st v2 v3 v4 k0 = some x → ∀ {H : Heap} {locs : List Loc} {ls : Array Slot}, va_P G.1 vwCl (wM G q st) H → va_S A s.heap H locs → lv_has ls 7 [(0, .ref (q 42)), (2, .int v2), (3, .int v3), (4, .int v4)] → W p l e rmX5_alike s m args below meth c H locs 0 0 (MQ below (qE G A (wM G q x.2) (some (.int x.1))) args s 0 0 A) (F0 m 62 ls [.int k0]) := by
  have hx := C.1
  have hb := C.2.1
  intro st v2 v3 v4 k0 x hf H locs ls hP hS hl
  unfold m_alike_62 at hf
  refine lv_istore (lv' := [(5, .int k0), (0, .ref (q 42)), (2, .int v2), (3, .int v3), (4, .int v4)]) hx hb dX5_alike_62 hl (by decide) rfl (fun ls hl => ?_)
  refine lv_aload_n hx hb dX5_alike_64 rfl (lv_at hl 1 rfl) ?_
  obtain ⟨x11, hx11, hf⟩ := bd_some hf
  refine q_Vv C (rc := (RX5, TX5, 42)) (q0 := 0) (ci := 5) (ws' := wM G q x11) (wr := []) (c_X5_laysBy hx11) gX5_alike_X5_laysBy rfl ⟨rfl, rfl⟩ hdX5_laysBy ⟨(Nat.le_of_ble_eq_true rfl), (Nat.le_of_ble_eq_true rfl)⟩ rfl hP (dd_M hD) hS rfl rfl (List.Perm.refl _) (List.Perm.refl _) hl.1 (Nat.le_of_ble_eq_true rfl) ⟨Nat.zero_le _, Nat.zero_le _⟩ rfl dX5_alike_65 (fun H locs hP hS => ?_)
  refine lv_aload_n hx hb dX5_alike_68 rfl (lv_at hl 1 rfl) ?_
  refine q_get C hP wM_o rfl hiX5_alike_X5 39 (by decide) wdX5_alike_3 rfl dX5_alike_69 ?_
  refine lv_iconst (v := 0) hx hb dX5_alike_72 (by decide) ?_
  refine lv_aload_n hx hb dX5_alike_73 rfl (lv_at hl 1 rfl) ?_
  refine q_get C hP wM_o rfl hiX5_alike_X5 1 (by decide) wdX5_alike_2 rfl dX5_alike_74 ?_
  refine lv_iconst (v := 0) hx hb dX5_alike_77 (by decide) ?_
  obtain ⟨x12, hx12, hf⟩ := bd_some hf
  refine q_Sv C (ws' := wM G q (sA x11 1 x12)) (c_X5_copies (da := (q 39)) (ka := 1646) (da2 := (q 1)) (ka2 := 1646) hx12) gX5_alike_X5_copies rfl ⟨rfl, rfl⟩ hdX5_copies ⟨(Nat.le_of_ble_eq_true rfl), (Nat.le_of_ble_eq_true rfl)⟩ rfl hP (dd_M hD) hS (pm_M2 (i := 21) (j := 1) rfl rfl (by decide)) (pm_M2' (i := 21) (j := 1) rfl rfl (by decide) rfl) hl.1 (Nat.le_of_ble_eq_true rfl) ⟨Nat.zero_le _, Nat.zero_le _⟩ rfl dX5_alike_78 (fun H locs hP hS => ?_)
  refine lv_aload_n hx hb dX5_alike_81 rfl (lv_at hl 1 rfl) ?_
  refine lv_aload_n hx hb dX5_alike_82 rfl (lv_at hl 1 rfl) ?_
  refine lv_iload_n hx hb dX5_alike_83 rfl (lv_at hl 2 rfl) ?_
  refine lv_iload_n hx hb dX5_alike_84 rfl (lv_at hl 3 rfl) ?_
  refine lv_iload hx hb dX5_alike_85 (lv_at hl 4 rfl) ?_
  obtain ⟨x13, hx13, hf⟩ := bd_some hf
  refine q_Vi C (rc := (RX5, TX5, 42)) (q0 := 0) (ci := 5) (ws' := wM G q x13.2) (wr := []) (c_X5_steps hx13) gX5_alike_X5_steps rfl ⟨rfl, rfl⟩ hdX5_steps ⟨(Nat.le_of_ble_eq_true rfl), (Nat.le_of_ble_eq_true rfl)⟩ rfl hP (dd_M hD) hS rfl rfl (List.Perm.refl _) (List.Perm.refl _) hl.1 (Nat.le_of_ble_eq_true rfl) ⟨Nat.zero_le _, Nat.zero_le _⟩ rfl dX5_alike_87 (fun H locs hP hS => ?_)
  obtain ⟨s14, es14, hf⟩ := nm_ex hf
  refine q_put C hP (dd_M hD) hS wM_o rfl hiX5_alike_X5 tyX5_ok nmX5 26 (by decide) wdX5_alike_4 rfl rfl rfl (Nat.le_of_ble_eq_true rfl) wM_sI_26 dX5_alike_90 (fun H locs hP hS => ?_)
  rw [es14] at hP
  refine lv_iload hx hb dX5_alike_93 (lv_at hl 0 rfl) ?_
  refine lv_if_ne (tgt := 106) hx hb dX5_alike_95 (by decide) (fun c15 => ?_) (fun c15 => ?_)
  · have hf := if_f c15 hf
    exact t_X5_alike_106 C hD hf hP hS (lv_sub hl [1] rfl)
  · have hf := if_t c15 hf
    refine lv_aload_n hx hb dX5_alike_98 rfl (lv_at hl 1 rfl) ?_
    refine lv_iconst (v := 1) hx hb dX5_alike_99 (by decide) ?_
    obtain ⟨x16, hx16, hf⟩ := bd_some hf
    refine q_Vi C (rc := (RX5, TX5, 42)) (q0 := 0) (ci := 5) (ws' := wM G q s14) (wr := []) (c_X5_pairs hx16) gX5_alike_X5_pairs rfl ⟨rfl, rfl⟩ hdX5_pairs ⟨(Nat.le_of_ble_eq_true rfl), (Nat.le_of_ble_eq_true rfl)⟩ rfl hP (dd_M hD) hS rfl rfl (List.Perm.refl _) (List.Perm.refl _) hl.1 (Nat.le_of_ble_eq_true rfl) ⟨Nat.zero_le _, Nat.zero_le _⟩ rfl dX5_alike_100 (fun H locs hP hS => ?_)
    refine lv_if_le (tgt := 110) hx hb dX5_alike_103 (by decide) (fun c17 => ?_) (fun c17 => ?_)
    · have hf := if_t c17 hf
      refine lv_iconst (v := 0) hx hb dX5_alike_110 (by decide) ?_
      exact t_X5_alike_111 C hD hf hP hS (lv_sub hl [1] rfl)
    · have hf := if_f c17 hf
      exact t_X5_alike_106 C hD hf hP hS (lv_sub hl [1] rfl)
set_option maxHeartbeats 4000000 in
set_option maxRecDepth 100000 in
theorem c_X5_alike {l : Launch} {G : Gx} {q : Nat → Nat} {st : OSt} {a1 : Int32} {a2 : Int32} {a3 : Int32} {a4 : Int32} {x : Int32 × OSt} (hf : m_alike st a1 a2 a3 a4 = some x) : QM l G yX5_alike wsX5_alike rmX5_alike [.ref (q 42), .int a1, .int a2, .int a3, .int a4] (wM G q st) (wM G q x.2) (some (.int x.1)) := by
  refine QM.of (cc := cX5_alike) (maxL := 7) (ret := (some .int)) (by decide) rfl (Nat.le_of_ble_eq_true rfl) ?_
  intro p e s m below meth c A ls C hD hP hS hl
  have hx := C.1
  have hb := C.2.1
  have hl : lv_has ls 7 [(0, .ref (q 42)), (1, .int a1), (2, .int a2), (3, .int a3), (4, .int a4)] := hl
  unfold m_alike at hf
  refine lv_aload_n hx hb dX5_alike_0 rfl (lv_at hl 0 rfl) ?_
  refine lv_iconst (v := 0) hx hb dX5_alike_1 (by decide) ?_
  obtain ⟨s1, es1, hf⟩ := nm_ex hf
  refine q_put C hP (dd_M hD) hS wM_o rfl hiX5_alike_X5 tyX5_ok nmX5 0 (by decide) wdX5_alike_1 rfl rfl rfl (Nat.le_of_ble_eq_true rfl) wM_sI_0 dX5_alike_2 (fun H locs hP hS => ?_)
  rw [es1] at hP
  refine lv_iload_n hx hb dX5_alike_5 rfl (lv_at hl 1 rfl) ?_
  refine lv_iload_n hx hb dX5_alike_6 rfl (lv_at hl 3 rfl) ?_
  obtain ⟨x2, hx2, hf⟩ := bd_some hf
  refine q_Si C (ws' := wM G q s1) (wr := []) (c_X5_isRun (w := wM G q s1) hx2) gX5_alike_X5_isRun rfl ⟨rfl, rfl⟩ hdX5_isRun ⟨(Nat.le_of_ble_eq_true rfl), (Nat.le_of_ble_eq_true rfl)⟩ rfl hP (dd_M hD) hS (List.Perm.refl _) (List.Perm.refl _) hl.1 (Nat.le_of_ble_eq_true rfl) ⟨Nat.zero_le _, Nat.zero_le _⟩ rfl dX5_alike_7 (fun H locs hP hS => ?_)
  refine lv_if_eq (tgt := 22) hx hb dX5_alike_10 (by decide) (fun c3 => ?_) (fun c3 => ?_)
  · have hf := if_t c3 hf
    refine lv_iconst (v := (-1)) hx hb dX5_alike_22 (by decide) ?_
    cases hf
    exact q_iret C hP hS rfl dX5_alike_23
  · have hf := if_f c3 hf
    refine lv_iload_n hx hb dX5_alike_13 rfl (lv_at hl 2 rfl) ?_
    refine lv_iconst (v := 0) hx hb dX5_alike_14 (by decide) ?_
    refine lv_iconst (v := 2) hx hb dX5_alike_15 (by decide) ?_
    obtain ⟨x4, hx4, hf⟩ := bd_some hf
    refine q_Si C (ws' := wM G q s1) (wr := []) (c_X5_within (w := wM G q s1) hx4) gX5_alike_X5_within rfl ⟨rfl, rfl⟩ hdX5_within ⟨(Nat.le_of_ble_eq_true rfl), (Nat.le_of_ble_eq_true rfl)⟩ rfl hP (dd_M hD) hS (List.Perm.refl _) (List.Perm.refl _) hl.1 (Nat.le_of_ble_eq_true rfl) ⟨Nat.zero_le _, Nat.zero_le _⟩ rfl dX5_alike_16 (fun H locs hP hS => ?_)
    refine lv_if_ne (tgt := 24) hx hb dX5_alike_19 (by decide) (fun c5 => ?_) (fun c5 => ?_)
    · have hf := if_f c5 hf
      refine lv_aload_n hx hb dX5_alike_24 rfl (lv_at hl 0 rfl) ?_
      refine q_get C hP wM_o rfl hiX5_alike_X5 1 (by decide) wdX5_alike_2 rfl dX5_alike_25 ?_
      refine lv_iconst (v := 0) hx hb dX5_alike_28 (by decide) ?_
      refine lv_aload_n hx hb dX5_alike_29 rfl (lv_at hl 0 rfl) ?_
      refine q_get C hP wM_o rfl hiX5_alike_X5 39 (by decide) wdX5_alike_3 rfl dX5_alike_30 ?_
      refine lv_iconst (v := 0) hx hb dX5_alike_33 (by decide) ?_
      obtain ⟨x6, hx6, hf⟩ := bd_some hf
      refine q_Sv C (ws' := wM G q (sA s1 39 x6)) (c_X5_copies (da := (q 1)) (ka := 1646) (da2 := (q 39)) (ka2 := 1646) hx6) gX5_alike_X5_copies rfl ⟨rfl, rfl⟩ hdX5_copies ⟨(Nat.le_of_ble_eq_true rfl), (Nat.le_of_ble_eq_true rfl)⟩ rfl hP (dd_M hD) hS (pm_M2 (i := 1) (j := 21) rfl rfl (by decide)) (pm_M2' (i := 1) (j := 21) rfl rfl (by decide) rfl) hl.1 (Nat.le_of_ble_eq_true rfl) ⟨Nat.zero_le _, Nat.zero_le _⟩ rfl dX5_alike_34 (fun H locs hP hS => ?_)
      refine lv_aload_n hx hb dX5_alike_37 rfl (lv_at hl 0 rfl) ?_
      refine lv_aload_n hx hb dX5_alike_38 rfl (lv_at hl 0 rfl) ?_
      refine lv_iload_n hx hb dX5_alike_39 rfl (lv_at hl 1 rfl) ?_
      refine lv_iload_n hx hb dX5_alike_40 rfl (lv_at hl 3 rfl) ?_
      refine lv_iload hx hb dX5_alike_41 (lv_at hl 4 rfl) ?_
      obtain ⟨x7, hx7, hf⟩ := bd_some hf
      refine q_Vi C (rc := (RX5, TX5, 42)) (q0 := 0) (ci := 5) (ws' := wM G q x7.2) (wr := []) (c_X5_steps hx7) gX5_alike_X5_steps rfl ⟨rfl, rfl⟩ hdX5_steps ⟨(Nat.le_of_ble_eq_true rfl), (Nat.le_of_ble_eq_true rfl)⟩ rfl hP (dd_M hD) hS rfl rfl (List.Perm.refl _) (List.Perm.refl _) hl.1 (Nat.le_of_ble_eq_true rfl) ⟨Nat.zero_le _, Nat.zero_le _⟩ rfl dX5_alike_43 (fun H locs hP hS => ?_)
      obtain ⟨s8, es8, hf⟩ := nm_ex hf
      refine q_put C hP (dd_M hD) hS wM_o rfl hiX5_alike_X5 tyX5_ok nmX5 26 (by decide) wdX5_alike_4 rfl rfl rfl (Nat.le_of_ble_eq_true rfl) wM_sI_26 dX5_alike_46 (fun H locs hP hS => ?_)
      rw [es8] at hP
      refine lv_aload_n hx hb dX5_alike_49 rfl (lv_at hl 0 rfl) ?_
      refine lv_iconst (v := 1) hx hb dX5_alike_50 (by decide) ?_
      obtain ⟨x9, hx9, hf⟩ := bd_some hf
      refine q_Vi C (rc := (RX5, TX5, 42)) (q0 := 0) (ci := 5) (ws' := wM G q s8) (wr := []) (c_X5_pairs hx9) gX5_alike_X5_pairs rfl ⟨rfl, rfl⟩ hdX5_pairs ⟨(Nat.le_of_ble_eq_true rfl), (Nat.le_of_ble_eq_true rfl)⟩ rfl hP (dd_M hD) hS rfl rfl (List.Perm.refl _) (List.Perm.refl _) hl.1 (Nat.le_of_ble_eq_true rfl) ⟨Nat.zero_le _, Nat.zero_le _⟩ rfl dX5_alike_51 (fun H locs hP hS => ?_)
      refine lv_if_le (tgt := 61) hx hb dX5_alike_54 (by decide) (fun c10 => ?_) (fun c10 => ?_)
      · have hf := if_t c10 hf
        refine lv_iconst (v := 0) hx hb dX5_alike_61 (by decide) ?_
        exact t_X5_alike_62 C hD hf hP hS (lv_sub hl [0, 2, 3, 4] rfl)
      · have hf := if_f c10 hf
        refine lv_iconst (v := 1) hx hb dX5_alike_57 (by decide) ?_
        refine lv_goto (tgt := 62) hx hb dX5_alike_58 (by decide) ?_
        exact t_X5_alike_62 C hD hf hP hS (lv_sub hl [0, 2, 3, 4] rfl)
    · have hf := if_t c5 hf
      refine lv_iconst (v := (-1)) hx hb dX5_alike_22 (by decide) ?_
      cases hf
      exact q_iret C hP hS rfl dX5_alike_23
