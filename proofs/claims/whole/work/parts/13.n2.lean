-- X0_kindByHead
def n_kindByHead (sn : NSt) (a1 : Int32) : Option (Int32) := bd (n_isHead a1) fun x1 => if x1 = 0 then some (-1) else bd (n_kindOf sn (a1 / 3)) fun x3 => some x3
abbrev rmX0_kindByHead : Room := { frames := 1, cells := 0, slots := 0, locals := 21 }
theorem hdX0_kindByHead : yX0_kindByHead.cls = RX0 ∧ yX0_kindByHead.cls ≠ "java/lang/invoke/MethodHandle" ∧ yX0_kindByHead.cls ≠ "java/lang/invoke/VarHandle" ∧ (parseMethodDescriptor yX0_kindByHead.desc).map (fun d => d.parameters.length) = some 1 := by decide +kernel
set_option maxHeartbeats 4000000 in
set_option maxRecDepth 100000 in
theorem c_X0_kindByHead {l : Launch} {G : Gx} {qn : Nat → Nat} {sn : NSt} {a1 : Int32} {x : Int32} (hf : n_kindByHead sn a1 = some x) : QM l G yX0_kindByHead wsX0_kindByHead rmX0_kindByHead [.ref (qn 15), .int a1] (wN G qn sn) (wN G qn sn) (some (.int x)) := by
  refine QM.of (cc := cX0_kindByHead) (maxL := 2) (ret := (some .int)) (by decide) rfl (Nat.le_of_ble_eq_true rfl) ?_
  intro p e s m below meth c A ls C hD hP hS hl
  have hx := C.1
  have hb := C.2.1
  have hl : lv_has ls 2 [(0, .ref (qn 15)), (1, .int a1)] := hl
  unfold n_kindByHead at hf
  refine lv_iload_n hx hb dX0_kindByHead_0 rfl (lv_at hl 1 rfl) ?_
  obtain ⟨x1, hx1, hf⟩ := bd_some hf
  refine q_Si C (ws' := wN G qn sn) (wr := []) (c_X0_isHead (w := wN G qn sn) hx1) gX0_kindByHead_X0_isHead rfl ⟨rfl, rfl⟩ hdX0_isHead ⟨(Nat.le_of_ble_eq_true rfl), (Nat.le_of_ble_eq_true rfl)⟩ rfl hP (dd_N hD) hS (List.Perm.refl _) (List.Perm.refl _) hl.1 (Nat.le_of_ble_eq_true rfl) ⟨Nat.zero_le _, Nat.zero_le _⟩ rfl dX0_kindByHead_1 (fun H locs hP hS => ?_)
  refine lv_if_eq (tgt := 17) hx hb dX0_kindByHead_4 (by decide) (fun c2 => ?_) (fun c2 => ?_)
  · have hf := if_t c2 hf
    refine lv_iconst (v := (-1)) hx hb dX0_kindByHead_17 (by decide) ?_
    cases hf
    exact q_iret C hP hS rfl dX0_kindByHead_18
  · have hf := if_f c2 hf
    refine lv_aload_n hx hb dX0_kindByHead_7 rfl (lv_at hl 0 rfl) ?_
    refine lv_iload_n hx hb dX0_kindByHead_8 rfl (lv_at hl 1 rfl) ?_
    refine lv_iconst (v := 3) hx hb dX0_kindByHead_9 (by decide) ?_
    refine lv_idiv hx hb dX0_kindByHead_10 (by decide) ?_
    obtain ⟨x3, hx3, hf⟩ := bd_some hf
    refine q_Vi C (rc := (RX0, TX0, 15)) (q0 := 0) (ci := 0) (ws' := wN G qn sn) (wr := []) (c_X0_kindOf hx3) gX0_kindByHead_X0_kindOf rfl ⟨rfl, rfl⟩ hdX0_kindOf ⟨(Nat.le_of_ble_eq_true rfl), (Nat.le_of_ble_eq_true rfl)⟩ rfl hP (dd_N hD) hS rfl rfl (List.Perm.refl _) (List.Perm.refl _) hl.1 (Nat.le_of_ble_eq_true rfl) ⟨Nat.zero_le _, Nat.zero_le _⟩ rfl dX0_kindByHead_11 (fun H locs hP hS => ?_)
    refine lv_goto (tgt := 18) hx hb dX0_kindByHead_14 (by decide) ?_
    cases hf
    exact q_iret C hP hS rfl dX0_kindByHead_18

-- X0_numberAt
def n_numberAt_8 : Nat → NSt → Int32 → Int32 → Option (Int32)
  | 0, _, _, _ => none
  | n + 1, sn, v2, v3 => if 300 ≤ v3 then some (-2) else bd (n_kindByHead sn v2) fun x3 => if x3 = 0 then some v3 else if x3 = 1 then bd (n_at sn (v2 + 1)) fun x6 => bd (n_kindByHead sn x6) fun x7 => if x7 = 0 then bd (n_at sn (v2 + 2)) fun x9 => n_numberAt_8 n sn x9 (v3 + 1) else some (-2) else some (-2)
def n_numberAt (sn : NSt) (a1 : Int32) : Option (Int32) := bd (n_at sn a1) fun x1 => n_numberAt_8 20000 sn x1 0
abbrev rmX0_numberAt : Room := { frames := 2, cells := 0, slots := 0, locals := 42 }
theorem hdX0_numberAt : yX0_numberAt.cls = RX0 ∧ yX0_numberAt.cls ≠ "java/lang/invoke/MethodHandle" ∧ yX0_numberAt.cls ≠ "java/lang/invoke/VarHandle" ∧ (parseMethodDescriptor yX0_numberAt.desc).map (fun d => d.parameters.length) = some 1 := by decide +kernel
set_option maxHeartbeats 4000000 in
set_option maxRecDepth 100000 in
theorem t_X0_numberAt_8 {p : Program} {l : Launch} {e : Env} {s : State} {m : MethodId} {args : Array Value} {below : List Frame} {meth : Method} {c : Code} {A : Nat → Prop} {G : Gx} {qn : Nat → Nat} {sn0 : NSt} (C : Cx p s m args meth c G cX0_numberAt wsX0_numberAt RX0 (some .int) 5 A) (hD : va_D A (wN G qn sn0)) :
    ∀ {n : Nat} {sn : NSt} {v2 : Int32} {v3 : Int32} {x : Int32}, n_numberAt_8 n sn v2 v3 = some x → ∀ {H : Heap} {locs : List Loc} {ls : Array Slot}, va_P G.1 vwCl (wN G qn sn) H → va_S A s.heap H locs → lv_has ls 5 [(0, .ref (qn 15)), (2, .int v2), (3, .int v3)] → W p l e rmX0_numberAt s m args below meth c H locs 0 0 (MQ below (qE G A (wN G qn sn) (some (.int x))) args s 0 0 A) (F0 m 8 ls []) := by
  have hx := C.1
  have hb := C.2.1
  intro n
  induction n with
  | zero => intro sn v2 v3 x hf; cases hf
  | succ n ih =>
    intro sn v2 v3 x hf H locs ls hP hS hl
    rw [n_numberAt_8] at hf
    refine lv_iload_n hx hb dX0_numberAt_8 rfl (lv_at hl 2 rfl) ?_
    refine lv_sipush (v := 300) hx hb dX0_numberAt_9 (by decide) ?_
    refine lv_icmp_ge (tgt := 66) hx hb dX0_numberAt_12 (by decide) (fun c2 => ?_) (fun c2 => ?_)
    · have hf := if_t c2 hf
      refine lv_bipush (v := (-2)) hx hb dX0_numberAt_66 (by decide) ?_
      cases hf
      exact q_iret C hP hS rfl dX0_numberAt_68
    · have hf := if_f c2 hf
      refine lv_aload_n hx hb dX0_numberAt_15 rfl (lv_at hl 0 rfl) ?_
      refine lv_iload_n hx hb dX0_numberAt_16 rfl (lv_at hl 1 rfl) ?_
      obtain ⟨x3, hx3, hf⟩ := bd_some hf
      refine q_Vi C (rc := (RX0, TX0, 15)) (q0 := 0) (ci := 0) (ws' := wN G qn sn) (wr := []) (c_X0_kindByHead hx3) gX0_numberAt_X0_kindByHead rfl ⟨rfl, rfl⟩ hdX0_kindByHead ⟨(Nat.le_of_ble_eq_true rfl), (Nat.le_of_ble_eq_true rfl)⟩ rfl hP (dd_N hD) hS rfl rfl (List.Perm.refl _) (List.Perm.refl _) hl.1 (Nat.le_of_ble_eq_true rfl) ⟨Nat.zero_le _, Nat.zero_le _⟩ rfl dX0_numberAt_17 (fun H locs hP hS => ?_)
      refine lv_istore (lv' := [(4, .int x3), (0, .ref (qn 15)), (2, .int v2), (3, .int v3)]) hx hb dX0_numberAt_20 hl (by decide) rfl (fun ls hl => ?_)
      refine lv_iload hx hb dX0_numberAt_22 (lv_at hl 0 rfl) ?_
      refine lv_if_ne (tgt := 29) hx hb dX0_numberAt_24 (by decide) (fun c4 => ?_) (fun c4 => ?_)
      · have hf := if_f c4 hf
        refine lv_iload hx hb dX0_numberAt_29 (lv_at hl 0 rfl) ?_
        refine lv_iconst (v := 1) hx hb dX0_numberAt_31 (by decide) ?_
        refine lv_icmp_ne (tgt := 49) hx hb dX0_numberAt_32 (by decide) (fun c5 => ?_) (fun c5 => ?_)
        · have hf := if_f c5 hf
          refine lv_bipush (v := (-2)) hx hb dX0_numberAt_49 (by decide) ?_
          cases hf
          exact q_iret C hP hS rfl dX0_numberAt_51
        · have hf := if_t c5 hf
          refine lv_aload_n hx hb dX0_numberAt_35 rfl (lv_at hl 1 rfl) ?_
          refine lv_aload_n hx hb dX0_numberAt_36 rfl (lv_at hl 1 rfl) ?_
          refine lv_iload_n hx hb dX0_numberAt_37 rfl (lv_at hl 2 rfl) ?_
          refine lv_iconst (v := 1) hx hb dX0_numberAt_38 (by decide) ?_
          refine lv_iadd hx hb dX0_numberAt_39 ?_
          obtain ⟨x6, hx6, hf⟩ := bd_some hf
          refine q_Vi C (rc := (RX0, TX0, 15)) (q0 := 0) (ci := 0) (ws' := wN G qn sn) (wr := []) (c_X0_at hx6) gX0_numberAt_X0_at rfl ⟨rfl, rfl⟩ hdX0_at ⟨(Nat.le_of_ble_eq_true rfl), (Nat.le_of_ble_eq_true rfl)⟩ rfl hP (dd_N hD) hS rfl rfl (List.Perm.refl _) (List.Perm.refl _) hl.1 (Nat.le_of_ble_eq_true rfl) ⟨Nat.zero_le _, Nat.zero_le _⟩ rfl dX0_numberAt_40 (fun H locs hP hS => ?_)
          obtain ⟨x7, hx7, hf⟩ := bd_some hf
          refine q_Vi C (rc := (RX0, TX0, 15)) (q0 := 0) (ci := 0) (ws' := wN G qn sn) (wr := []) (c_X0_kindByHead hx7) gX0_numberAt_X0_kindByHead rfl ⟨rfl, rfl⟩ hdX0_kindByHead ⟨(Nat.le_of_ble_eq_true rfl), (Nat.le_of_ble_eq_true rfl)⟩ rfl hP (dd_N hD) hS rfl rfl (List.Perm.refl _) (List.Perm.refl _) hl.1 (Nat.le_of_ble_eq_true rfl) ⟨Nat.zero_le _, Nat.zero_le _⟩ rfl dX0_numberAt_43 (fun H locs hP hS => ?_)
          refine lv_if_eq (tgt := 52) hx hb dX0_numberAt_46 (by decide) (fun c8 => ?_) (fun c8 => ?_)
          · have hf := if_t c8 hf
            refine lv_aload_n hx hb dX0_numberAt_52 rfl (lv_at hl 1 rfl) ?_
            refine lv_iload_n hx hb dX0_numberAt_53 rfl (lv_at hl 2 rfl) ?_
            refine lv_iconst (v := 2) hx hb dX0_numberAt_54 (by decide) ?_
            refine lv_iadd hx hb dX0_numberAt_55 ?_
            obtain ⟨x9, hx9, hf⟩ := bd_some hf
            refine q_Vi C (rc := (RX0, TX0, 15)) (q0 := 0) (ci := 0) (ws' := wN G qn sn) (wr := []) (c_X0_at hx9) gX0_numberAt_X0_at rfl ⟨rfl, rfl⟩ hdX0_at ⟨(Nat.le_of_ble_eq_true rfl), (Nat.le_of_ble_eq_true rfl)⟩ rfl hP (dd_N hD) hS rfl rfl (List.Perm.refl _) (List.Perm.refl _) hl.1 (Nat.le_of_ble_eq_true rfl) ⟨Nat.zero_le _, Nat.zero_le _⟩ rfl dX0_numberAt_56 (fun H locs hP hS => ?_)
            refine lv_istore_n (lv' := [(2, .int x9), (4, .int x3), (0, .ref (qn 15)), (3, .int v3)]) hx hb dX0_numberAt_59 rfl hl (by decide) rfl (fun ls hl => ?_)
            refine lv_iinc (v := (v3 + 1)) (lv' := [(3, .int (v3 + 1)), (2, .int x9), (4, .int x3), (0, .ref (qn 15))]) hx hb dX0_numberAt_60 hl (k := 3) rfl rfl (by decide) rfl (fun ls hl => ?_)
            refine lv_goto (tgt := 8) hx hb dX0_numberAt_63 (by decide) ?_
            exact ih hf hP hS (lv_sub hl [3, 1, 0] rfl)
          · have hf := if_f c8 hf
            refine lv_bipush (v := (-2)) hx hb dX0_numberAt_49 (by decide) ?_
            cases hf
            exact q_iret C hP hS rfl dX0_numberAt_51
      · have hf := if_t c4 hf
        refine lv_iload_n hx hb dX0_numberAt_27 rfl (lv_at hl 3 rfl) ?_
        cases hf
        exact q_iret C hP hS rfl dX0_numberAt_28
set_option maxHeartbeats 4000000 in
set_option maxRecDepth 100000 in
theorem c_X0_numberAt {l : Launch} {G : Gx} {qn : Nat → Nat} {sn : NSt} {a1 : Int32} {x : Int32} (hf : n_numberAt sn a1 = some x) : QM l G yX0_numberAt wsX0_numberAt rmX0_numberAt [.ref (qn 15), .int a1] (wN G qn sn) (wN G qn sn) (some (.int x)) := by
  refine QM.of (cc := cX0_numberAt) (maxL := 5) (ret := (some .int)) (by decide) rfl (Nat.le_of_ble_eq_true rfl) ?_
  intro p e s m below meth c A ls C hD hP hS hl
  have hx := C.1
  have hb := C.2.1
  have hl : lv_has ls 5 [(0, .ref (qn 15)), (1, .int a1)] := hl
  unfold n_numberAt at hf
  refine lv_aload_n hx hb dX0_numberAt_0 rfl (lv_at hl 0 rfl) ?_
  refine lv_iload_n hx hb dX0_numberAt_1 rfl (lv_at hl 1 rfl) ?_
  obtain ⟨x1, hx1, hf⟩ := bd_some hf
  refine q_Vi C (rc := (RX0, TX0, 15)) (q0 := 0) (ci := 0) (ws' := wN G qn sn) (wr := []) (c_X0_at hx1) gX0_numberAt_X0_at rfl ⟨rfl, rfl⟩ hdX0_at ⟨(Nat.le_of_ble_eq_true rfl), (Nat.le_of_ble_eq_true rfl)⟩ rfl hP (dd_N hD) hS rfl rfl (List.Perm.refl _) (List.Perm.refl _) hl.1 (Nat.le_of_ble_eq_true rfl) ⟨Nat.zero_le _, Nat.zero_le _⟩ rfl dX0_numberAt_2 (fun H locs hP hS => ?_)
  refine lv_istore_n (lv' := [(2, .int x1), (0, .ref (qn 15)), (1, .int a1)]) hx hb dX0_numberAt_5 rfl hl (by decide) rfl (fun ls hl => ?_)
  refine lv_iconst (v := 0) hx hb dX0_numberAt_6 (by decide) ?_
  refine lv_istore_n (lv' := [(3, .int 0), (2, .int x1), (0, .ref (qn 15)), (1, .int a1)]) hx hb dX0_numberAt_7 rfl hl (by decide) rfl (fun ls hl => ?_)
  exact t_X0_numberAt_8 C hD hf hP hS (lv_sub hl [2, 1, 0] rfl)

-- X0_listAt
def n_listAt_13 : Nat → NSt → Int32 → Int32 → Int32 → Int32 → Option (Int32)
  | 0, _, _, _, _, _ => none
  | n + 1, sn, v2, v3, v4, v5 => if 300 ≤ v5 then some (-2) else bd (n_kindByHead sn v3) fun x3 => if x3 = 0 then if v2 = (-1) then some v5 else some v4 else if x3 = 1 then bd (n_numberAt sn (v3 + 1)) fun x6 => if x6 = (-2) then some (-2) else if v5 = v2 then bd (n_at sn (v3 + 2)) fun x10 => n_listAt_13 n sn v2 x10 x6 (v5 + 1) else bd (n_at sn (v3 + 2)) fun x9 => n_listAt_13 n sn v2 x9 v4 (v5 + 1) else some (-2)
def n_listAt (sn : NSt) (a1 : Int32) (a2 : Int32) : Option (Int32) := bd (n_at sn a1) fun x1 => n_listAt_13 20000 sn a2 x1 (-2) 0
abbrev rmX0_listAt : Room := { frames := 3, cells := 0, slots := 0, locals := 66 }
theorem hdX0_listAt : yX0_listAt.cls = RX0 ∧ yX0_listAt.cls ≠ "java/lang/invoke/MethodHandle" ∧ yX0_listAt.cls ≠ "java/lang/invoke/VarHandle" ∧ (parseMethodDescriptor yX0_listAt.desc).map (fun d => d.parameters.length) = some 2 := by decide +kernel
set_option maxHeartbeats 4000000 in
set_option maxRecDepth 100000 in
theorem t_X0_listAt_13 {p : Program} {l : Launch} {e : Env} {s : State} {m : MethodId} {args : Array Value} {below : List Frame} {meth : Method} {c : Code} {A : Nat → Prop} {G : Gx} {qn : Nat → Nat} {sn0 : NSt} (C : Cx p s m args meth c G cX0_listAt wsX0_listAt RX0 (some .int) 8 A) (hD : va_D A (wN G qn sn0)) :
    ∀ {n : Nat} {sn : NSt} {v2 : Int32} {v3 : Int32} {v4 : Int32} {v5 : Int32} {x : Int32}, n_listAt_13 n sn v2 v3 v4 v5 = some x → ∀ {H : Heap} {locs : List Loc} {ls : Array Slot}, va_P G.1 vwCl (wN G qn sn) H → va_S A s.heap H locs → lv_has ls 8 [(0, .ref (qn 15)), (2, .int v2), (3, .int v3), (4, .int v4), (5, .int v5)] → W p l e rmX0_listAt s m args below meth c H locs 0 0 (MQ below (qE G A (wN G qn sn) (some (.int x))) args s 0 0 A) (F0 m 13 ls []) := by
  have hx := C.1
  have hb := C.2.1
  intro n
  induction n with
  | zero => intro sn v2 v3 v4 v5 x hf; cases hf
  | succ n ih =>
    intro sn v2 v3 v4 v5 x hf H locs ls hP hS hl
    rw [n_listAt_13] at hf
    refine lv_iload hx hb dX0_listAt_13 (lv_at hl 4 rfl) ?_
    refine lv_sipush (v := 300) hx hb dX0_listAt_15 (by decide) ?_
    refine lv_icmp_ge (tgt := 105) hx hb dX0_listAt_18 (by decide) (fun c2 => ?_) (fun c2 => ?_)
    · have hf := if_t c2 hf
      refine lv_bipush (v := (-2)) hx hb dX0_listAt_105 (by decide) ?_
      cases hf
      exact q_iret C hP hS rfl dX0_listAt_107
    · have hf := if_f c2 hf
      refine lv_aload_n hx hb dX0_listAt_21 rfl (lv_at hl 0 rfl) ?_
      refine lv_iload_n hx hb dX0_listAt_22 rfl (lv_at hl 2 rfl) ?_
      obtain ⟨x3, hx3, hf⟩ := bd_some hf
      refine q_Vi C (rc := (RX0, TX0, 15)) (q0 := 0) (ci := 0) (ws' := wN G qn sn) (wr := []) (c_X0_kindByHead hx3) gX0_listAt_X0_kindByHead rfl ⟨rfl, rfl⟩ hdX0_kindByHead ⟨(Nat.le_of_ble_eq_true rfl), (Nat.le_of_ble_eq_true rfl)⟩ rfl hP (dd_N hD) hS rfl rfl (List.Perm.refl _) (List.Perm.refl _) hl.1 (Nat.le_of_ble_eq_true rfl) ⟨Nat.zero_le _, Nat.zero_le _⟩ rfl dX0_listAt_23 (fun H locs hP hS => ?_)
      refine lv_istore (lv' := [(6, .int x3), (0, .ref (qn 15)), (2, .int v2), (3, .int v3), (4, .int v4), (5, .int v5)]) hx hb dX0_listAt_26 hl (by decide) rfl (fun ls hl => ?_)
      refine lv_iload hx hb dX0_listAt_28 (lv_at hl 0 rfl) ?_
      refine lv_if_ne (tgt := 46) hx hb dX0_listAt_30 (by decide) (fun c4 => ?_) (fun c4 => ?_)
      · have hf := if_f c4 hf
        refine lv_iload hx hb dX0_listAt_46 (lv_at hl 0 rfl) ?_
        refine lv_iconst (v := 1) hx hb dX0_listAt_48 (by decide) ?_
        refine lv_icmp_ne (tgt := 62) hx hb dX0_listAt_49 (by decide) (fun c5 => ?_) (fun c5 => ?_)
        · have hf := if_f c5 hf
          refine lv_bipush (v := (-2)) hx hb dX0_listAt_62 (by decide) ?_
          refine lv_istore (lv' := [(7, .int (-2)), (6, .int x3), (0, .ref (qn 15)), (2, .int v2), (3, .int v3), (4, .int v4), (5, .int v5)]) hx hb dX0_listAt_64 hl (by decide) rfl (fun ls hl => ?_)
          refine lv_iload hx hb dX0_listAt_66 (lv_at hl 0 rfl) ?_
          refine lv_bipush (v := (-2)) hx hb dX0_listAt_68 (by decide) ?_
          refine lv_icmp_ne (tgt := 76) hx hb dX0_listAt_70 (by decide) (fun h9 => absurd h9 (by decide)) (fun _ => ?_)
          refine lv_bipush (v := (-2)) hx hb dX0_listAt_73 (by decide) ?_
          cases hf
          exact q_iret C hP hS rfl dX0_listAt_75
        · have hf := if_t c5 hf
          refine lv_aload_n hx hb dX0_listAt_52 rfl (lv_at hl 1 rfl) ?_
          refine lv_iload_n hx hb dX0_listAt_53 rfl (lv_at hl 3 rfl) ?_
          refine lv_iconst (v := 1) hx hb dX0_listAt_54 (by decide) ?_
          refine lv_iadd hx hb dX0_listAt_55 ?_
          obtain ⟨x6, hx6, hf⟩ := bd_some hf
          refine q_Vi C (rc := (RX0, TX0, 15)) (q0 := 0) (ci := 0) (ws' := wN G qn sn) (wr := []) (c_X0_numberAt hx6) gX0_listAt_X0_numberAt rfl ⟨rfl, rfl⟩ hdX0_numberAt ⟨(Nat.le_of_ble_eq_true rfl), (Nat.le_of_ble_eq_true rfl)⟩ rfl hP (dd_N hD) hS rfl rfl (List.Perm.refl _) (List.Perm.refl _) hl.1 (Nat.le_of_ble_eq_true rfl) ⟨Nat.zero_le _, Nat.zero_le _⟩ rfl dX0_listAt_56 (fun H locs hP hS => ?_)
          refine lv_goto (tgt := 64) hx hb dX0_listAt_59 (by decide) ?_
          refine lv_istore (lv' := [(7, .int x6), (6, .int x3), (0, .ref (qn 15)), (2, .int v2), (3, .int v3), (4, .int v4), (5, .int v5)]) hx hb dX0_listAt_64 hl (by decide) rfl (fun ls hl => ?_)
          refine lv_iload hx hb dX0_listAt_66 (lv_at hl 0 rfl) ?_
          refine lv_bipush (v := (-2)) hx hb dX0_listAt_68 (by decide) ?_
          refine lv_icmp_ne (tgt := 76) hx hb dX0_listAt_70 (by decide) (fun c7 => ?_) (fun c7 => ?_)
          · have hf := if_f c7 hf
            refine lv_iload hx hb dX0_listAt_76 (lv_at hl 6 rfl) ?_
            refine lv_iload_n hx hb dX0_listAt_78 rfl (lv_at hl 3 rfl) ?_
            refine lv_icmp_ne (tgt := 87) hx hb dX0_listAt_79 (by decide) (fun c8 => ?_) (fun c8 => ?_)
            · have hf := if_f c8 hf
              refine lv_iload hx hb dX0_listAt_87 (lv_at hl 5 rfl) ?_
              refine lv_istore (lv' := [(4, .int v4), (7, .int x6), (6, .int x3), (0, .ref (qn 15)), (2, .int v2), (3, .int v3), (5, .int v5)]) hx hb dX0_listAt_89 hl (by decide) rfl (fun ls hl => ?_)
              refine lv_aload_n hx hb dX0_listAt_91 rfl (lv_at hl 3 rfl) ?_
              refine lv_iload_n hx hb dX0_listAt_92 rfl (lv_at hl 5 rfl) ?_
              refine lv_iconst (v := 2) hx hb dX0_listAt_93 (by decide) ?_
              refine lv_iadd hx hb dX0_listAt_94 ?_
              obtain ⟨x9, hx9, hf⟩ := bd_some hf
              refine q_Vi C (rc := (RX0, TX0, 15)) (q0 := 0) (ci := 0) (ws' := wN G qn sn) (wr := []) (c_X0_at hx9) gX0_listAt_X0_at rfl ⟨rfl, rfl⟩ hdX0_at ⟨(Nat.le_of_ble_eq_true rfl), (Nat.le_of_ble_eq_true rfl)⟩ rfl hP (dd_N hD) hS rfl rfl (List.Perm.refl _) (List.Perm.refl _) hl.1 (Nat.le_of_ble_eq_true rfl) ⟨Nat.zero_le _, Nat.zero_le _⟩ rfl dX0_listAt_95 (fun H locs hP hS => ?_)
              refine lv_istore_n (lv' := [(3, .int x9), (4, .int v4), (7, .int x6), (6, .int x3), (0, .ref (qn 15)), (2, .int v2), (5, .int v5)]) hx hb dX0_listAt_98 rfl hl (by decide) rfl (fun ls hl => ?_)
              refine lv_iinc (v := (v5 + 1)) (lv' := [(5, .int (v5 + 1)), (3, .int x9), (4, .int v4), (7, .int x6), (6, .int x3), (0, .ref (qn 15)), (2, .int v2)]) hx hb dX0_listAt_99 hl (k := 6) rfl rfl (by decide) rfl (fun ls hl => ?_)
              refine lv_goto (tgt := 13) hx hb dX0_listAt_102 (by decide) ?_
              exact ih hf hP hS (lv_sub hl [5, 6, 1, 2, 0] rfl)
            · have hf := if_t c8 hf
              refine lv_iload hx hb dX0_listAt_82 (lv_at hl 0 rfl) ?_
              refine lv_goto (tgt := 89) hx hb dX0_listAt_84 (by decide) ?_
              refine lv_istore (lv' := [(4, .int x6), (7, .int x6), (6, .int x3), (0, .ref (qn 15)), (2, .int v2), (3, .int v3), (5, .int v5)]) hx hb dX0_listAt_89 hl (by decide) rfl (fun ls hl => ?_)
              refine lv_aload_n hx hb dX0_listAt_91 rfl (lv_at hl 3 rfl) ?_
              refine lv_iload_n hx hb dX0_listAt_92 rfl (lv_at hl 5 rfl) ?_
              refine lv_iconst (v := 2) hx hb dX0_listAt_93 (by decide) ?_
              refine lv_iadd hx hb dX0_listAt_94 ?_
              obtain ⟨x10, hx10, hf⟩ := bd_some hf
              refine q_Vi C (rc := (RX0, TX0, 15)) (q0 := 0) (ci := 0) (ws' := wN G qn sn) (wr := []) (c_X0_at hx10) gX0_listAt_X0_at rfl ⟨rfl, rfl⟩ hdX0_at ⟨(Nat.le_of_ble_eq_true rfl), (Nat.le_of_ble_eq_true rfl)⟩ rfl hP (dd_N hD) hS rfl rfl (List.Perm.refl _) (List.Perm.refl _) hl.1 (Nat.le_of_ble_eq_true rfl) ⟨Nat.zero_le _, Nat.zero_le _⟩ rfl dX0_listAt_95 (fun H locs hP hS => ?_)
              refine lv_istore_n (lv' := [(3, .int x10), (4, .int x6), (7, .int x6), (6, .int x3), (0, .ref (qn 15)), (2, .int v2), (5, .int v5)]) hx hb dX0_listAt_98 rfl hl (by decide) rfl (fun ls hl => ?_)
              refine lv_iinc (v := (v5 + 1)) (lv' := [(5, .int (v5 + 1)), (3, .int x10), (4, .int x6), (7, .int x6), (6, .int x3), (0, .ref (qn 15)), (2, .int v2)]) hx hb dX0_listAt_99 hl (k := 6) rfl rfl (by decide) rfl (fun ls hl => ?_)
              refine lv_goto (tgt := 13) hx hb dX0_listAt_102 (by decide) ?_
              exact ih hf hP hS (lv_sub hl [5, 6, 1, 2, 0] rfl)
          · have hf := if_t c7 hf
            refine lv_bipush (v := (-2)) hx hb dX0_listAt_73 (by decide) ?_
            cases hf
            exact q_iret C hP hS rfl dX0_listAt_75
      · have hf := if_t c4 hf
        refine lv_iload_n hx hb dX0_listAt_33 rfl (lv_at hl 2 rfl) ?_
        refine lv_iconst (v := (-1)) hx hb dX0_listAt_34 (by decide) ?_
        refine lv_icmp_ne (tgt := 43) hx hb dX0_listAt_35 (by decide) (fun c11 => ?_) (fun c11 => ?_)
        · have hf := if_f c11 hf
          refine lv_iload hx hb dX0_listAt_43 (lv_at hl 4 rfl) ?_
          cases hf
          exact q_iret C hP hS rfl dX0_listAt_45
        · have hf := if_t c11 hf
          refine lv_iload hx hb dX0_listAt_38 (lv_at hl 5 rfl) ?_
          refine lv_goto (tgt := 45) hx hb dX0_listAt_40 (by decide) ?_
          cases hf
          exact q_iret C hP hS rfl dX0_listAt_45
set_option maxHeartbeats 4000000 in
set_option maxRecDepth 100000 in
theorem c_X0_listAt {l : Launch} {G : Gx} {qn : Nat → Nat} {sn : NSt} {a1 : Int32} {a2 : Int32} {x : Int32} (hf : n_listAt sn a1 a2 = some x) : QM l G yX0_listAt wsX0_listAt rmX0_listAt [.ref (qn 15), .int a1, .int a2] (wN G qn sn) (wN G qn sn) (some (.int x)) := by
  refine QM.of (cc := cX0_listAt) (maxL := 8) (ret := (some .int)) (by decide) rfl (Nat.le_of_ble_eq_true rfl) ?_
  intro p e s m below meth c A ls C hD hP hS hl
  have hx := C.1
  have hb := C.2.1
  have hl : lv_has ls 8 [(0, .ref (qn 15)), (1, .int a1), (2, .int a2)] := hl
  unfold n_listAt at hf
  refine lv_aload_n hx hb dX0_listAt_0 rfl (lv_at hl 0 rfl) ?_
  refine lv_iload_n hx hb dX0_listAt_1 rfl (lv_at hl 1 rfl) ?_
  obtain ⟨x1, hx1, hf⟩ := bd_some hf
  refine q_Vi C (rc := (RX0, TX0, 15)) (q0 := 0) (ci := 0) (ws' := wN G qn sn) (wr := []) (c_X0_at hx1) gX0_listAt_X0_at rfl ⟨rfl, rfl⟩ hdX0_at ⟨(Nat.le_of_ble_eq_true rfl), (Nat.le_of_ble_eq_true rfl)⟩ rfl hP (dd_N hD) hS rfl rfl (List.Perm.refl _) (List.Perm.refl _) hl.1 (Nat.le_of_ble_eq_true rfl) ⟨Nat.zero_le _, Nat.zero_le _⟩ rfl dX0_listAt_2 (fun H locs hP hS => ?_)
  refine lv_istore_n (lv' := [(3, .int x1), (0, .ref (qn 15)), (1, .int a1), (2, .int a2)]) hx hb dX0_listAt_5 rfl hl (by decide) rfl (fun ls hl => ?_)
  refine lv_bipush (v := (-2)) hx hb dX0_listAt_6 (by decide) ?_
  refine lv_istore (lv' := [(4, .int (-2)), (3, .int x1), (0, .ref (qn 15)), (1, .int a1), (2, .int a2)]) hx hb dX0_listAt_8 hl (by decide) rfl (fun ls hl => ?_)
  refine lv_iconst (v := 0) hx hb dX0_listAt_10 (by decide) ?_
  refine lv_istore (lv' := [(5, .int 0), (4, .int (-2)), (3, .int x1), (0, .ref (qn 15)), (1, .int a1), (2, .int a2)]) hx hb dX0_listAt_11 hl (by decide) rfl (fun ls hl => ?_)
  exact t_X0_listAt_13 C hD hf hP hS (lv_sub hl [3, 5, 2, 1, 0] rfl)

-- X0_partnerOf
def n_partnerOf (sn : NSt) (a1 : Int32) : Option (Int32) := bd (n_at sn (3 * a1)) fun x1 => bd (n_isHead x1) fun x2 => if x2 = 0 then some (-1) else some (x1 / 3)
abbrev rmX0_partnerOf : Room := { frames := 1, cells := 0, slots := 0, locals := 21 }
theorem hdX0_partnerOf : yX0_partnerOf.cls = RX0 ∧ yX0_partnerOf.cls ≠ "java/lang/invoke/MethodHandle" ∧ yX0_partnerOf.cls ≠ "java/lang/invoke/VarHandle" ∧ (parseMethodDescriptor yX0_partnerOf.desc).map (fun d => d.parameters.length) = some 1 := by decide +kernel
set_option maxHeartbeats 4000000 in
set_option maxRecDepth 100000 in
theorem c_X0_partnerOf {l : Launch} {G : Gx} {qn : Nat → Nat} {sn : NSt} {a1 : Int32} {x : Int32} (hf : n_partnerOf sn a1 = some x) : QM l G yX0_partnerOf wsX0_partnerOf rmX0_partnerOf [.ref (qn 15), .int a1] (wN G qn sn) (wN G qn sn) (some (.int x)) := by
  refine QM.of (cc := cX0_partnerOf) (maxL := 3) (ret := (some .int)) (by decide) rfl (Nat.le_of_ble_eq_true rfl) ?_
  intro p e s m below meth c A ls C hD hP hS hl
  have hx := C.1
  have hb := C.2.1
  have hl : lv_has ls 3 [(0, .ref (qn 15)), (1, .int a1)] := hl
  unfold n_partnerOf at hf
  refine lv_aload_n hx hb dX0_partnerOf_0 rfl (lv_at hl 0 rfl) ?_
  refine lv_iconst (v := 3) hx hb dX0_partnerOf_1 (by decide) ?_
  refine lv_iload_n hx hb dX0_partnerOf_2 rfl (lv_at hl 1 rfl) ?_
  refine lv_imul hx hb dX0_partnerOf_3 ?_
  obtain ⟨x1, hx1, hf⟩ := bd_some hf
  refine q_Vi C (rc := (RX0, TX0, 15)) (q0 := 0) (ci := 0) (ws' := wN G qn sn) (wr := []) (c_X0_at hx1) gX0_partnerOf_X0_at rfl ⟨rfl, rfl⟩ hdX0_at ⟨(Nat.le_of_ble_eq_true rfl), (Nat.le_of_ble_eq_true rfl)⟩ rfl hP (dd_N hD) hS rfl rfl (List.Perm.refl _) (List.Perm.refl _) hl.1 (Nat.le_of_ble_eq_true rfl) ⟨Nat.zero_le _, Nat.zero_le _⟩ rfl dX0_partnerOf_4 (fun H locs hP hS => ?_)
  refine lv_istore_n (lv' := [(2, .int x1), (0, .ref (qn 15)), (1, .int a1)]) hx hb dX0_partnerOf_7 rfl hl (by decide) rfl (fun ls hl => ?_)
  refine lv_iload_n hx hb dX0_partnerOf_8 rfl (lv_at hl 0 rfl) ?_
  obtain ⟨x2, hx2, hf⟩ := bd_some hf
  refine q_Si C (ws' := wN G qn sn) (wr := []) (c_X0_isHead (w := wN G qn sn) hx2) gX0_partnerOf_X0_isHead rfl ⟨rfl, rfl⟩ hdX0_isHead ⟨(Nat.le_of_ble_eq_true rfl), (Nat.le_of_ble_eq_true rfl)⟩ rfl hP (dd_N hD) hS (List.Perm.refl _) (List.Perm.refl _) hl.1 (Nat.le_of_ble_eq_true rfl) ⟨Nat.zero_le _, Nat.zero_le _⟩ rfl dX0_partnerOf_9 (fun H locs hP hS => ?_)
  refine lv_if_eq (tgt := 21) hx hb dX0_partnerOf_12 (by decide) (fun c3 => ?_) (fun c3 => ?_)
  · have hf := if_t c3 hf
    refine lv_iconst (v := (-1)) hx hb dX0_partnerOf_21 (by decide) ?_
    cases hf
    exact q_iret C hP hS rfl dX0_partnerOf_22
  · have hf := if_f c3 hf
    refine lv_iload_n hx hb dX0_partnerOf_15 rfl (lv_at hl 0 rfl) ?_
    refine lv_iconst (v := 3) hx hb dX0_partnerOf_16 (by decide) ?_
    refine lv_idiv hx hb dX0_partnerOf_17 (by decide) ?_
    refine lv_goto (tgt := 22) hx hb dX0_partnerOf_18 (by decide) ?_
    cases hf
    exact q_iret C hP hS rfl dX0_partnerOf_22

-- X0_ruleOf
def n_ruleOf (sn : NSt) (a1 : Int32) : Option (Int32) := bd (n_kindOf sn a1) fun x1 => bd (n_partnerOf sn a1) fun x2 => bd (n_kindOf sn x2) fun x3 => if x1 = x3 then some x1 else some ((x1 + x3) + 2)
abbrev rmX0_ruleOf : Room := { frames := 2, cells := 0, slots := 0, locals := 43 }
theorem hdX0_ruleOf : yX0_ruleOf.cls = RX0 ∧ yX0_ruleOf.cls ≠ "java/lang/invoke/MethodHandle" ∧ yX0_ruleOf.cls ≠ "java/lang/invoke/VarHandle" ∧ (parseMethodDescriptor yX0_ruleOf.desc).map (fun d => d.parameters.length) = some 1 := by decide +kernel
set_option maxHeartbeats 4000000 in
set_option maxRecDepth 100000 in
theorem c_X0_ruleOf {l : Launch} {G : Gx} {qn : Nat → Nat} {sn : NSt} {a1 : Int32} {x : Int32} (hf : n_ruleOf sn a1 = some x) : QM l G yX0_ruleOf wsX0_ruleOf rmX0_ruleOf [.ref (qn 15), .int a1] (wN G qn sn) (wN G qn sn) (some (.int x)) := by
  refine QM.of (cc := cX0_ruleOf) (maxL := 4) (ret := (some .int)) (by decide) rfl (Nat.le_of_ble_eq_true rfl) ?_
  intro p e s m below meth c A ls C hD hP hS hl
  have hx := C.1
  have hb := C.2.1
  have hl : lv_has ls 4 [(0, .ref (qn 15)), (1, .int a1)] := hl
  unfold n_ruleOf at hf
  refine lv_aload_n hx hb dX0_ruleOf_0 rfl (lv_at hl 0 rfl) ?_
  refine lv_iload_n hx hb dX0_ruleOf_1 rfl (lv_at hl 1 rfl) ?_
  obtain ⟨x1, hx1, hf⟩ := bd_some hf
  refine q_Vi C (rc := (RX0, TX0, 15)) (q0 := 0) (ci := 0) (ws' := wN G qn sn) (wr := []) (c_X0_kindOf hx1) gX0_ruleOf_X0_kindOf rfl ⟨rfl, rfl⟩ hdX0_kindOf ⟨(Nat.le_of_ble_eq_true rfl), (Nat.le_of_ble_eq_true rfl)⟩ rfl hP (dd_N hD) hS rfl rfl (List.Perm.refl _) (List.Perm.refl _) hl.1 (Nat.le_of_ble_eq_true rfl) ⟨Nat.zero_le _, Nat.zero_le _⟩ rfl dX0_ruleOf_2 (fun H locs hP hS => ?_)
  refine lv_istore_n (lv' := [(2, .int x1), (0, .ref (qn 15)), (1, .int a1)]) hx hb dX0_ruleOf_5 rfl hl (by decide) rfl (fun ls hl => ?_)
  refine lv_aload_n hx hb dX0_ruleOf_6 rfl (lv_at hl 1 rfl) ?_
  refine lv_aload_n hx hb dX0_ruleOf_7 rfl (lv_at hl 1 rfl) ?_
  refine lv_iload_n hx hb dX0_ruleOf_8 rfl (lv_at hl 2 rfl) ?_
  obtain ⟨x2, hx2, hf⟩ := bd_some hf
  refine q_Vi C (rc := (RX0, TX0, 15)) (q0 := 0) (ci := 0) (ws' := wN G qn sn) (wr := []) (c_X0_partnerOf hx2) gX0_ruleOf_X0_partnerOf rfl ⟨rfl, rfl⟩ hdX0_partnerOf ⟨(Nat.le_of_ble_eq_true rfl), (Nat.le_of_ble_eq_true rfl)⟩ rfl hP (dd_N hD) hS rfl rfl (List.Perm.refl _) (List.Perm.refl _) hl.1 (Nat.le_of_ble_eq_true rfl) ⟨Nat.zero_le _, Nat.zero_le _⟩ rfl dX0_ruleOf_9 (fun H locs hP hS => ?_)
  obtain ⟨x3, hx3, hf⟩ := bd_some hf
  refine q_Vi C (rc := (RX0, TX0, 15)) (q0 := 0) (ci := 0) (ws' := wN G qn sn) (wr := []) (c_X0_kindOf hx3) gX0_ruleOf_X0_kindOf rfl ⟨rfl, rfl⟩ hdX0_kindOf ⟨(Nat.le_of_ble_eq_true rfl), (Nat.le_of_ble_eq_true rfl)⟩ rfl hP (dd_N hD) hS rfl rfl (List.Perm.refl _) (List.Perm.refl _) hl.1 (Nat.le_of_ble_eq_true rfl) ⟨Nat.zero_le _, Nat.zero_le _⟩ rfl dX0_ruleOf_12 (fun H locs hP hS => ?_)
  refine lv_istore_n (lv' := [(3, .int x3), (2, .int x1), (0, .ref (qn 15)), (1, .int a1)]) hx hb dX0_ruleOf_15 rfl hl (by decide) rfl (fun ls hl => ?_)
  refine lv_iload_n hx hb dX0_ruleOf_16 rfl (lv_at hl 1 rfl) ?_
  refine lv_iload_n hx hb dX0_ruleOf_17 rfl (lv_at hl 0 rfl) ?_
  refine lv_icmp_ne (tgt := 25) hx hb dX0_ruleOf_18 (by decide) (fun c4 => ?_) (fun c4 => ?_)
  · have hf := if_f c4 hf
    refine lv_iload_n hx hb dX0_ruleOf_25 rfl (lv_at hl 1 rfl) ?_
    refine lv_iload_n hx hb dX0_ruleOf_26 rfl (lv_at hl 0 rfl) ?_
    refine lv_iadd hx hb dX0_ruleOf_27 ?_
    refine lv_iconst (v := 2) hx hb dX0_ruleOf_28 (by decide) ?_
    refine lv_iadd hx hb dX0_ruleOf_29 ?_
    cases hf
    exact q_iret C hP hS rfl dX0_ruleOf_30
  · have hf := if_t c4 hf
    refine lv_iload_n hx hb dX0_ruleOf_21 rfl (lv_at hl 1 rfl) ?_
    refine lv_goto (tgt := 30) hx hb dX0_ruleOf_22 (by decide) ?_
    cases hf
    exact q_iret C hP hS rfl dX0_ruleOf_30

-- X0_canGo
def n_canGo (sn : NSt) (a1 : Int32) : Option (Int32) := bd (n_ruleOf sn a1) fun x1 => if x1 = 5 then bd (n_hasRoom sn 2) fun x3 => if x3 = 0 then some 0 else some 1 else some 1
abbrev rmX0_canGo : Room := { frames := 3, cells := 0, slots := 0, locals := 66 }
theorem hdX0_canGo : yX0_canGo.cls = RX0 ∧ yX0_canGo.cls ≠ "java/lang/invoke/MethodHandle" ∧ yX0_canGo.cls ≠ "java/lang/invoke/VarHandle" ∧ (parseMethodDescriptor yX0_canGo.desc).map (fun d => d.parameters.length) = some 1 := by decide +kernel
set_option maxHeartbeats 4000000 in
set_option maxRecDepth 100000 in
theorem c_X0_canGo {l : Launch} {G : Gx} {qn : Nat → Nat} {sn : NSt} {a1 : Int32} {x : Int32} (hf : n_canGo sn a1 = some x) : QM l G yX0_canGo wsX0_canGo rmX0_canGo [.ref (qn 15), .int a1] (wN G qn sn) (wN G qn sn) (some (.int x)) := by
  refine QM.of (cc := cX0_canGo) (maxL := 2) (ret := (some .boolean)) (by decide) rfl (Nat.le_of_ble_eq_true rfl) ?_
  intro p e s m below meth c A ls C hD hP hS hl
  have hx := C.1
  have hb := C.2.1
  have hl : lv_has ls 2 [(0, .ref (qn 15)), (1, .int a1)] := hl
  unfold n_canGo at hf
  refine lv_aload_n hx hb dX0_canGo_0 rfl (lv_at hl 0 rfl) ?_
  refine lv_iload_n hx hb dX0_canGo_1 rfl (lv_at hl 1 rfl) ?_
  obtain ⟨x1, hx1, hf⟩ := bd_some hf
  refine q_Vi C (rc := (RX0, TX0, 15)) (q0 := 0) (ci := 0) (ws' := wN G qn sn) (wr := []) (c_X0_ruleOf hx1) gX0_canGo_X0_ruleOf rfl ⟨rfl, rfl⟩ hdX0_ruleOf ⟨(Nat.le_of_ble_eq_true rfl), (Nat.le_of_ble_eq_true rfl)⟩ rfl hP (dd_N hD) hS rfl rfl (List.Perm.refl _) (List.Perm.refl _) hl.1 (Nat.le_of_ble_eq_true rfl) ⟨Nat.zero_le _, Nat.zero_le _⟩ rfl dX0_canGo_2 (fun H locs hP hS => ?_)
  refine lv_iconst (v := 5) hx hb dX0_canGo_5 (by decide) ?_
  refine lv_icmp_ne (tgt := 17) hx hb dX0_canGo_6 (by decide) (fun c2 => ?_) (fun c2 => ?_)
  · have hf := if_f c2 hf
    refine lv_iconst (v := 1) hx hb dX0_canGo_17 (by decide) ?_
    refine lv_goto (tgt := 22) hx hb dX0_canGo_18 (by decide) ?_
    cases hf
    exact q_zret C hP hS rfl (gb_nar (Or.inr rfl)) dX0_canGo_22
  · have hf := if_t c2 hf
    refine lv_aload_n hx hb dX0_canGo_9 rfl (lv_at hl 0 rfl) ?_
    refine lv_iconst (v := 2) hx hb dX0_canGo_10 (by decide) ?_
    obtain ⟨x3, hx3, hf⟩ := bd_some hf
    refine q_Vi C (rc := (RX0, TX0, 15)) (q0 := 0) (ci := 0) (ws' := wN G qn sn) (wr := []) (c_X0_hasRoom hx3) gX0_canGo_X0_hasRoom rfl ⟨rfl, rfl⟩ hdX0_hasRoom ⟨(Nat.le_of_ble_eq_true rfl), (Nat.le_of_ble_eq_true rfl)⟩ rfl hP (dd_N hD) hS rfl rfl (List.Perm.refl _) (List.Perm.refl _) hl.1 (Nat.le_of_ble_eq_true rfl) ⟨Nat.zero_le _, Nat.zero_le _⟩ rfl dX0_canGo_11 (fun H locs hP hS => ?_)
    refine lv_if_eq (tgt := 21) hx hb dX0_canGo_14 (by decide) (fun c4 => ?_) (fun c4 => ?_)
    · have hf := if_t c4 hf
      refine lv_iconst (v := 0) hx hb dX0_canGo_21 (by decide) ?_
      cases hf
      exact q_zret C hP hS rfl (gb_nar (Or.inl rfl)) dX0_canGo_22
    · have hf := if_f c4 hf
      refine lv_iconst (v := 1) hx hb dX0_canGo_17 (by decide) ?_
      refine lv_goto (tgt := 22) hx hb dX0_canGo_18 (by decide) ?_
      cases hf
      exact q_zret C hP hS rfl (gb_nar (Or.inr rfl)) dX0_canGo_22

-- X0_readyPairs
theorem hiX0_readyPairs_X0 : ∀ w ∈ u_ws RX0 TX0 15, w ∈ wsX0_readyPairs := mem_run (i := 27) (by decide +kernel)
theorem wdX0_readyPairs_1 : (Cond.fieldLink RX0 24 "CombinatorRing$Net" "pairs" "LCombinatorRing$Pairs;") ∈ wsX0_readyPairs := List.mem_of_getElem? (i := 1) rfl
def n_readyPairs (sn : NSt)  : Option (Int32) := bd (n_hasRoom sn 2) fun x1 => bd (p_size (np sn) x1) fun x2 => some x2
abbrev rmX0_readyPairs : Room := { frames := 2, cells := 0, slots := 0, locals := 45 }
theorem hdX0_readyPairs : yX0_readyPairs.cls = RX0 ∧ yX0_readyPairs.cls ≠ "java/lang/invoke/MethodHandle" ∧ yX0_readyPairs.cls ≠ "java/lang/invoke/VarHandle" ∧ (parseMethodDescriptor yX0_readyPairs.desc).map (fun d => d.parameters.length) = some 0 := by decide +kernel
set_option maxHeartbeats 4000000 in
set_option maxRecDepth 100000 in
theorem c_X0_readyPairs {l : Launch} {G : Gx} {qn : Nat → Nat} {sn : NSt}  {x : Int32} (hf : n_readyPairs sn = some x) : QM l G yX0_readyPairs wsX0_readyPairs rmX0_readyPairs [.ref (qn 15)] (wN G qn sn) (wN G qn sn) (some (.int x)) := by
  refine QM.of (cc := cX0_readyPairs) (maxL := 1) (ret := (some .int)) (by decide) rfl (Nat.le_of_ble_eq_true rfl) ?_
  intro p e s m below meth c A ls C hD hP hS hl
  have hx := C.1
  have hb := C.2.1
  have hl : lv_has ls 1 [(0, .ref (qn 15))] := hl
  unfold n_readyPairs at hf
  refine lv_aload_n hx hb dX0_readyPairs_0 rfl (lv_at hl 0 rfl) ?_
  refine q_get C hP (q0 := 0) rfl rfl hiX0_readyPairs_X0 4 (by decide) wdX0_readyPairs_1 rfl dX0_readyPairs_1 ?_
  refine lv_aload_n hx hb dX0_readyPairs_4 rfl (lv_at hl 0 rfl) ?_
  refine lv_iconst (v := 2) hx hb dX0_readyPairs_5 (by decide) ?_
  obtain ⟨x1, hx1, hf⟩ := bd_some hf
  refine q_Vi C (rc := (RX0, TX0, 15)) (q0 := 0) (ci := 0) (ws' := wN G qn sn) (wr := []) (c_X0_hasRoom hx1) gX0_readyPairs_X0_hasRoom rfl ⟨rfl, rfl⟩ hdX0_hasRoom ⟨(Nat.le_of_ble_eq_true rfl), (Nat.le_of_ble_eq_true rfl)⟩ rfl hP (dd_N hD) hS rfl rfl (List.Perm.refl _) (List.Perm.refl _) hl.1 (Nat.le_of_ble_eq_true rfl) ⟨Nat.zero_le _, Nat.zero_le _⟩ rfl dX0_readyPairs_6 (fun H locs hP hS => ?_)
  obtain ⟨x2, hx2, hf⟩ := bd_some hf
  refine q_Vi C (rc := (RX1, TX1, 2)) (q0 := 5) (ci := 1) (ws' := wN G qn sn) (c_X1_size (qp := qPp qn) hx2) gX0_readyPairs_X1_size rfl ⟨rfl, rfl⟩ hdX1_size ⟨(Nat.le_of_ble_eq_true rfl), (Nat.le_of_ble_eq_true rfl)⟩ rfl hP (dd_N hD) hS rfl rfl pm_NP1 pm_NP1' hl.1 (Nat.le_of_ble_eq_true rfl) ⟨Nat.zero_le _, Nat.zero_le _⟩ rfl dX0_readyPairs_9 (fun H locs hP hS => ?_)
  cases hf
  exact q_iret C hP hS rfl dX0_readyPairs_12

-- X0_moveToWires
def n_moveToWires (sn : NSt) (a1 : Int32) (a2 : Int32) : Option (NSt) := bd (n_kindOf sn a1) fun x1 => if x1 = 0 then some sn else bd (n_move sn ((3 * a1) + 1) a2) fun x3 => bd (n_move x3 ((3 * a1) + 2) (a2 + 1)) fun x4 => some x4
abbrev rmX0_moveToWires : Room := { frames := 3, cells := 0, slots := 0, locals := 68 }
theorem hdX0_moveToWires : yX0_moveToWires.cls = RX0 ∧ yX0_moveToWires.cls ≠ "java/lang/invoke/MethodHandle" ∧ yX0_moveToWires.cls ≠ "java/lang/invoke/VarHandle" ∧ (parseMethodDescriptor yX0_moveToWires.desc).map (fun d => d.parameters.length) = some 2 := by decide +kernel
set_option maxHeartbeats 4000000 in
set_option maxRecDepth 100000 in
theorem c_X0_moveToWires {l : Launch} {G : Gx} {qn : Nat → Nat} {sn : NSt} {a1 : Int32} {a2 : Int32} {x : NSt} (hf : n_moveToWires sn a1 a2 = some x) : QM l G yX0_moveToWires wsX0_moveToWires rmX0_moveToWires [.ref (qn 15), .int a1, .int a2] (wN G qn sn) (wN G qn x) none := by
  refine QM.of (cc := cX0_moveToWires) (maxL := 3) (ret := none) (by decide) rfl (Nat.le_of_ble_eq_true rfl) ?_
  intro p e s m below meth c A ls C hD hP hS hl
  have hx := C.1
  have hb := C.2.1
  have hl : lv_has ls 3 [(0, .ref (qn 15)), (1, .int a1), (2, .int a2)] := hl
  unfold n_moveToWires at hf
  refine lv_aload_n hx hb dX0_moveToWires_0 rfl (lv_at hl 0 rfl) ?_
  refine lv_iload_n hx hb dX0_moveToWires_1 rfl (lv_at hl 1 rfl) ?_
  obtain ⟨x1, hx1, hf⟩ := bd_some hf
  refine q_Vi C (rc := (RX0, TX0, 15)) (q0 := 0) (ci := 0) (ws' := wN G qn sn) (wr := []) (c_X0_kindOf hx1) gX0_moveToWires_X0_kindOf rfl ⟨rfl, rfl⟩ hdX0_kindOf ⟨(Nat.le_of_ble_eq_true rfl), (Nat.le_of_ble_eq_true rfl)⟩ rfl hP (dd_N hD) hS rfl rfl (List.Perm.refl _) (List.Perm.refl _) hl.1 (Nat.le_of_ble_eq_true rfl) ⟨Nat.zero_le _, Nat.zero_le _⟩ rfl dX0_moveToWires_2 (fun H locs hP hS => ?_)
  refine lv_if_eq (tgt := 30) hx hb dX0_moveToWires_5 (by decide) (fun c2 => ?_) (fun c2 => ?_)
  · have hf := if_t c2 hf
    cases hf
    exact q_vret C hP hS rfl dX0_moveToWires_30
  · have hf := if_f c2 hf
    refine lv_aload_n hx hb dX0_moveToWires_8 rfl (lv_at hl 0 rfl) ?_
    refine lv_iconst (v := 3) hx hb dX0_moveToWires_9 (by decide) ?_
    refine lv_iload_n hx hb dX0_moveToWires_10 rfl (lv_at hl 1 rfl) ?_
    refine lv_imul hx hb dX0_moveToWires_11 ?_
    refine lv_iconst (v := 1) hx hb dX0_moveToWires_12 (by decide) ?_
    refine lv_iadd hx hb dX0_moveToWires_13 ?_
    refine lv_iload_n hx hb dX0_moveToWires_14 rfl (lv_at hl 2 rfl) ?_
    obtain ⟨x3, hx3, hf⟩ := bd_some hf
    refine q_Vv C (rc := (RX0, TX0, 15)) (q0 := 0) (ci := 0) (ws' := wN G qn x3) (wr := []) (c_X0_move hx3) gX0_moveToWires_X0_move rfl ⟨rfl, rfl⟩ hdX0_move ⟨(Nat.le_of_ble_eq_true rfl), (Nat.le_of_ble_eq_true rfl)⟩ rfl hP (dd_N hD) hS rfl rfl (List.Perm.refl _) (List.Perm.refl _) hl.1 (Nat.le_of_ble_eq_true rfl) ⟨Nat.zero_le _, Nat.zero_le _⟩ rfl dX0_moveToWires_15 (fun H locs hP hS => ?_)
    refine lv_aload_n hx hb dX0_moveToWires_18 rfl (lv_at hl 0 rfl) ?_
    refine lv_iconst (v := 3) hx hb dX0_moveToWires_19 (by decide) ?_
    refine lv_iload_n hx hb dX0_moveToWires_20 rfl (lv_at hl 1 rfl) ?_
    refine lv_imul hx hb dX0_moveToWires_21 ?_
    refine lv_iconst (v := 2) hx hb dX0_moveToWires_22 (by decide) ?_
    refine lv_iadd hx hb dX0_moveToWires_23 ?_
    refine lv_iload_n hx hb dX0_moveToWires_24 rfl (lv_at hl 2 rfl) ?_
    refine lv_iconst (v := 1) hx hb dX0_moveToWires_25 (by decide) ?_
    refine lv_iadd hx hb dX0_moveToWires_26 ?_
    obtain ⟨x4, hx4, hf⟩ := bd_some hf
    refine q_Vv C (rc := (RX0, TX0, 15)) (q0 := 0) (ci := 0) (ws' := wN G qn x4) (wr := []) (c_X0_move hx4) gX0_moveToWires_X0_move rfl ⟨rfl, rfl⟩ hdX0_move ⟨(Nat.le_of_ble_eq_true rfl), (Nat.le_of_ble_eq_true rfl)⟩ rfl hP (dd_N hD) hS rfl rfl (List.Perm.refl _) (List.Perm.refl _) hl.1 (Nat.le_of_ble_eq_true rfl) ⟨Nat.zero_le _, Nat.zero_le _⟩ rfl dX0_moveToWires_27 (fun H locs hP hS => ?_)
    cases hf
    exact q_vret C hP hS rfl dX0_moveToWires_30

-- X0_commute
def n_commute (sn : NSt) (a1 : Int32) (a2 : Int32) : Option (NSt) := bd (n_make sn 2) fun x1 => bd (n_make x1.2 2) fun x2 => bd (n_make x2.2 1) fun x3 => bd (n_make x3.2 1) fun x4 => bd (n_tie x4.2 ((3 * x1.1) + 1) ((3 * x3.1) + 1)) fun x5 => bd (n_tie x5 ((3 * x1.1) + 2) ((3 * x4.1) + 1)) fun x6 => bd (n_tie x6 ((3 * x2.1) + 1) ((3 * x3.1) + 2)) fun x7 => bd (n_tie x7 ((3 * x2.1) + 2) ((3 * x4.1) + 2)) fun x8 => bd (n_move x8 a1 (3 * x1.1)) fun x9 => bd (n_move x9 (a1 + 1) (3 * x2.1)) fun x10 => bd (n_move x10 a2 (3 * x3.1)) fun x11 => bd (n_move x11 (a2 + 1) (3 * x4.1)) fun x12 => some x12
abbrev rmX0_commute : Room := { frames := 3, cells := 0, slots := 0, locals := 68 }
theorem hdX0_commute : yX0_commute.cls = RX0 ∧ yX0_commute.cls ≠ "java/lang/invoke/MethodHandle" ∧ yX0_commute.cls ≠ "java/lang/invoke/VarHandle" ∧ (parseMethodDescriptor yX0_commute.desc).map (fun d => d.parameters.length) = some 2 := by decide +kernel
set_option maxHeartbeats 4000000 in
set_option maxRecDepth 100000 in
theorem c_X0_commute {l : Launch} {G : Gx} {qn : Nat → Nat} {sn : NSt} {a1 : Int32} {a2 : Int32} {x : NSt} (hf : n_commute sn a1 a2 = some x) : QM l G yX0_commute wsX0_commute rmX0_commute [.ref (qn 15), .int a1, .int a2] (wN G qn sn) (wN G qn x) none := by
  refine QM.of (cc := cX0_commute) (maxL := 7) (ret := none) (by decide) rfl (Nat.le_of_ble_eq_true rfl) ?_
  intro p e s m below meth c A ls C hD hP hS hl
  have hx := C.1
  have hb := C.2.1
  have hl : lv_has ls 7 [(0, .ref (qn 15)), (1, .int a1), (2, .int a2)] := hl
  unfold n_commute at hf
  refine lv_iconst (v := 3) hx hb dX0_commute_0 (by decide) ?_
  refine lv_aload_n hx hb dX0_commute_1 rfl (lv_at hl 0 rfl) ?_
  refine lv_iconst (v := 2) hx hb dX0_commute_2 (by decide) ?_
  obtain ⟨x1, hx1, hf⟩ := bd_some hf
  refine q_Vi C (rc := (RX0, TX0, 15)) (q0 := 0) (ci := 0) (ws' := wN G qn x1.2) (wr := []) (c_X0_make hx1) gX0_commute_X0_make rfl ⟨rfl, rfl⟩ hdX0_make ⟨(Nat.le_of_ble_eq_true rfl), (Nat.le_of_ble_eq_true rfl)⟩ rfl hP (dd_N hD) hS rfl rfl (List.Perm.refl _) (List.Perm.refl _) hl.1 (Nat.le_of_ble_eq_true rfl) ⟨Nat.zero_le _, Nat.zero_le _⟩ rfl dX0_commute_3 (fun H locs hP hS => ?_)
  refine lv_imul hx hb dX0_commute_6 ?_
  refine lv_istore_n (lv' := [(3, .int (3 * x1.1)), (0, .ref (qn 15)), (1, .int a1), (2, .int a2)]) hx hb dX0_commute_7 rfl hl (by decide) rfl (fun ls hl => ?_)
  refine lv_iconst (v := 3) hx hb dX0_commute_8 (by decide) ?_
  refine lv_aload_n hx hb dX0_commute_9 rfl (lv_at hl 1 rfl) ?_
  refine lv_iconst (v := 2) hx hb dX0_commute_10 (by decide) ?_
  obtain ⟨x2, hx2, hf⟩ := bd_some hf
  refine q_Vi C (rc := (RX0, TX0, 15)) (q0 := 0) (ci := 0) (ws' := wN G qn x2.2) (wr := []) (c_X0_make hx2) gX0_commute_X0_make rfl ⟨rfl, rfl⟩ hdX0_make ⟨(Nat.le_of_ble_eq_true rfl), (Nat.le_of_ble_eq_true rfl)⟩ rfl hP (dd_N hD) hS rfl rfl (List.Perm.refl _) (List.Perm.refl _) hl.1 (Nat.le_of_ble_eq_true rfl) ⟨Nat.zero_le _, Nat.zero_le _⟩ rfl dX0_commute_11 (fun H locs hP hS => ?_)
  refine lv_imul hx hb dX0_commute_14 ?_
  refine lv_istore (lv' := [(4, .int (3 * x2.1)), (3, .int (3 * x1.1)), (0, .ref (qn 15)), (1, .int a1), (2, .int a2)]) hx hb dX0_commute_15 hl (by decide) rfl (fun ls hl => ?_)
  refine lv_iconst (v := 3) hx hb dX0_commute_17 (by decide) ?_
  refine lv_aload_n hx hb dX0_commute_18 rfl (lv_at hl 2 rfl) ?_
  refine lv_iconst (v := 1) hx hb dX0_commute_19 (by decide) ?_
  obtain ⟨x3, hx3, hf⟩ := bd_some hf
  refine q_Vi C (rc := (RX0, TX0, 15)) (q0 := 0) (ci := 0) (ws' := wN G qn x3.2) (wr := []) (c_X0_make hx3) gX0_commute_X0_make rfl ⟨rfl, rfl⟩ hdX0_make ⟨(Nat.le_of_ble_eq_true rfl), (Nat.le_of_ble_eq_true rfl)⟩ rfl hP (dd_N hD) hS rfl rfl (List.Perm.refl _) (List.Perm.refl _) hl.1 (Nat.le_of_ble_eq_true rfl) ⟨Nat.zero_le _, Nat.zero_le _⟩ rfl dX0_commute_20 (fun H locs hP hS => ?_)
  refine lv_imul hx hb dX0_commute_23 ?_
  refine lv_istore (lv' := [(5, .int (3 * x3.1)), (4, .int (3 * x2.1)), (3, .int (3 * x1.1)), (0, .ref (qn 15)), (1, .int a1), (2, .int a2)]) hx hb dX0_commute_24 hl (by decide) rfl (fun ls hl => ?_)
  refine lv_iconst (v := 3) hx hb dX0_commute_26 (by decide) ?_
  refine lv_aload_n hx hb dX0_commute_27 rfl (lv_at hl 3 rfl) ?_
  refine lv_iconst (v := 1) hx hb dX0_commute_28 (by decide) ?_
  obtain ⟨x4, hx4, hf⟩ := bd_some hf
  refine q_Vi C (rc := (RX0, TX0, 15)) (q0 := 0) (ci := 0) (ws' := wN G qn x4.2) (wr := []) (c_X0_make hx4) gX0_commute_X0_make rfl ⟨rfl, rfl⟩ hdX0_make ⟨(Nat.le_of_ble_eq_true rfl), (Nat.le_of_ble_eq_true rfl)⟩ rfl hP (dd_N hD) hS rfl rfl (List.Perm.refl _) (List.Perm.refl _) hl.1 (Nat.le_of_ble_eq_true rfl) ⟨Nat.zero_le _, Nat.zero_le _⟩ rfl dX0_commute_29 (fun H locs hP hS => ?_)
  refine lv_imul hx hb dX0_commute_32 ?_
  refine lv_istore (lv' := [(6, .int (3 * x4.1)), (5, .int (3 * x3.1)), (4, .int (3 * x2.1)), (3, .int (3 * x1.1)), (0, .ref (qn 15)), (1, .int a1), (2, .int a2)]) hx hb dX0_commute_33 hl (by decide) rfl (fun ls hl => ?_)
  refine lv_aload_n hx hb dX0_commute_35 rfl (lv_at hl 4 rfl) ?_
  refine lv_iload_n hx hb dX0_commute_36 rfl (lv_at hl 3 rfl) ?_
  refine lv_iconst (v := 1) hx hb dX0_commute_37 (by decide) ?_
  refine lv_iadd hx hb dX0_commute_38 ?_
  refine lv_iload hx hb dX0_commute_39 (lv_at hl 1 rfl) ?_
  refine lv_iconst (v := 1) hx hb dX0_commute_41 (by decide) ?_
  refine lv_iadd hx hb dX0_commute_42 ?_
  obtain ⟨x5, hx5, hf⟩ := bd_some hf
  refine q_Vv C (rc := (RX0, TX0, 15)) (q0 := 0) (ci := 0) (ws' := wN G qn x5) (wr := []) (c_X0_tie hx5) gX0_commute_X0_tie rfl ⟨rfl, rfl⟩ hdX0_tie ⟨(Nat.le_of_ble_eq_true rfl), (Nat.le_of_ble_eq_true rfl)⟩ rfl hP (dd_N hD) hS rfl rfl (List.Perm.refl _) (List.Perm.refl _) hl.1 (Nat.le_of_ble_eq_true rfl) ⟨Nat.zero_le _, Nat.zero_le _⟩ rfl dX0_commute_43 (fun H locs hP hS => ?_)
  refine lv_aload_n hx hb dX0_commute_46 rfl (lv_at hl 4 rfl) ?_
  refine lv_iload_n hx hb dX0_commute_47 rfl (lv_at hl 3 rfl) ?_
  refine lv_iconst (v := 2) hx hb dX0_commute_48 (by decide) ?_
  refine lv_iadd hx hb dX0_commute_49 ?_
  refine lv_iload hx hb dX0_commute_50 (lv_at hl 0 rfl) ?_
  refine lv_iconst (v := 1) hx hb dX0_commute_52 (by decide) ?_
  refine lv_iadd hx hb dX0_commute_53 ?_
  obtain ⟨x6, hx6, hf⟩ := bd_some hf
  refine q_Vv C (rc := (RX0, TX0, 15)) (q0 := 0) (ci := 0) (ws' := wN G qn x6) (wr := []) (c_X0_tie hx6) gX0_commute_X0_tie rfl ⟨rfl, rfl⟩ hdX0_tie ⟨(Nat.le_of_ble_eq_true rfl), (Nat.le_of_ble_eq_true rfl)⟩ rfl hP (dd_N hD) hS rfl rfl (List.Perm.refl _) (List.Perm.refl _) hl.1 (Nat.le_of_ble_eq_true rfl) ⟨Nat.zero_le _, Nat.zero_le _⟩ rfl dX0_commute_54 (fun H locs hP hS => ?_)
  refine lv_aload_n hx hb dX0_commute_57 rfl (lv_at hl 4 rfl) ?_
  refine lv_iload hx hb dX0_commute_58 (lv_at hl 2 rfl) ?_
  refine lv_iconst (v := 1) hx hb dX0_commute_60 (by decide) ?_
  refine lv_iadd hx hb dX0_commute_61 ?_
  refine lv_iload hx hb dX0_commute_62 (lv_at hl 1 rfl) ?_
  refine lv_iconst (v := 2) hx hb dX0_commute_64 (by decide) ?_
  refine lv_iadd hx hb dX0_commute_65 ?_
  obtain ⟨x7, hx7, hf⟩ := bd_some hf
  refine q_Vv C (rc := (RX0, TX0, 15)) (q0 := 0) (ci := 0) (ws' := wN G qn x7) (wr := []) (c_X0_tie hx7) gX0_commute_X0_tie rfl ⟨rfl, rfl⟩ hdX0_tie ⟨(Nat.le_of_ble_eq_true rfl), (Nat.le_of_ble_eq_true rfl)⟩ rfl hP (dd_N hD) hS rfl rfl (List.Perm.refl _) (List.Perm.refl _) hl.1 (Nat.le_of_ble_eq_true rfl) ⟨Nat.zero_le _, Nat.zero_le _⟩ rfl dX0_commute_66 (fun H locs hP hS => ?_)
  refine lv_aload_n hx hb dX0_commute_69 rfl (lv_at hl 4 rfl) ?_
  refine lv_iload hx hb dX0_commute_70 (lv_at hl 2 rfl) ?_
  refine lv_iconst (v := 2) hx hb dX0_commute_72 (by decide) ?_
  refine lv_iadd hx hb dX0_commute_73 ?_
  refine lv_iload hx hb dX0_commute_74 (lv_at hl 0 rfl) ?_
  refine lv_iconst (v := 2) hx hb dX0_commute_76 (by decide) ?_
  refine lv_iadd hx hb dX0_commute_77 ?_
  obtain ⟨x8, hx8, hf⟩ := bd_some hf
  refine q_Vv C (rc := (RX0, TX0, 15)) (q0 := 0) (ci := 0) (ws' := wN G qn x8) (wr := []) (c_X0_tie hx8) gX0_commute_X0_tie rfl ⟨rfl, rfl⟩ hdX0_tie ⟨(Nat.le_of_ble_eq_true rfl), (Nat.le_of_ble_eq_true rfl)⟩ rfl hP (dd_N hD) hS rfl rfl (List.Perm.refl _) (List.Perm.refl _) hl.1 (Nat.le_of_ble_eq_true rfl) ⟨Nat.zero_le _, Nat.zero_le _⟩ rfl dX0_commute_78 (fun H locs hP hS => ?_)
  refine lv_aload_n hx hb dX0_commute_81 rfl (lv_at hl 4 rfl) ?_
  refine lv_iload_n hx hb dX0_commute_82 rfl (lv_at hl 5 rfl) ?_
  refine lv_iload_n hx hb dX0_commute_83 rfl (lv_at hl 3 rfl) ?_
  obtain ⟨x9, hx9, hf⟩ := bd_some hf
  refine q_Vv C (rc := (RX0, TX0, 15)) (q0 := 0) (ci := 0) (ws' := wN G qn x9) (wr := []) (c_X0_move hx9) gX0_commute_X0_move rfl ⟨rfl, rfl⟩ hdX0_move ⟨(Nat.le_of_ble_eq_true rfl), (Nat.le_of_ble_eq_true rfl)⟩ rfl hP (dd_N hD) hS rfl rfl (List.Perm.refl _) (List.Perm.refl _) hl.1 (Nat.le_of_ble_eq_true rfl) ⟨Nat.zero_le _, Nat.zero_le _⟩ rfl dX0_commute_84 (fun H locs hP hS => ?_)
  refine lv_aload_n hx hb dX0_commute_87 rfl (lv_at hl 4 rfl) ?_
  refine lv_iload_n hx hb dX0_commute_88 rfl (lv_at hl 5 rfl) ?_
  refine lv_iconst (v := 1) hx hb dX0_commute_89 (by decide) ?_
  refine lv_iadd hx hb dX0_commute_90 ?_
  refine lv_iload hx hb dX0_commute_91 (lv_at hl 2 rfl) ?_
  obtain ⟨x10, hx10, hf⟩ := bd_some hf
  refine q_Vv C (rc := (RX0, TX0, 15)) (q0 := 0) (ci := 0) (ws' := wN G qn x10) (wr := []) (c_X0_move hx10) gX0_commute_X0_move rfl ⟨rfl, rfl⟩ hdX0_move ⟨(Nat.le_of_ble_eq_true rfl), (Nat.le_of_ble_eq_true rfl)⟩ rfl hP (dd_N hD) hS rfl rfl (List.Perm.refl _) (List.Perm.refl _) hl.1 (Nat.le_of_ble_eq_true rfl) ⟨Nat.zero_le _, Nat.zero_le _⟩ rfl dX0_commute_93 (fun H locs hP hS => ?_)
  refine lv_aload_n hx hb dX0_commute_96 rfl (lv_at hl 4 rfl) ?_
  refine lv_iload_n hx hb dX0_commute_97 rfl (lv_at hl 6 rfl) ?_
  refine lv_iload hx hb dX0_commute_98 (lv_at hl 1 rfl) ?_
  obtain ⟨x11, hx11, hf⟩ := bd_some hf
  refine q_Vv C (rc := (RX0, TX0, 15)) (q0 := 0) (ci := 0) (ws' := wN G qn x11) (wr := []) (c_X0_move hx11) gX0_commute_X0_move rfl ⟨rfl, rfl⟩ hdX0_move ⟨(Nat.le_of_ble_eq_true rfl), (Nat.le_of_ble_eq_true rfl)⟩ rfl hP (dd_N hD) hS rfl rfl (List.Perm.refl _) (List.Perm.refl _) hl.1 (Nat.le_of_ble_eq_true rfl) ⟨Nat.zero_le _, Nat.zero_le _⟩ rfl dX0_commute_100 (fun H locs hP hS => ?_)
  refine lv_aload_n hx hb dX0_commute_103 rfl (lv_at hl 4 rfl) ?_
  refine lv_iload_n hx hb dX0_commute_104 rfl (lv_at hl 6 rfl) ?_
  refine lv_iconst (v := 1) hx hb dX0_commute_105 (by decide) ?_
  refine lv_iadd hx hb dX0_commute_106 ?_
  refine lv_iload hx hb dX0_commute_107 (lv_at hl 0 rfl) ?_
  obtain ⟨x12, hx12, hf⟩ := bd_some hf
  refine q_Vv C (rc := (RX0, TX0, 15)) (q0 := 0) (ci := 0) (ws' := wN G qn x12) (wr := []) (c_X0_move hx12) gX0_commute_X0_move rfl ⟨rfl, rfl⟩ hdX0_move ⟨(Nat.le_of_ble_eq_true rfl), (Nat.le_of_ble_eq_true rfl)⟩ rfl hP (dd_N hD) hS rfl rfl (List.Perm.refl _) (List.Perm.refl _) hl.1 (Nat.le_of_ble_eq_true rfl) ⟨Nat.zero_le _, Nat.zero_le _⟩ rfl dX0_commute_109 (fun H locs hP hS => ?_)
  cases hf
  exact q_vret C hP hS rfl dX0_commute_112

-- X0_erase
def n_erase (sn : NSt) (a1 : Int32) : Option (NSt) := bd (n_make sn 0) fun x1 => bd (n_make x1.2 0) fun x2 => bd (n_move x2.2 a1 (3 * x1.1)) fun x3 => bd (n_move x3 (a1 + 1) (3 * x2.1)) fun x4 => some x4
abbrev rmX0_erase : Room := { frames := 3, cells := 0, slots := 0, locals := 68 }
theorem hdX0_erase : yX0_erase.cls = RX0 ∧ yX0_erase.cls ≠ "java/lang/invoke/MethodHandle" ∧ yX0_erase.cls ≠ "java/lang/invoke/VarHandle" ∧ (parseMethodDescriptor yX0_erase.desc).map (fun d => d.parameters.length) = some 1 := by decide +kernel
set_option maxHeartbeats 4000000 in
set_option maxRecDepth 100000 in
theorem c_X0_erase {l : Launch} {G : Gx} {qn : Nat → Nat} {sn : NSt} {a1 : Int32} {x : NSt} (hf : n_erase sn a1 = some x) : QM l G yX0_erase wsX0_erase rmX0_erase [.ref (qn 15), .int a1] (wN G qn sn) (wN G qn x) none := by
  refine QM.of (cc := cX0_erase) (maxL := 4) (ret := none) (by decide) rfl (Nat.le_of_ble_eq_true rfl) ?_
  intro p e s m below meth c A ls C hD hP hS hl
  have hx := C.1
  have hb := C.2.1
  have hl : lv_has ls 4 [(0, .ref (qn 15)), (1, .int a1)] := hl
  unfold n_erase at hf
  refine lv_aload_n hx hb dX0_erase_0 rfl (lv_at hl 0 rfl) ?_
  refine lv_iconst (v := 0) hx hb dX0_erase_1 (by decide) ?_
  obtain ⟨x1, hx1, hf⟩ := bd_some hf
  refine q_Vi C (rc := (RX0, TX0, 15)) (q0 := 0) (ci := 0) (ws' := wN G qn x1.2) (wr := []) (c_X0_make hx1) gX0_erase_X0_make rfl ⟨rfl, rfl⟩ hdX0_make ⟨(Nat.le_of_ble_eq_true rfl), (Nat.le_of_ble_eq_true rfl)⟩ rfl hP (dd_N hD) hS rfl rfl (List.Perm.refl _) (List.Perm.refl _) hl.1 (Nat.le_of_ble_eq_true rfl) ⟨Nat.zero_le _, Nat.zero_le _⟩ rfl dX0_erase_2 (fun H locs hP hS => ?_)
  refine lv_istore_n (lv' := [(2, .int x1.1), (0, .ref (qn 15)), (1, .int a1)]) hx hb dX0_erase_5 rfl hl (by decide) rfl (fun ls hl => ?_)
  refine lv_aload_n hx hb dX0_erase_6 rfl (lv_at hl 1 rfl) ?_
  refine lv_iconst (v := 0) hx hb dX0_erase_7 (by decide) ?_
  obtain ⟨x2, hx2, hf⟩ := bd_some hf
  refine q_Vi C (rc := (RX0, TX0, 15)) (q0 := 0) (ci := 0) (ws' := wN G qn x2.2) (wr := []) (c_X0_make hx2) gX0_erase_X0_make rfl ⟨rfl, rfl⟩ hdX0_make ⟨(Nat.le_of_ble_eq_true rfl), (Nat.le_of_ble_eq_true rfl)⟩ rfl hP (dd_N hD) hS rfl rfl (List.Perm.refl _) (List.Perm.refl _) hl.1 (Nat.le_of_ble_eq_true rfl) ⟨Nat.zero_le _, Nat.zero_le _⟩ rfl dX0_erase_8 (fun H locs hP hS => ?_)
  refine lv_istore_n (lv' := [(3, .int x2.1), (2, .int x1.1), (0, .ref (qn 15)), (1, .int a1)]) hx hb dX0_erase_11 rfl hl (by decide) rfl (fun ls hl => ?_)
  refine lv_aload_n hx hb dX0_erase_12 rfl (lv_at hl 2 rfl) ?_
  refine lv_iload_n hx hb dX0_erase_13 rfl (lv_at hl 3 rfl) ?_
  refine lv_iconst (v := 3) hx hb dX0_erase_14 (by decide) ?_
  refine lv_iload_n hx hb dX0_erase_15 rfl (lv_at hl 1 rfl) ?_
  refine lv_imul hx hb dX0_erase_16 ?_
  obtain ⟨x3, hx3, hf⟩ := bd_some hf
  refine q_Vv C (rc := (RX0, TX0, 15)) (q0 := 0) (ci := 0) (ws' := wN G qn x3) (wr := []) (c_X0_move hx3) gX0_erase_X0_move rfl ⟨rfl, rfl⟩ hdX0_move ⟨(Nat.le_of_ble_eq_true rfl), (Nat.le_of_ble_eq_true rfl)⟩ rfl hP (dd_N hD) hS rfl rfl (List.Perm.refl _) (List.Perm.refl _) hl.1 (Nat.le_of_ble_eq_true rfl) ⟨Nat.zero_le _, Nat.zero_le _⟩ rfl dX0_erase_17 (fun H locs hP hS => ?_)
  refine lv_aload_n hx hb dX0_erase_20 rfl (lv_at hl 2 rfl) ?_
  refine lv_iload_n hx hb dX0_erase_21 rfl (lv_at hl 3 rfl) ?_
  refine lv_iconst (v := 1) hx hb dX0_erase_22 (by decide) ?_
  refine lv_iadd hx hb dX0_erase_23 ?_
  refine lv_iconst (v := 3) hx hb dX0_erase_24 (by decide) ?_
  refine lv_iload_n hx hb dX0_erase_25 rfl (lv_at hl 0 rfl) ?_
  refine lv_imul hx hb dX0_erase_26 ?_
  obtain ⟨x4, hx4, hf⟩ := bd_some hf
  refine q_Vv C (rc := (RX0, TX0, 15)) (q0 := 0) (ci := 0) (ws' := wN G qn x4) (wr := []) (c_X0_move hx4) gX0_erase_X0_move rfl ⟨rfl, rfl⟩ hdX0_move ⟨(Nat.le_of_ble_eq_true rfl), (Nat.le_of_ble_eq_true rfl)⟩ rfl hP (dd_N hD) hS rfl rfl (List.Perm.refl _) (List.Perm.refl _) hl.1 (Nat.le_of_ble_eq_true rfl) ⟨Nat.zero_le _, Nat.zero_le _⟩ rfl dX0_erase_27 (fun H locs hP hS => ?_)
  cases hf
  exact q_vret C hP hS rfl dX0_erase_30

-- X0_rewrite
theorem hiX0_rewrite_X0 : ∀ w ∈ u_ws RX0 TX0 15, w ∈ wsX0_rewrite := mem_run (i := 89) (by decide +kernel)
theorem wdX0_rewrite_1 : (Cond.fieldLink RX0 24 "CombinatorRing$Net" "pairs" "LCombinatorRing$Pairs;") ∈ wsX0_rewrite := List.mem_of_getElem? (i := 1) rfl
theorem wdX0_rewrite_2 : (Cond.fieldLink RX0 18 "CombinatorRing$Net" "ruleCounts" "[I") ∈ wsX0_rewrite := List.mem_of_getElem? (i := 2) rfl
def n_rewrite_155 (sn : NSt) (v3 : Int32) : Option (Int32 × NSt) := if v3 < 0 then some (v3, sn) else if 6 ≤ v3 then some (v3, sn) else gd v3 6 (gd v3 6 (nm (nsA sn 3 (upd (na sn 3) v3.toNatClampNeg ((na sn 3 v3.toNatClampNeg) + 1))) fun s21 => some (v3, s21)))
def n_rewrite_131 (sn : NSt) (v3 : Int32) (k0 : Int32) (k1 : Int32) : Option (Int32 × NSt) := bd (n_commute sn k1 k0) fun x22 => n_rewrite_155 x22 v3
def n_rewrite_116 (sn : NSt) (v3 : Int32) (v4 : Int32) (k0 : Int32) : Option (Int32 × NSt) := if v4 = 2 then n_rewrite_131 sn v3 1016 k0 else n_rewrite_131 sn v3 1018 k0
def n_rewrite_152 (sn : NSt) (v3 : Int32) (k0 : Int32) : Option (Int32 × NSt) := bd (n_erase sn k0) fun x17 => n_rewrite_155 x17 v3
def n_rewrite (sn : NSt) (a1 : Int32) : Option (Int32 × NSt) := bd (n_partnerOf sn a1) fun x1 => bd (n_ruleOf sn a1) fun x2 => bd (n_kindOf sn a1) fun x3 => bd (n_kindOf sn x1) fun x4 => bd (p_remove (np sn) a1) fun x5 => bd (n_moveToWires (nsP sn x5) a1 1016) fun x6 => bd (n_moveToWires x6 x1 1018) fun x7 => bd (n_free x7 a1) fun x8 => bd (n_free x8 x1) fun x9 => if x3 = x4 then if x3 = 0 then n_rewrite_155 x9 x2 else bd (n_splice x9 1016 1018) fun x15 => bd (n_splice x15 1017 1019) fun x16 => n_rewrite_155 x16 x2 else if x2 = 5 then if x3 = 1 then n_rewrite_116 x9 x2 x3 1016 else n_rewrite_116 x9 x2 x3 1018 else if x3 = 0 then n_rewrite_152 x9 x2 1018 else n_rewrite_152 x9 x2 1016
abbrev rmX0_rewrite : Room := { frames := 4, cells := 0, slots := 0, locals := 94 }
theorem hdX0_rewrite : yX0_rewrite.cls = RX0 ∧ yX0_rewrite.cls ≠ "java/lang/invoke/MethodHandle" ∧ yX0_rewrite.cls ≠ "java/lang/invoke/VarHandle" ∧ (parseMethodDescriptor yX0_rewrite.desc).map (fun d => d.parameters.length) = some 1 := by decide +kernel
set_option maxHeartbeats 4000000 in
set_option maxRecDepth 100000 in
theorem t_X0_rewrite_155 {p : Program} {l : Launch} {e : Env} {s : State} {m : MethodId} {args : Array Value} {below : List Frame} {meth : Method} {c : Code} {A : Nat → Prop} {G : Gx} {qn : Nat → Nat} {sn0 : NSt} (C : Cx p s m args meth c G cX0_rewrite wsX0_rewrite RX0 (some .int) 6 A) (hD : va_D A (wN G qn sn0)) :
    ∀ {sn : NSt} {v3 : Int32} {x : Int32 × NSt}, n_rewrite_155 sn v3 = some x → ∀ {H : Heap} {locs : List Loc} {ls : Array Slot}, va_P G.1 vwCl (wN G qn sn) H → va_S A s.heap H locs → lv_has ls 6 [(0, .ref (qn 15)), (3, .int v3)] → W p l e rmX0_rewrite s m args below meth c H locs 0 0 (MQ below (qE G A (wN G qn x.2) (some (.int x.1))) args s 0 0 A) (F0 m 155 ls []) := by
  have hx := C.1
  have hb := C.2.1
  intro sn v3 x hf H locs ls hP hS hl
  unfold n_rewrite_155 at hf
  refine lv_iload_n hx hb dX0_rewrite_155 rfl (lv_at hl 1 rfl) ?_
  refine lv_if_lt (tgt := 175) hx hb dX0_rewrite_156 (by decide) (fun c19 => ?_) (fun c19 => ?_)
  · have hf := if_t c19 hf
    refine lv_iload_n hx hb dX0_rewrite_175 rfl (lv_at hl 1 rfl) ?_
    cases hf
    exact q_iret C hP hS rfl dX0_rewrite_176
  · have hf := if_f c19 hf
    refine lv_iload_n hx hb dX0_rewrite_159 rfl (lv_at hl 1 rfl) ?_
    refine lv_bipush (v := 6) hx hb dX0_rewrite_160 (by decide) ?_
    refine lv_icmp_ge (tgt := 175) hx hb dX0_rewrite_162 (by decide) (fun c20 => ?_) (fun c20 => ?_)
    · have hf := if_t c20 hf
      refine lv_iload_n hx hb dX0_rewrite_175 rfl (lv_at hl 1 rfl) ?_
      cases hf
      exact q_iret C hP hS rfl dX0_rewrite_176
    · have hf := if_f c20 hf
      refine lv_aload_n hx hb dX0_rewrite_165 rfl (lv_at hl 0 rfl) ?_
      refine q_get C hP (q0 := 0) rfl rfl hiX0_rewrite_X0 3 (by decide) wdX0_rewrite_2 rfl dX0_rewrite_166 ?_
      refine lv_iload_n hx hb dX0_rewrite_169 rfl (lv_at hl 1 rfl) ?_
      refine lv_dup2_11 hx hb dX0_rewrite_170 rfl rfl ?_
      obtain ⟨hin, hf⟩ := gd_some hf
      refine q_iald C hP (q0 := 4) rfl rfl hin dX0_rewrite_171 ?_
      refine lv_iconst (v := 1) hx hb dX0_rewrite_172 (by decide) ?_
      refine lv_iadd hx hb dX0_rewrite_173 ?_
      obtain ⟨hin, hf⟩ := gd_some hf
      obtain ⟨s21, es21, hf⟩ := nm_ex hf
      refine q_iast C hP (dd_N hD) hS (q0 := 4) rfl rfl rfl hin dX0_rewrite_174 (fun H locs hP hS => ?_)
      have hP : va_P G.1 vwCl (wN G qn s21) H := by rw [← es21]; exact hP
      refine lv_iload_n hx hb dX0_rewrite_175 rfl (lv_at hl 1 rfl) ?_
      cases hf
      exact q_iret C hP hS rfl dX0_rewrite_176
set_option maxHeartbeats 4000000 in
set_option maxRecDepth 100000 in
theorem t_X0_rewrite_131 {p : Program} {l : Launch} {e : Env} {s : State} {m : MethodId} {args : Array Value} {below : List Frame} {meth : Method} {c : Code} {A : Nat → Prop} {G : Gx} {qn : Nat → Nat} {sn0 : NSt} (C : Cx p s m args meth c G cX0_rewrite wsX0_rewrite RX0 (some .int) 6 A) (hD : va_D A (wN G qn sn0)) :
    ∀ {sn : NSt} {v3 : Int32} {k0 : Int32} {k1 : Int32} {x : Int32 × NSt}, n_rewrite_131 sn v3 k0 k1 = some x → ∀ {H : Heap} {locs : List Loc} {ls : Array Slot}, va_P G.1 vwCl (wN G qn sn) H → va_S A s.heap H locs → lv_has ls 6 [(0, .ref (qn 15)), (3, .int v3)] → W p l e rmX0_rewrite s m args below meth c H locs 0 0 (MQ below (qE G A (wN G qn x.2) (some (.int x.1))) args s 0 0 A) (F0 m 131 ls [.int k0, .int k1, .ref (qn 15)]) := by
  have hx := C.1
  have hb := C.2.1
  intro sn v3 k0 k1 x hf H locs ls hP hS hl
  unfold n_rewrite_131 at hf
  obtain ⟨x22, hx22, hf⟩ := bd_some hf
  refine q_Vv C (rc := (RX0, TX0, 15)) (q0 := 0) (ci := 0) (ws' := wN G qn x22) (wr := []) (c_X0_commute hx22) gX0_rewrite_X0_commute rfl ⟨rfl, rfl⟩ hdX0_commute ⟨(Nat.le_of_ble_eq_true rfl), (Nat.le_of_ble_eq_true rfl)⟩ rfl hP (dd_N hD) hS rfl rfl (List.Perm.refl _) (List.Perm.refl _) hl.1 (Nat.le_of_ble_eq_true rfl) ⟨Nat.zero_le _, Nat.zero_le _⟩ rfl dX0_rewrite_131 (fun H locs hP hS => ?_)
  refine lv_goto (tgt := 155) hx hb dX0_rewrite_134 (by decide) ?_
  exact t_X0_rewrite_155 C hD hf hP hS (lv_sub hl [0, 1] rfl)
set_option maxHeartbeats 4000000 in
set_option maxRecDepth 100000 in
theorem t_X0_rewrite_116 {p : Program} {l : Launch} {e : Env} {s : State} {m : MethodId} {args : Array Value} {below : List Frame} {meth : Method} {c : Code} {A : Nat → Prop} {G : Gx} {qn : Nat → Nat} {sn0 : NSt} (C : Cx p s m args meth c G cX0_rewrite wsX0_rewrite RX0 (some .int) 6 A) (hD : va_D A (wN G qn sn0)) :
    ∀ {sn : NSt} {v3 : Int32} {v4 : Int32} {k0 : Int32} {x : Int32 × NSt}, n_rewrite_116 sn v3 v4 k0 = some x → ∀ {H : Heap} {locs : List Loc} {ls : Array Slot}, va_P G.1 vwCl (wN G qn sn) H → va_S A s.heap H locs → lv_has ls 6 [(0, .ref (qn 15)), (3, .int v3), (4, .int v4)] → W p l e rmX0_rewrite s m args below meth c H locs 0 0 (MQ below (qE G A (wN G qn x.2) (some (.int x.1))) args s 0 0 A) (F0 m 116 ls [.int k0, .ref (qn 15)]) := by
  have hx := C.1
  have hb := C.2.1
  intro sn v3 v4 k0 x hf H locs ls hP hS hl
  unfold n_rewrite_116 at hf
  refine lv_iload hx hb dX0_rewrite_116 (lv_at hl 2 rfl) ?_
  refine lv_iconst (v := 2) hx hb dX0_rewrite_118 (by decide) ?_
  refine lv_icmp_ne (tgt := 128) hx hb dX0_rewrite_119 (by decide) (fun c18 => ?_) (fun c18 => ?_)
  · have hf := if_f c18 hf
    refine lv_sipush (v := 1018) hx hb dX0_rewrite_128 (by decide) ?_
    exact t_X0_rewrite_131 C hD hf hP hS (lv_sub hl [0, 1] rfl)
  · have hf := if_t c18 hf
    refine lv_sipush (v := 1016) hx hb dX0_rewrite_122 (by decide) ?_
    refine lv_goto (tgt := 131) hx hb dX0_rewrite_125 (by decide) ?_
    exact t_X0_rewrite_131 C hD hf hP hS (lv_sub hl [0, 1] rfl)
set_option maxHeartbeats 4000000 in
set_option maxRecDepth 100000 in
theorem t_X0_rewrite_152 {p : Program} {l : Launch} {e : Env} {s : State} {m : MethodId} {args : Array Value} {below : List Frame} {meth : Method} {c : Code} {A : Nat → Prop} {G : Gx} {qn : Nat → Nat} {sn0 : NSt} (C : Cx p s m args meth c G cX0_rewrite wsX0_rewrite RX0 (some .int) 6 A) (hD : va_D A (wN G qn sn0)) :
    ∀ {sn : NSt} {v3 : Int32} {k0 : Int32} {x : Int32 × NSt}, n_rewrite_152 sn v3 k0 = some x → ∀ {H : Heap} {locs : List Loc} {ls : Array Slot}, va_P G.1 vwCl (wN G qn sn) H → va_S A s.heap H locs → lv_has ls 6 [(0, .ref (qn 15)), (3, .int v3)] → W p l e rmX0_rewrite s m args below meth c H locs 0 0 (MQ below (qE G A (wN G qn x.2) (some (.int x.1))) args s 0 0 A) (F0 m 152 ls [.int k0, .ref (qn 15)]) := by
  have hx := C.1
  have hb := C.2.1
  intro sn v3 k0 x hf H locs ls hP hS hl
  unfold n_rewrite_152 at hf
  obtain ⟨x17, hx17, hf⟩ := bd_some hf
  refine q_Vv C (rc := (RX0, TX0, 15)) (q0 := 0) (ci := 0) (ws' := wN G qn x17) (wr := []) (c_X0_erase hx17) gX0_rewrite_X0_erase rfl ⟨rfl, rfl⟩ hdX0_erase ⟨(Nat.le_of_ble_eq_true rfl), (Nat.le_of_ble_eq_true rfl)⟩ rfl hP (dd_N hD) hS rfl rfl (List.Perm.refl _) (List.Perm.refl _) hl.1 (Nat.le_of_ble_eq_true rfl) ⟨Nat.zero_le _, Nat.zero_le _⟩ rfl dX0_rewrite_152 (fun H locs hP hS => ?_)
  exact t_X0_rewrite_155 C hD hf hP hS (lv_sub hl [0, 1] rfl)
set_option maxHeartbeats 4000000 in
set_option maxRecDepth 100000 in
theorem c_X0_rewrite {l : Launch} {G : Gx} {qn : Nat → Nat} {sn : NSt} {a1 : Int32} {x : Int32 × NSt} (hf : n_rewrite sn a1 = some x) : QM l G yX0_rewrite wsX0_rewrite rmX0_rewrite [.ref (qn 15), .int a1] (wN G qn sn) (wN G qn x.2) (some (.int x.1)) := by
  refine QM.of (cc := cX0_rewrite) (maxL := 6) (ret := (some .int)) (by decide) rfl (Nat.le_of_ble_eq_true rfl) ?_
  intro p e s m below meth c A ls C hD hP hS hl
  have hx := C.1
  have hb := C.2.1
  have hl : lv_has ls 6 [(0, .ref (qn 15)), (1, .int a1)] := hl
  unfold n_rewrite at hf
  refine lv_aload_n hx hb dX0_rewrite_0 rfl (lv_at hl 0 rfl) ?_
  refine lv_iload_n hx hb dX0_rewrite_1 rfl (lv_at hl 1 rfl) ?_
  obtain ⟨x1, hx1, hf⟩ := bd_some hf
  refine q_Vi C (rc := (RX0, TX0, 15)) (q0 := 0) (ci := 0) (ws' := wN G qn sn) (wr := []) (c_X0_partnerOf hx1) gX0_rewrite_X0_partnerOf rfl ⟨rfl, rfl⟩ hdX0_partnerOf ⟨(Nat.le_of_ble_eq_true rfl), (Nat.le_of_ble_eq_true rfl)⟩ rfl hP (dd_N hD) hS rfl rfl (List.Perm.refl _) (List.Perm.refl _) hl.1 (Nat.le_of_ble_eq_true rfl) ⟨Nat.zero_le _, Nat.zero_le _⟩ rfl dX0_rewrite_2 (fun H locs hP hS => ?_)
  refine lv_istore_n (lv' := [(2, .int x1), (0, .ref (qn 15)), (1, .int a1)]) hx hb dX0_rewrite_5 rfl hl (by decide) rfl (fun ls hl => ?_)
  refine lv_aload_n hx hb dX0_rewrite_6 rfl (lv_at hl 1 rfl) ?_
  refine lv_iload_n hx hb dX0_rewrite_7 rfl (lv_at hl 2 rfl) ?_
  obtain ⟨x2, hx2, hf⟩ := bd_some hf
  refine q_Vi C (rc := (RX0, TX0, 15)) (q0 := 0) (ci := 0) (ws' := wN G qn sn) (wr := []) (c_X0_ruleOf hx2) gX0_rewrite_X0_ruleOf rfl ⟨rfl, rfl⟩ hdX0_ruleOf ⟨(Nat.le_of_ble_eq_true rfl), (Nat.le_of_ble_eq_true rfl)⟩ rfl hP (dd_N hD) hS rfl rfl (List.Perm.refl _) (List.Perm.refl _) hl.1 (Nat.le_of_ble_eq_true rfl) ⟨Nat.zero_le _, Nat.zero_le _⟩ rfl dX0_rewrite_8 (fun H locs hP hS => ?_)
  refine lv_istore_n (lv' := [(3, .int x2), (2, .int x1), (0, .ref (qn 15)), (1, .int a1)]) hx hb dX0_rewrite_11 rfl hl (by decide) rfl (fun ls hl => ?_)
  refine lv_aload_n hx hb dX0_rewrite_12 rfl (lv_at hl 2 rfl) ?_
  refine lv_iload_n hx hb dX0_rewrite_13 rfl (lv_at hl 3 rfl) ?_
  obtain ⟨x3, hx3, hf⟩ := bd_some hf
  refine q_Vi C (rc := (RX0, TX0, 15)) (q0 := 0) (ci := 0) (ws' := wN G qn sn) (wr := []) (c_X0_kindOf hx3) gX0_rewrite_X0_kindOf rfl ⟨rfl, rfl⟩ hdX0_kindOf ⟨(Nat.le_of_ble_eq_true rfl), (Nat.le_of_ble_eq_true rfl)⟩ rfl hP (dd_N hD) hS rfl rfl (List.Perm.refl _) (List.Perm.refl _) hl.1 (Nat.le_of_ble_eq_true rfl) ⟨Nat.zero_le _, Nat.zero_le _⟩ rfl dX0_rewrite_14 (fun H locs hP hS => ?_)
  refine lv_istore (lv' := [(4, .int x3), (3, .int x2), (2, .int x1), (0, .ref (qn 15)), (1, .int a1)]) hx hb dX0_rewrite_17 hl (by decide) rfl (fun ls hl => ?_)
  refine lv_aload_n hx hb dX0_rewrite_19 rfl (lv_at hl 3 rfl) ?_
  refine lv_iload_n hx hb dX0_rewrite_20 rfl (lv_at hl 2 rfl) ?_
  obtain ⟨x4, hx4, hf⟩ := bd_some hf
  refine q_Vi C (rc := (RX0, TX0, 15)) (q0 := 0) (ci := 0) (ws' := wN G qn sn) (wr := []) (c_X0_kindOf hx4) gX0_rewrite_X0_kindOf rfl ⟨rfl, rfl⟩ hdX0_kindOf ⟨(Nat.le_of_ble_eq_true rfl), (Nat.le_of_ble_eq_true rfl)⟩ rfl hP (dd_N hD) hS rfl rfl (List.Perm.refl _) (List.Perm.refl _) hl.1 (Nat.le_of_ble_eq_true rfl) ⟨Nat.zero_le _, Nat.zero_le _⟩ rfl dX0_rewrite_21 (fun H locs hP hS => ?_)
  refine lv_istore (lv' := [(5, .int x4), (4, .int x3), (3, .int x2), (2, .int x1), (0, .ref (qn 15)), (1, .int a1)]) hx hb dX0_rewrite_24 hl (by decide) rfl (fun ls hl => ?_)
  refine lv_aload_n hx hb dX0_rewrite_26 rfl (lv_at hl 4 rfl) ?_
  refine q_get C hP (q0 := 0) rfl rfl hiX0_rewrite_X0 4 (by decide) wdX0_rewrite_1 rfl dX0_rewrite_27 ?_
  refine lv_iload_n hx hb dX0_rewrite_30 rfl (lv_at hl 5 rfl) ?_
  obtain ⟨x5, hx5, hf⟩ := bd_some hf
  refine q_Vv C (rc := (RX1, TX1, 2)) (q0 := 5) (ci := 1) (ws' := wN G qn (nsP sn x5)) (c_X1_remove (qp := qPp qn) hx5) gX0_rewrite_X1_remove rfl ⟨rfl, rfl⟩ hdX1_remove ⟨(Nat.le_of_ble_eq_true rfl), (Nat.le_of_ble_eq_true rfl)⟩ rfl hP (dd_N hD) hS rfl rfl pm_NP1 pm_NP1' hl.1 (Nat.le_of_ble_eq_true rfl) ⟨Nat.zero_le _, Nat.zero_le _⟩ rfl dX0_rewrite_31 (fun H locs hP hS => ?_)
  refine lv_aload_n hx hb dX0_rewrite_34 rfl (lv_at hl 4 rfl) ?_
  refine lv_iload_n hx hb dX0_rewrite_35 rfl (lv_at hl 5 rfl) ?_
  refine lv_sipush (v := 1016) hx hb dX0_rewrite_36 (by decide) ?_
  obtain ⟨x6, hx6, hf⟩ := bd_some hf
  refine q_Vv C (rc := (RX0, TX0, 15)) (q0 := 0) (ci := 0) (ws' := wN G qn x6) (wr := []) (c_X0_moveToWires hx6) gX0_rewrite_X0_moveToWires rfl ⟨rfl, rfl⟩ hdX0_moveToWires ⟨(Nat.le_of_ble_eq_true rfl), (Nat.le_of_ble_eq_true rfl)⟩ rfl hP (dd_N hD) hS rfl rfl (List.Perm.refl _) (List.Perm.refl _) hl.1 (Nat.le_of_ble_eq_true rfl) ⟨Nat.zero_le _, Nat.zero_le _⟩ rfl dX0_rewrite_39 (fun H locs hP hS => ?_)
  refine lv_aload_n hx hb dX0_rewrite_42 rfl (lv_at hl 4 rfl) ?_
  refine lv_iload_n hx hb dX0_rewrite_43 rfl (lv_at hl 3 rfl) ?_
  refine lv_sipush (v := 1018) hx hb dX0_rewrite_44 (by decide) ?_
  obtain ⟨x7, hx7, hf⟩ := bd_some hf
  refine q_Vv C (rc := (RX0, TX0, 15)) (q0 := 0) (ci := 0) (ws' := wN G qn x7) (wr := []) (c_X0_moveToWires hx7) gX0_rewrite_X0_moveToWires rfl ⟨rfl, rfl⟩ hdX0_moveToWires ⟨(Nat.le_of_ble_eq_true rfl), (Nat.le_of_ble_eq_true rfl)⟩ rfl hP (dd_N hD) hS rfl rfl (List.Perm.refl _) (List.Perm.refl _) hl.1 (Nat.le_of_ble_eq_true rfl) ⟨Nat.zero_le _, Nat.zero_le _⟩ rfl dX0_rewrite_47 (fun H locs hP hS => ?_)
  refine lv_aload_n hx hb dX0_rewrite_50 rfl (lv_at hl 4 rfl) ?_
  refine lv_iload_n hx hb dX0_rewrite_51 rfl (lv_at hl 5 rfl) ?_
  obtain ⟨x8, hx8, hf⟩ := bd_some hf
  refine q_Vv C (rc := (RX0, TX0, 15)) (q0 := 0) (ci := 0) (ws' := wN G qn x8) (wr := []) (c_X0_free hx8) gX0_rewrite_X0_free rfl ⟨rfl, rfl⟩ hdX0_free ⟨(Nat.le_of_ble_eq_true rfl), (Nat.le_of_ble_eq_true rfl)⟩ rfl hP (dd_N hD) hS rfl rfl (List.Perm.refl _) (List.Perm.refl _) hl.1 (Nat.le_of_ble_eq_true rfl) ⟨Nat.zero_le _, Nat.zero_le _⟩ rfl dX0_rewrite_52 (fun H locs hP hS => ?_)
  refine lv_aload_n hx hb dX0_rewrite_55 rfl (lv_at hl 4 rfl) ?_
  refine lv_iload_n hx hb dX0_rewrite_56 rfl (lv_at hl 3 rfl) ?_
  obtain ⟨x9, hx9, hf⟩ := bd_some hf
  refine q_Vv C (rc := (RX0, TX0, 15)) (q0 := 0) (ci := 0) (ws' := wN G qn x9) (wr := []) (c_X0_free hx9) gX0_rewrite_X0_free rfl ⟨rfl, rfl⟩ hdX0_free ⟨(Nat.le_of_ble_eq_true rfl), (Nat.le_of_ble_eq_true rfl)⟩ rfl hP (dd_N hD) hS rfl rfl (List.Perm.refl _) (List.Perm.refl _) hl.1 (Nat.le_of_ble_eq_true rfl) ⟨Nat.zero_le _, Nat.zero_le _⟩ rfl dX0_rewrite_57 (fun H locs hP hS => ?_)
  refine lv_iload hx hb dX0_rewrite_60 (lv_at hl 1 rfl) ?_
  refine lv_iload hx hb dX0_rewrite_62 (lv_at hl 0 rfl) ?_
  refine lv_icmp_ne (tgt := 95) hx hb dX0_rewrite_64 (by decide) (fun c10 => ?_) (fun c10 => ?_)
  · have hf := if_f c10 hf
    refine lv_iload_n hx hb dX0_rewrite_95 rfl (lv_at hl 2 rfl) ?_
    refine lv_iconst (v := 5) hx hb dX0_rewrite_96 (by decide) ?_
    refine lv_icmp_ne (tgt := 137) hx hb dX0_rewrite_97 (by decide) (fun c11 => ?_) (fun c11 => ?_)
    · have hf := if_f c11 hf
      refine lv_aload_n hx hb dX0_rewrite_137 rfl (lv_at hl 4 rfl) ?_
      refine lv_iload hx hb dX0_rewrite_138 (lv_at hl 1 rfl) ?_
      refine lv_if_ne (tgt := 149) hx hb dX0_rewrite_140 (by decide) (fun c12 => ?_) (fun c12 => ?_)
      · have hf := if_f c12 hf
        refine lv_sipush (v := 1016) hx hb dX0_rewrite_149 (by decide) ?_
        exact t_X0_rewrite_152 C hD hf hP hS (lv_sub hl [4, 2] rfl)
      · have hf := if_t c12 hf
        refine lv_sipush (v := 1018) hx hb dX0_rewrite_143 (by decide) ?_
        refine lv_goto (tgt := 152) hx hb dX0_rewrite_146 (by decide) ?_
        exact t_X0_rewrite_152 C hD hf hP hS (lv_sub hl [4, 2] rfl)
    · have hf := if_t c11 hf
      refine lv_aload_n hx hb dX0_rewrite_100 rfl (lv_at hl 4 rfl) ?_
      refine lv_iload hx hb dX0_rewrite_101 (lv_at hl 1 rfl) ?_
      refine lv_iconst (v := 1) hx hb dX0_rewrite_103 (by decide) ?_
      refine lv_icmp_ne (tgt := 113) hx hb dX0_rewrite_104 (by decide) (fun c13 => ?_) (fun c13 => ?_)
      · have hf := if_f c13 hf
        refine lv_sipush (v := 1018) hx hb dX0_rewrite_113 (by decide) ?_
        exact t_X0_rewrite_116 C hD hf hP hS (lv_sub hl [4, 2, 1] rfl)
      · have hf := if_t c13 hf
        refine lv_sipush (v := 1016) hx hb dX0_rewrite_107 (by decide) ?_
        refine lv_goto (tgt := 116) hx hb dX0_rewrite_110 (by decide) ?_
        exact t_X0_rewrite_116 C hD hf hP hS (lv_sub hl [4, 2, 1] rfl)
  · have hf := if_t c10 hf
    refine lv_iload hx hb dX0_rewrite_67 (lv_at hl 1 rfl) ?_
    refine lv_if_eq (tgt := 155) hx hb dX0_rewrite_69 (by decide) (fun c14 => ?_) (fun c14 => ?_)
    · have hf := if_t c14 hf
      exact t_X0_rewrite_155 C hD hf hP hS (lv_sub hl [4, 2] rfl)
    · have hf := if_f c14 hf
      refine lv_aload_n hx hb dX0_rewrite_72 rfl (lv_at hl 4 rfl) ?_
      refine lv_sipush (v := 1016) hx hb dX0_rewrite_73 (by decide) ?_
      refine lv_sipush (v := 1018) hx hb dX0_rewrite_76 (by decide) ?_
      obtain ⟨x15, hx15, hf⟩ := bd_some hf
      refine q_Vv C (rc := (RX0, TX0, 15)) (q0 := 0) (ci := 0) (ws' := wN G qn x15) (wr := []) (c_X0_splice hx15) gX0_rewrite_X0_splice rfl ⟨rfl, rfl⟩ hdX0_splice ⟨(Nat.le_of_ble_eq_true rfl), (Nat.le_of_ble_eq_true rfl)⟩ rfl hP (dd_N hD) hS rfl rfl (List.Perm.refl _) (List.Perm.refl _) hl.1 (Nat.le_of_ble_eq_true rfl) ⟨Nat.zero_le _, Nat.zero_le _⟩ rfl dX0_rewrite_79 (fun H locs hP hS => ?_)
      refine lv_aload_n hx hb dX0_rewrite_82 rfl (lv_at hl 4 rfl) ?_
      refine lv_sipush (v := 1017) hx hb dX0_rewrite_83 (by decide) ?_
      refine lv_sipush (v := 1019) hx hb dX0_rewrite_86 (by decide) ?_
      obtain ⟨x16, hx16, hf⟩ := bd_some hf
      refine q_Vv C (rc := (RX0, TX0, 15)) (q0 := 0) (ci := 0) (ws' := wN G qn x16) (wr := []) (c_X0_splice hx16) gX0_rewrite_X0_splice rfl ⟨rfl, rfl⟩ hdX0_splice ⟨(Nat.le_of_ble_eq_true rfl), (Nat.le_of_ble_eq_true rfl)⟩ rfl hP (dd_N hD) hS rfl rfl (List.Perm.refl _) (List.Perm.refl _) hl.1 (Nat.le_of_ble_eq_true rfl) ⟨Nat.zero_le _, Nat.zero_le _⟩ rfl dX0_rewrite_89 (fun H locs hP hS => ?_)
      refine lv_goto (tgt := 155) hx hb dX0_rewrite_92 (by decide) ?_
      exact t_X0_rewrite_155 C hD hf hP hS (lv_sub hl [4, 2] rfl)

-- X0_goOn
theorem hiX0_goOn_X0 : ∀ w ∈ u_ws RX0 TX0 15, w ∈ wsX0_goOn := mem_run (i := 128) (by decide +kernel)
theorem wdX0_goOn_1 : (Cond.fieldLink RX0 59 "CombinatorRing$Net" "nodes" "I") ∈ wsX0_goOn := List.mem_of_getElem? (i := 1) rfl
theorem wdX0_goOn_2 : (Cond.fieldLink RX0 80 "CombinatorRing$Net" "peak" "I") ∈ wsX0_goOn := List.mem_of_getElem? (i := 2) rfl
theorem wdX0_goOn_4 : (Cond.fieldLink RX0 24 "CombinatorRing$Net" "pairs" "LCombinatorRing$Pairs;") ∈ wsX0_goOn := List.mem_of_getElem? (i := 4) rfl
theorem wdX0_goOn_5 : (Cond.methodLink RX0 31 Lib.Math.max.name) ∈ wsX0_goOn := List.mem_of_getElem? (i := 5) rfl
theorem wdX0_goOn_6 : (Cond.static Lib.Math.max.name) ∈ wsX0_goOn := List.mem_of_getElem? (i := 6) rfl
theorem wdX0_goOn_7 : (Cond.initialized "java/lang/Math") ∈ wsX0_goOn := List.mem_of_getElem? (i := 7) rfl
theorem wdX0_goOn_8 : (Cond.code Lib.Math.max.name Lib.Math.max.code 2 (some .int)) ∈ wsX0_goOn := List.mem_of_getElem? (i := 8) rfl
theorem wdX0_goOn_3 : (Cond.constant RX0 171 (1103515245)) ∈ wsX0_goOn := List.mem_of_getElem? (i := 3) rfl
def n_goOn_14 : Nat → NSt → Int32 → Int32 → Int32 → Int32 → Option (Int32 × NSt)
  | 0, _, _, _, _, _ => none
  | n + 1, sn, v1, v2, v4, v5 => if v2 ≤ v5 then some (v2, sn) else bd (n_readyPairs sn) fun x3 => if 0 < x3 then if v1 = 1 then if v1 = 2 then nm (((1103515245 * v4) + 12345)) fun y22 => gn x3 (nm (((y22.toUInt32 >>> ((16 : Int32).toUInt32 &&& Int32.toUInt32 31)).toInt32 - (y22.toUInt32 >>> ((16 : Int32).toUInt32 &&& Int32.toUInt32 31)).toInt32 / x3 * x3)) fun y23 => bd (n_hasRoom sn 2) fun x24 => bd (p_at (np sn) y23 x24) fun x25 => bd (n_rewrite sn x25) fun x26 => nm (nsI x26.2 14 (if (ni x26.2 14) < (ni x26.2 7) then (ni x26.2 7) else (ni x26.2 14))) fun s27 => n_goOn_14 n s27 v1 v2 y22 (v5 + 1)) else bd (n_hasRoom sn 2) fun x18 => bd (p_at (np sn) (x3 - 1) x18) fun x19 => bd (n_rewrite sn x19) fun x20 => nm (nsI x20.2 14 (if (ni x20.2 14) < (ni x20.2 7) then (ni x20.2 7) else (ni x20.2 14))) fun s21 => n_goOn_14 n s21 v1 v2 v4 (v5 + 1) else if v1 = 2 then nm (((1103515245 * v4) + 12345)) fun y11 => gn x3 (nm (((y11.toUInt32 >>> ((16 : Int32).toUInt32 &&& Int32.toUInt32 31)).toInt32 - (y11.toUInt32 >>> ((16 : Int32).toUInt32 &&& Int32.toUInt32 31)).toInt32 / x3 * x3)) fun y12 => bd (n_hasRoom sn 2) fun x13 => bd (p_at (np sn) y12 x13) fun x14 => bd (n_rewrite sn x14) fun x15 => nm (nsI x15.2 14 (if (ni x15.2 14) < (ni x15.2 7) then (ni x15.2 7) else (ni x15.2 14))) fun s16 => n_goOn_14 n s16 v1 v2 y11 (v5 + 1)) else bd (n_hasRoom sn 2) fun x7 => bd (p_at (np sn) 0 x7) fun x8 => bd (n_rewrite sn x8) fun x9 => nm (nsI x9.2 14 (if (ni x9.2 14) < (ni x9.2 7) then (ni x9.2 7) else (ni x9.2 14))) fun s10 => n_goOn_14 n s10 v1 v2 v4 (v5 + 1) else some (v5, sn)
def n_goOn (sn : NSt) (a1 : Int32) (a2 : Int32) (a3 : Int32) : Option (Int32 × NSt) := nm (nsI sn 14 (ni sn 7)) fun s1 => n_goOn_14 20000 s1 a1 a2 a3 0
abbrev rmX0_goOn : Room := { frames := 5, cells := 0, slots := 0, locals := 119 }
theorem hdX0_goOn : yX0_goOn.cls = RX0 ∧ yX0_goOn.cls ≠ "java/lang/invoke/MethodHandle" ∧ yX0_goOn.cls ≠ "java/lang/invoke/VarHandle" ∧ (parseMethodDescriptor yX0_goOn.desc).map (fun d => d.parameters.length) = some 3 := by decide +kernel
set_option maxHeartbeats 4000000 in
set_option maxRecDepth 100000 in
theorem t_X0_goOn_14 {p : Program} {l : Launch} {e : Env} {s : State} {m : MethodId} {args : Array Value} {below : List Frame} {meth : Method} {c : Code} {A : Nat → Prop} {G : Gx} {qn : Nat → Nat} {sn0 : NSt} (C : Cx p s m args meth c G cX0_goOn wsX0_goOn RX0 (some .int) 8 A) (hD : va_D A (wN G qn sn0)) :
    ∀ {n : Nat} {sn : NSt} {v1 : Int32} {v2 : Int32} {v4 : Int32} {v5 : Int32} {x : Int32 × NSt}, n_goOn_14 n sn v1 v2 v4 v5 = some x → ∀ {H : Heap} {locs : List Loc} {ls : Array Slot}, va_P G.1 vwCl (wN G qn sn) H → va_S A s.heap H locs → lv_has ls 8 [(0, .ref (qn 15)), (1, .int v1), (2, .int v2), (4, .int v4), (5, .int v5)] → W p l e rmX0_goOn s m args below meth c H locs 0 0 (MQ below (qE G A (wN G qn x.2) (some (.int x.1))) args s 0 0 A) (F0 m 14 ls []) := by
  have hx := C.1
  have hb := C.2.1
  intro n
  induction n with
  | zero => intro sn v1 v2 v4 v5 x hf; cases hf
  | succ n ih =>
    intro sn v1 v2 v4 v5 x hf H locs ls hP hS hl
    rw [n_goOn_14] at hf
    refine lv_iload hx hb dX0_goOn_14 (lv_at hl 4 rfl) ?_
    refine lv_iload_n hx hb dX0_goOn_16 rfl (lv_at hl 2 rfl) ?_
    refine lv_icmp_ge (tgt := 115) hx hb dX0_goOn_17 (by decide) (fun c2 => ?_) (fun c2 => ?_)
    · have hf := if_t c2 hf
      refine lv_iload_n hx hb dX0_goOn_115 rfl (lv_at hl 2 rfl) ?_
      cases hf
      exact q_iret C hP hS rfl dX0_goOn_116
    · have hf := if_f c2 hf
      refine lv_aload_n hx hb dX0_goOn_20 rfl (lv_at hl 0 rfl) ?_
      obtain ⟨x3, hx3, hf⟩ := bd_some hf
      refine q_Vi C (rc := (RX0, TX0, 15)) (q0 := 0) (ci := 0) (ws' := wN G qn sn) (wr := []) (c_X0_readyPairs hx3) gX0_goOn_X0_readyPairs rfl ⟨rfl, rfl⟩ hdX0_readyPairs ⟨(Nat.le_of_ble_eq_true rfl), (Nat.le_of_ble_eq_true rfl)⟩ rfl hP (dd_N hD) hS rfl rfl (List.Perm.refl _) (List.Perm.refl _) hl.1 (Nat.le_of_ble_eq_true rfl) ⟨Nat.zero_le _, Nat.zero_le _⟩ rfl dX0_goOn_21 (fun H locs hP hS => ?_)
      refine lv_istore (lv' := [(6, .int x3), (0, .ref (qn 15)), (1, .int v1), (2, .int v2), (4, .int v4), (5, .int v5)]) hx hb dX0_goOn_24 hl (by decide) rfl (fun ls hl => ?_)
      refine lv_iload hx hb dX0_goOn_26 (lv_at hl 0 rfl) ?_
      refine lv_if_gt (tgt := 34) hx hb dX0_goOn_28 (by decide) (fun c4 => ?_) (fun c4 => ?_)
      · have hf := if_t c4 hf
        refine lv_iload_n hx hb dX0_goOn_34 rfl (lv_at hl 2 rfl) ?_
        refine lv_iconst (v := 1) hx hb dX0_goOn_35 (by decide) ?_
        refine lv_icmp_ne (tgt := 46) hx hb dX0_goOn_36 (by decide) (fun c5 => ?_) (fun c5 => ?_)
        · have hf := if_f c5 hf
          refine lv_iconst (v := 0) hx hb dX0_goOn_46 (by decide) ?_
          refine lv_istore (lv' := [(7, .int 0), (6, .int x3), (0, .ref (qn 15)), (1, .int v1), (2, .int v2), (4, .int v4), (5, .int v5)]) hx hb dX0_goOn_47 hl (by decide) rfl (fun ls hl => ?_)
          refine lv_iload_n hx hb dX0_goOn_49 rfl (lv_at hl 3 rfl) ?_
          refine lv_iconst (v := 2) hx hb dX0_goOn_50 (by decide) ?_
          refine lv_icmp_ne (tgt := 75) hx hb dX0_goOn_51 (by decide) (fun c6 => ?_) (fun c6 => ?_)
          · have hf := if_f c6 hf
            refine lv_aload_n hx hb dX0_goOn_75 rfl (lv_at hl 2 rfl) ?_
            refine lv_aload_n hx hb dX0_goOn_76 rfl (lv_at hl 2 rfl) ?_
            refine q_get C hP (q0 := 0) rfl rfl hiX0_goOn_X0 4 (by decide) wdX0_goOn_4 rfl dX0_goOn_77 ?_
            refine lv_iload hx hb dX0_goOn_80 (lv_at hl 0 rfl) ?_
            refine lv_aload_n hx hb dX0_goOn_82 rfl (lv_at hl 2 rfl) ?_
            refine lv_iconst (v := 2) hx hb dX0_goOn_83 (by decide) ?_
            obtain ⟨x7, hx7, hf⟩ := bd_some hf
            refine q_Vi C (rc := (RX0, TX0, 15)) (q0 := 0) (ci := 0) (ws' := wN G qn sn) (wr := []) (c_X0_hasRoom hx7) gX0_goOn_X0_hasRoom rfl ⟨rfl, rfl⟩ hdX0_hasRoom ⟨(Nat.le_of_ble_eq_true rfl), (Nat.le_of_ble_eq_true rfl)⟩ rfl hP (dd_N hD) hS rfl rfl (List.Perm.refl _) (List.Perm.refl _) hl.1 (Nat.le_of_ble_eq_true rfl) ⟨Nat.zero_le _, Nat.zero_le _⟩ rfl dX0_goOn_84 (fun H locs hP hS => ?_)
            obtain ⟨x8, hx8, hf⟩ := bd_some hf
            refine q_Vi C (rc := (RX1, TX1, 2)) (q0 := 5) (ci := 1) (ws' := wN G qn sn) (c_X1_at (qp := qPp qn) hx8) gX0_goOn_X1_at rfl ⟨rfl, rfl⟩ hdX1_at ⟨(Nat.le_of_ble_eq_true rfl), (Nat.le_of_ble_eq_true rfl)⟩ rfl hP (dd_N hD) hS rfl rfl pm_NP1 pm_NP1' hl.1 (Nat.le_of_ble_eq_true rfl) ⟨Nat.zero_le _, Nat.zero_le _⟩ rfl dX0_goOn_87 (fun H locs hP hS => ?_)
            obtain ⟨x9, hx9, hf⟩ := bd_some hf
            refine q_Vi C (rc := (RX0, TX0, 15)) (q0 := 0) (ci := 0) (ws' := wN G qn x9.2) (wr := []) (c_X0_rewrite hx9) gX0_goOn_X0_rewrite rfl ⟨rfl, rfl⟩ hdX0_rewrite ⟨(Nat.le_of_ble_eq_true rfl), (Nat.le_of_ble_eq_true rfl)⟩ rfl hP (dd_N hD) hS rfl rfl (List.Perm.refl _) (List.Perm.refl _) hl.1 (Nat.le_of_ble_eq_true rfl) ⟨Nat.zero_le _, Nat.zero_le _⟩ rfl dX0_goOn_90 (fun H locs hP hS => ?_)
            refine lv_pop hx hb dX0_goOn_93 rfl ?_
            refine lv_aload_n hx hb dX0_goOn_94 rfl (lv_at hl 2 rfl) ?_
            refine lv_aload_n hx hb dX0_goOn_95 rfl (lv_at hl 2 rfl) ?_
            refine q_get C hP (q0 := 0) rfl rfl hiX0_goOn_X0 14 (by decide) wdX0_goOn_2 rfl dX0_goOn_96 ?_
            refine lv_aload_n hx hb dX0_goOn_99 rfl (lv_at hl 2 rfl) ?_
            refine q_get C hP (q0 := 0) rfl rfl hiX0_goOn_X0 7 (by decide) wdX0_goOn_1 rfl dX0_goOn_100 ?_
            refine va_mmax hx hb (C.2.2.1.trans hl.1.symm) C.2.2.2.1 (C.2.2.2.2.1 _ wdX0_goOn_5) (C.2.2.2.2.1 _ wdX0_goOn_6) (C.2.2.2.2.1 _ wdX0_goOn_7) (C.2.2.2.2.1 _ wdX0_goOn_8) (Nat.le_of_ble_eq_true rfl) (Nat.le_of_ble_eq_true rfl) (Nat.le_of_ble_eq_true rfl) (Nat.le_of_ble_eq_true rfl) dX0_goOn_103 ?_
            obtain ⟨s10, es10, hf⟩ := nm_ex hf
            refine q_put C hP (dd_N hD) hS (q0 := 0) rfl rfl hiX0_goOn_X0 tyX0_ok nmX0 14 (by decide) wdX0_goOn_2 rfl rfl rfl (Nat.le_of_ble_eq_true rfl) rfl dX0_goOn_106 (fun H locs hP hS => ?_)
            have hP : va_P G.1 vwCl (wN G qn s10) H := by rw [← es10]; exact hP
            refine lv_iinc (v := (v5 + 1)) (lv' := [(5, .int (v5 + 1)), (7, .int 0), (6, .int x3), (0, .ref (qn 15)), (1, .int v1), (2, .int v2), (4, .int v4)]) hx hb dX0_goOn_109 hl (k := 6) rfl rfl (by decide) rfl (fun ls hl => ?_)
            refine lv_goto (tgt := 14) hx hb dX0_goOn_112 (by decide) ?_
            exact ih hf hP hS (lv_sub hl [3, 4, 5, 6, 0] rfl)
          · have hf := if_t c6 hf
            refine lv_ldc (v := 1103515245) hx hb C.2.2.2.1 (C.2.2.2.2.1 _ wdX0_goOn_3) dX0_goOn_54 ?_
            refine lv_iload hx hb dX0_goOn_56 (lv_at hl 5 rfl) ?_
            refine lv_imul hx hb dX0_goOn_58 ?_
            refine lv_sipush (v := 12345) hx hb dX0_goOn_59 (by decide) ?_
            refine lv_iadd hx hb dX0_goOn_62 ?_
            obtain ⟨y11, ey11, hf⟩ := nm_ex hf
            refine lv_tI ey11 ?_
            refine lv_istore (lv' := [(4, .int y11), (7, .int 0), (6, .int x3), (0, .ref (qn 15)), (1, .int v1), (2, .int v2), (5, .int v5)]) hx hb dX0_goOn_63 hl (by decide) rfl (fun ls hl => ?_)
            refine lv_iload hx hb dX0_goOn_65 (lv_at hl 0 rfl) ?_
            refine lv_bipush (v := 16) hx hb dX0_goOn_67 (by decide) ?_
            refine lv_iushr hx hb dX0_goOn_69 rfl ?_
            refine lv_iload hx hb dX0_goOn_70 (lv_at hl 2 rfl) ?_
            obtain ⟨hne, hf⟩ := gn_some hf
            refine lv_irem hx hb dX0_goOn_72 hne ?_
            obtain ⟨y12, ey12, hf⟩ := nm_ex hf
            refine lv_tI ey12 ?_
            refine lv_istore (lv' := [(7, .int y12), (4, .int y11), (6, .int x3), (0, .ref (qn 15)), (1, .int v1), (2, .int v2), (5, .int v5)]) hx hb dX0_goOn_73 hl (by decide) rfl (fun ls hl => ?_)
            refine lv_aload_n hx hb dX0_goOn_75 rfl (lv_at hl 3 rfl) ?_
            refine lv_aload_n hx hb dX0_goOn_76 rfl (lv_at hl 3 rfl) ?_
            refine q_get C hP (q0 := 0) rfl rfl hiX0_goOn_X0 4 (by decide) wdX0_goOn_4 rfl dX0_goOn_77 ?_
            refine lv_iload hx hb dX0_goOn_80 (lv_at hl 0 rfl) ?_
            refine lv_aload_n hx hb dX0_goOn_82 rfl (lv_at hl 3 rfl) ?_
            refine lv_iconst (v := 2) hx hb dX0_goOn_83 (by decide) ?_
            obtain ⟨x13, hx13, hf⟩ := bd_some hf
            refine q_Vi C (rc := (RX0, TX0, 15)) (q0 := 0) (ci := 0) (ws' := wN G qn sn) (wr := []) (c_X0_hasRoom hx13) gX0_goOn_X0_hasRoom rfl ⟨rfl, rfl⟩ hdX0_hasRoom ⟨(Nat.le_of_ble_eq_true rfl), (Nat.le_of_ble_eq_true rfl)⟩ rfl hP (dd_N hD) hS rfl rfl (List.Perm.refl _) (List.Perm.refl _) hl.1 (Nat.le_of_ble_eq_true rfl) ⟨Nat.zero_le _, Nat.zero_le _⟩ rfl dX0_goOn_84 (fun H locs hP hS => ?_)
            obtain ⟨x14, hx14, hf⟩ := bd_some hf
            refine q_Vi C (rc := (RX1, TX1, 2)) (q0 := 5) (ci := 1) (ws' := wN G qn sn) (c_X1_at (qp := qPp qn) hx14) gX0_goOn_X1_at rfl ⟨rfl, rfl⟩ hdX1_at ⟨(Nat.le_of_ble_eq_true rfl), (Nat.le_of_ble_eq_true rfl)⟩ rfl hP (dd_N hD) hS rfl rfl pm_NP1 pm_NP1' hl.1 (Nat.le_of_ble_eq_true rfl) ⟨Nat.zero_le _, Nat.zero_le _⟩ rfl dX0_goOn_87 (fun H locs hP hS => ?_)
            obtain ⟨x15, hx15, hf⟩ := bd_some hf
            refine q_Vi C (rc := (RX0, TX0, 15)) (q0 := 0) (ci := 0) (ws' := wN G qn x15.2) (wr := []) (c_X0_rewrite hx15) gX0_goOn_X0_rewrite rfl ⟨rfl, rfl⟩ hdX0_rewrite ⟨(Nat.le_of_ble_eq_true rfl), (Nat.le_of_ble_eq_true rfl)⟩ rfl hP (dd_N hD) hS rfl rfl (List.Perm.refl _) (List.Perm.refl _) hl.1 (Nat.le_of_ble_eq_true rfl) ⟨Nat.zero_le _, Nat.zero_le _⟩ rfl dX0_goOn_90 (fun H locs hP hS => ?_)
            refine lv_pop hx hb dX0_goOn_93 rfl ?_
            refine lv_aload_n hx hb dX0_goOn_94 rfl (lv_at hl 3 rfl) ?_
            refine lv_aload_n hx hb dX0_goOn_95 rfl (lv_at hl 3 rfl) ?_
            refine q_get C hP (q0 := 0) rfl rfl hiX0_goOn_X0 14 (by decide) wdX0_goOn_2 rfl dX0_goOn_96 ?_
            refine lv_aload_n hx hb dX0_goOn_99 rfl (lv_at hl 3 rfl) ?_
            refine q_get C hP (q0 := 0) rfl rfl hiX0_goOn_X0 7 (by decide) wdX0_goOn_1 rfl dX0_goOn_100 ?_
            refine va_mmax hx hb (C.2.2.1.trans hl.1.symm) C.2.2.2.1 (C.2.2.2.2.1 _ wdX0_goOn_5) (C.2.2.2.2.1 _ wdX0_goOn_6) (C.2.2.2.2.1 _ wdX0_goOn_7) (C.2.2.2.2.1 _ wdX0_goOn_8) (Nat.le_of_ble_eq_true rfl) (Nat.le_of_ble_eq_true rfl) (Nat.le_of_ble_eq_true rfl) (Nat.le_of_ble_eq_true rfl) dX0_goOn_103 ?_
            obtain ⟨s16, es16, hf⟩ := nm_ex hf
            refine q_put C hP (dd_N hD) hS (q0 := 0) rfl rfl hiX0_goOn_X0 tyX0_ok nmX0 14 (by decide) wdX0_goOn_2 rfl rfl rfl (Nat.le_of_ble_eq_true rfl) rfl dX0_goOn_106 (fun H locs hP hS => ?_)
            have hP : va_P G.1 vwCl (wN G qn s16) H := by rw [← es16]; exact hP
            refine lv_iinc (v := (v5 + 1)) (lv' := [(5, .int (v5 + 1)), (7, .int y12), (4, .int y11), (6, .int x3), (0, .ref (qn 15)), (1, .int v1), (2, .int v2)]) hx hb dX0_goOn_109 hl (k := 6) rfl rfl (by decide) rfl (fun ls hl => ?_)
            refine lv_goto (tgt := 14) hx hb dX0_goOn_112 (by decide) ?_
            exact ih hf hP hS (lv_sub hl [4, 5, 6, 2, 0] rfl)
        · have hf := if_t c5 hf
          refine lv_iload hx hb dX0_goOn_39 (lv_at hl 0 rfl) ?_
          refine lv_iconst (v := 1) hx hb dX0_goOn_41 (by decide) ?_
          refine lv_isub hx hb dX0_goOn_42 ?_
          refine lv_goto (tgt := 47) hx hb dX0_goOn_43 (by decide) ?_
          refine lv_istore (lv' := [(7, .int (x3 - 1)), (6, .int x3), (0, .ref (qn 15)), (1, .int v1), (2, .int v2), (4, .int v4), (5, .int v5)]) hx hb dX0_goOn_47 hl (by decide) rfl (fun ls hl => ?_)
          refine lv_iload_n hx hb dX0_goOn_49 rfl (lv_at hl 3 rfl) ?_
          refine lv_iconst (v := 2) hx hb dX0_goOn_50 (by decide) ?_
          refine lv_icmp_ne (tgt := 75) hx hb dX0_goOn_51 (by decide) (fun c17 => ?_) (fun c17 => ?_)
          · have hf := if_f c17 hf
            refine lv_aload_n hx hb dX0_goOn_75 rfl (lv_at hl 2 rfl) ?_
            refine lv_aload_n hx hb dX0_goOn_76 rfl (lv_at hl 2 rfl) ?_
            refine q_get C hP (q0 := 0) rfl rfl hiX0_goOn_X0 4 (by decide) wdX0_goOn_4 rfl dX0_goOn_77 ?_
            refine lv_iload hx hb dX0_goOn_80 (lv_at hl 0 rfl) ?_
            refine lv_aload_n hx hb dX0_goOn_82 rfl (lv_at hl 2 rfl) ?_
            refine lv_iconst (v := 2) hx hb dX0_goOn_83 (by decide) ?_
            obtain ⟨x18, hx18, hf⟩ := bd_some hf
            refine q_Vi C (rc := (RX0, TX0, 15)) (q0 := 0) (ci := 0) (ws' := wN G qn sn) (wr := []) (c_X0_hasRoom hx18) gX0_goOn_X0_hasRoom rfl ⟨rfl, rfl⟩ hdX0_hasRoom ⟨(Nat.le_of_ble_eq_true rfl), (Nat.le_of_ble_eq_true rfl)⟩ rfl hP (dd_N hD) hS rfl rfl (List.Perm.refl _) (List.Perm.refl _) hl.1 (Nat.le_of_ble_eq_true rfl) ⟨Nat.zero_le _, Nat.zero_le _⟩ rfl dX0_goOn_84 (fun H locs hP hS => ?_)
            obtain ⟨x19, hx19, hf⟩ := bd_some hf
            refine q_Vi C (rc := (RX1, TX1, 2)) (q0 := 5) (ci := 1) (ws' := wN G qn sn) (c_X1_at (qp := qPp qn) hx19) gX0_goOn_X1_at rfl ⟨rfl, rfl⟩ hdX1_at ⟨(Nat.le_of_ble_eq_true rfl), (Nat.le_of_ble_eq_true rfl)⟩ rfl hP (dd_N hD) hS rfl rfl pm_NP1 pm_NP1' hl.1 (Nat.le_of_ble_eq_true rfl) ⟨Nat.zero_le _, Nat.zero_le _⟩ rfl dX0_goOn_87 (fun H locs hP hS => ?_)
            obtain ⟨x20, hx20, hf⟩ := bd_some hf
            refine q_Vi C (rc := (RX0, TX0, 15)) (q0 := 0) (ci := 0) (ws' := wN G qn x20.2) (wr := []) (c_X0_rewrite hx20) gX0_goOn_X0_rewrite rfl ⟨rfl, rfl⟩ hdX0_rewrite ⟨(Nat.le_of_ble_eq_true rfl), (Nat.le_of_ble_eq_true rfl)⟩ rfl hP (dd_N hD) hS rfl rfl (List.Perm.refl _) (List.Perm.refl _) hl.1 (Nat.le_of_ble_eq_true rfl) ⟨Nat.zero_le _, Nat.zero_le _⟩ rfl dX0_goOn_90 (fun H locs hP hS => ?_)
            refine lv_pop hx hb dX0_goOn_93 rfl ?_
            refine lv_aload_n hx hb dX0_goOn_94 rfl (lv_at hl 2 rfl) ?_
            refine lv_aload_n hx hb dX0_goOn_95 rfl (lv_at hl 2 rfl) ?_
            refine q_get C hP (q0 := 0) rfl rfl hiX0_goOn_X0 14 (by decide) wdX0_goOn_2 rfl dX0_goOn_96 ?_
            refine lv_aload_n hx hb dX0_goOn_99 rfl (lv_at hl 2 rfl) ?_
            refine q_get C hP (q0 := 0) rfl rfl hiX0_goOn_X0 7 (by decide) wdX0_goOn_1 rfl dX0_goOn_100 ?_
            refine va_mmax hx hb (C.2.2.1.trans hl.1.symm) C.2.2.2.1 (C.2.2.2.2.1 _ wdX0_goOn_5) (C.2.2.2.2.1 _ wdX0_goOn_6) (C.2.2.2.2.1 _ wdX0_goOn_7) (C.2.2.2.2.1 _ wdX0_goOn_8) (Nat.le_of_ble_eq_true rfl) (Nat.le_of_ble_eq_true rfl) (Nat.le_of_ble_eq_true rfl) (Nat.le_of_ble_eq_true rfl) dX0_goOn_103 ?_
            obtain ⟨s21, es21, hf⟩ := nm_ex hf
            refine q_put C hP (dd_N hD) hS (q0 := 0) rfl rfl hiX0_goOn_X0 tyX0_ok nmX0 14 (by decide) wdX0_goOn_2 rfl rfl rfl (Nat.le_of_ble_eq_true rfl) rfl dX0_goOn_106 (fun H locs hP hS => ?_)
            have hP : va_P G.1 vwCl (wN G qn s21) H := by rw [← es21]; exact hP
            refine lv_iinc (v := (v5 + 1)) (lv' := [(5, .int (v5 + 1)), (7, .int (x3 - 1)), (6, .int x3), (0, .ref (qn 15)), (1, .int v1), (2, .int v2), (4, .int v4)]) hx hb dX0_goOn_109 hl (k := 6) rfl rfl (by decide) rfl (fun ls hl => ?_)
            refine lv_goto (tgt := 14) hx hb dX0_goOn_112 (by decide) ?_
            exact ih hf hP hS (lv_sub hl [3, 4, 5, 6, 0] rfl)
          · have hf := if_t c17 hf
            refine lv_ldc (v := 1103515245) hx hb C.2.2.2.1 (C.2.2.2.2.1 _ wdX0_goOn_3) dX0_goOn_54 ?_
            refine lv_iload hx hb dX0_goOn_56 (lv_at hl 5 rfl) ?_
            refine lv_imul hx hb dX0_goOn_58 ?_
            refine lv_sipush (v := 12345) hx hb dX0_goOn_59 (by decide) ?_
            refine lv_iadd hx hb dX0_goOn_62 ?_
            obtain ⟨y22, ey22, hf⟩ := nm_ex hf
            refine lv_tI ey22 ?_
            refine lv_istore (lv' := [(4, .int y22), (7, .int (x3 - 1)), (6, .int x3), (0, .ref (qn 15)), (1, .int v1), (2, .int v2), (5, .int v5)]) hx hb dX0_goOn_63 hl (by decide) rfl (fun ls hl => ?_)
            refine lv_iload hx hb dX0_goOn_65 (lv_at hl 0 rfl) ?_
            refine lv_bipush (v := 16) hx hb dX0_goOn_67 (by decide) ?_
            refine lv_iushr hx hb dX0_goOn_69 rfl ?_
            refine lv_iload hx hb dX0_goOn_70 (lv_at hl 2 rfl) ?_
            obtain ⟨hne, hf⟩ := gn_some hf
            refine lv_irem hx hb dX0_goOn_72 hne ?_
            obtain ⟨y23, ey23, hf⟩ := nm_ex hf
            refine lv_tI ey23 ?_
            refine lv_istore (lv' := [(7, .int y23), (4, .int y22), (6, .int x3), (0, .ref (qn 15)), (1, .int v1), (2, .int v2), (5, .int v5)]) hx hb dX0_goOn_73 hl (by decide) rfl (fun ls hl => ?_)
            refine lv_aload_n hx hb dX0_goOn_75 rfl (lv_at hl 3 rfl) ?_
            refine lv_aload_n hx hb dX0_goOn_76 rfl (lv_at hl 3 rfl) ?_
            refine q_get C hP (q0 := 0) rfl rfl hiX0_goOn_X0 4 (by decide) wdX0_goOn_4 rfl dX0_goOn_77 ?_
            refine lv_iload hx hb dX0_goOn_80 (lv_at hl 0 rfl) ?_
            refine lv_aload_n hx hb dX0_goOn_82 rfl (lv_at hl 3 rfl) ?_
            refine lv_iconst (v := 2) hx hb dX0_goOn_83 (by decide) ?_
            obtain ⟨x24, hx24, hf⟩ := bd_some hf
            refine q_Vi C (rc := (RX0, TX0, 15)) (q0 := 0) (ci := 0) (ws' := wN G qn sn) (wr := []) (c_X0_hasRoom hx24) gX0_goOn_X0_hasRoom rfl ⟨rfl, rfl⟩ hdX0_hasRoom ⟨(Nat.le_of_ble_eq_true rfl), (Nat.le_of_ble_eq_true rfl)⟩ rfl hP (dd_N hD) hS rfl rfl (List.Perm.refl _) (List.Perm.refl _) hl.1 (Nat.le_of_ble_eq_true rfl) ⟨Nat.zero_le _, Nat.zero_le _⟩ rfl dX0_goOn_84 (fun H locs hP hS => ?_)
            obtain ⟨x25, hx25, hf⟩ := bd_some hf
            refine q_Vi C (rc := (RX1, TX1, 2)) (q0 := 5) (ci := 1) (ws' := wN G qn sn) (c_X1_at (qp := qPp qn) hx25) gX0_goOn_X1_at rfl ⟨rfl, rfl⟩ hdX1_at ⟨(Nat.le_of_ble_eq_true rfl), (Nat.le_of_ble_eq_true rfl)⟩ rfl hP (dd_N hD) hS rfl rfl pm_NP1 pm_NP1' hl.1 (Nat.le_of_ble_eq_true rfl) ⟨Nat.zero_le _, Nat.zero_le _⟩ rfl dX0_goOn_87 (fun H locs hP hS => ?_)
            obtain ⟨x26, hx26, hf⟩ := bd_some hf
            refine q_Vi C (rc := (RX0, TX0, 15)) (q0 := 0) (ci := 0) (ws' := wN G qn x26.2) (wr := []) (c_X0_rewrite hx26) gX0_goOn_X0_rewrite rfl ⟨rfl, rfl⟩ hdX0_rewrite ⟨(Nat.le_of_ble_eq_true rfl), (Nat.le_of_ble_eq_true rfl)⟩ rfl hP (dd_N hD) hS rfl rfl (List.Perm.refl _) (List.Perm.refl _) hl.1 (Nat.le_of_ble_eq_true rfl) ⟨Nat.zero_le _, Nat.zero_le _⟩ rfl dX0_goOn_90 (fun H locs hP hS => ?_)
            refine lv_pop hx hb dX0_goOn_93 rfl ?_
            refine lv_aload_n hx hb dX0_goOn_94 rfl (lv_at hl 3 rfl) ?_
            refine lv_aload_n hx hb dX0_goOn_95 rfl (lv_at hl 3 rfl) ?_
            refine q_get C hP (q0 := 0) rfl rfl hiX0_goOn_X0 14 (by decide) wdX0_goOn_2 rfl dX0_goOn_96 ?_
            refine lv_aload_n hx hb dX0_goOn_99 rfl (lv_at hl 3 rfl) ?_
            refine q_get C hP (q0 := 0) rfl rfl hiX0_goOn_X0 7 (by decide) wdX0_goOn_1 rfl dX0_goOn_100 ?_
            refine va_mmax hx hb (C.2.2.1.trans hl.1.symm) C.2.2.2.1 (C.2.2.2.2.1 _ wdX0_goOn_5) (C.2.2.2.2.1 _ wdX0_goOn_6) (C.2.2.2.2.1 _ wdX0_goOn_7) (C.2.2.2.2.1 _ wdX0_goOn_8) (Nat.le_of_ble_eq_true rfl) (Nat.le_of_ble_eq_true rfl) (Nat.le_of_ble_eq_true rfl) (Nat.le_of_ble_eq_true rfl) dX0_goOn_103 ?_
            obtain ⟨s27, es27, hf⟩ := nm_ex hf
            refine q_put C hP (dd_N hD) hS (q0 := 0) rfl rfl hiX0_goOn_X0 tyX0_ok nmX0 14 (by decide) wdX0_goOn_2 rfl rfl rfl (Nat.le_of_ble_eq_true rfl) rfl dX0_goOn_106 (fun H locs hP hS => ?_)
            have hP : va_P G.1 vwCl (wN G qn s27) H := by rw [← es27]; exact hP
            refine lv_iinc (v := (v5 + 1)) (lv' := [(5, .int (v5 + 1)), (7, .int y23), (4, .int y22), (6, .int x3), (0, .ref (qn 15)), (1, .int v1), (2, .int v2)]) hx hb dX0_goOn_109 hl (k := 6) rfl rfl (by decide) rfl (fun ls hl => ?_)
            refine lv_goto (tgt := 14) hx hb dX0_goOn_112 (by decide) ?_
            exact ih hf hP hS (lv_sub hl [4, 5, 6, 2, 0] rfl)
      · have hf := if_f c4 hf
        refine lv_iload hx hb dX0_goOn_31 (lv_at hl 5 rfl) ?_
        cases hf
        exact q_iret C hP hS rfl dX0_goOn_33
set_option maxHeartbeats 4000000 in
set_option maxRecDepth 100000 in
theorem c_X0_goOn {l : Launch} {G : Gx} {qn : Nat → Nat} {sn : NSt} {a1 : Int32} {a2 : Int32} {a3 : Int32} {x : Int32 × NSt} (hf : n_goOn sn a1 a2 a3 = some x) : QM l G yX0_goOn wsX0_goOn rmX0_goOn [.ref (qn 15), .int a1, .int a2, .int a3] (wN G qn sn) (wN G qn x.2) (some (.int x.1)) := by
  refine QM.of (cc := cX0_goOn) (maxL := 8) (ret := (some .int)) (by decide) rfl (Nat.le_of_ble_eq_true rfl) ?_
  intro p e s m below meth c A ls C hD hP hS hl
  have hx := C.1
  have hb := C.2.1
  have hl : lv_has ls 8 [(0, .ref (qn 15)), (1, .int a1), (2, .int a2), (3, .int a3)] := hl
  unfold n_goOn at hf
  refine lv_iload_n hx hb dX0_goOn_0 rfl (lv_at hl 3 rfl) ?_
  refine lv_istore (lv' := [(4, .int a3), (0, .ref (qn 15)), (1, .int a1), (2, .int a2), (3, .int a3)]) hx hb dX0_goOn_1 hl (by decide) rfl (fun ls hl => ?_)
  refine lv_aload_n hx hb dX0_goOn_3 rfl (lv_at hl 1 rfl) ?_
  refine lv_aload_n hx hb dX0_goOn_4 rfl (lv_at hl 1 rfl) ?_
  refine q_get C hP (q0 := 0) rfl rfl hiX0_goOn_X0 7 (by decide) wdX0_goOn_1 rfl dX0_goOn_5 ?_
  obtain ⟨s1, es1, hf⟩ := nm_ex hf
  refine q_put C hP (dd_N hD) hS (q0 := 0) rfl rfl hiX0_goOn_X0 tyX0_ok nmX0 14 (by decide) wdX0_goOn_2 rfl rfl rfl (Nat.le_of_ble_eq_true rfl) rfl dX0_goOn_8 (fun H locs hP hS => ?_)
  have hP : va_P G.1 vwCl (wN G qn s1) H := by rw [← es1]; exact hP
  refine lv_iconst (v := 0) hx hb dX0_goOn_11 (by decide) ?_
  refine lv_istore (lv' := [(5, .int 0), (4, .int a3), (0, .ref (qn 15)), (1, .int a1), (2, .int a2), (3, .int a3)]) hx hb dX0_goOn_12 hl (by decide) rfl (fun ls hl => ?_)
  exact t_X0_goOn_14 C hD hf hP hS (lv_sub hl [2, 3, 4, 1, 0] rfl)

-- X0_goRound
theorem hiX0_goRound_X0 : ∀ w ∈ u_ws RX0 TX0 15, w ∈ wsX0_goRound := mem_run (i := 132) (by decide +kernel)
theorem wdX0_goRound_1 : (Cond.fieldLink RX0 28 "CombinatorRing$Net" "ahead" "LCombinatorRing$Pairs;") ∈ wsX0_goRound := List.mem_of_getElem? (i := 1) rfl
theorem wdX0_goRound_2 : (Cond.fieldLink RX0 24 "CombinatorRing$Net" "pairs" "LCombinatorRing$Pairs;") ∈ wsX0_goRound := List.mem_of_getElem? (i := 2) rfl
def n_goRound_24 : Nat → NSt → Int32 → Int32 → Int32 → Option (NSt × Int32)
  | 0, _, _, _, _ => none
  | n + 1, sn, v1, v2, v3 => if v1 ≤ v3 then some (sn, v2) else bd (p_at (nh sn) v3 1) fun x5 => bd (n_canGo sn x5) fun x6 => if x6 = 0 then n_goRound_24 n sn v1 v2 (v3 + 1) else bd (n_rewrite sn x5) fun x8 => n_goRound_24 n x8.2 v1 (v2 + 1) (v3 + 1)
def n_goRound (sn : NSt)  : Option (Int32 × NSt) := bd (p_become (nh sn) (np sn)) fun x1 => bd (p_size (nh (nsH sn x1)) 1) fun x2 => bd (n_goRound_24 20000 (nsH sn x1) x2 0 0) fun x3 => some (x3.2, x3.1)
abbrev rmX0_goRound : Room := { frames := 5, cells := 0, slots := 0, locals := 119 }
theorem hdX0_goRound : yX0_goRound.cls = RX0 ∧ yX0_goRound.cls ≠ "java/lang/invoke/MethodHandle" ∧ yX0_goRound.cls ≠ "java/lang/invoke/VarHandle" ∧ (parseMethodDescriptor yX0_goRound.desc).map (fun d => d.parameters.length) = some 0 := by decide +kernel
set_option maxHeartbeats 4000000 in
set_option maxRecDepth 100000 in
theorem t_X0_goRound_24 {p : Program} {l : Launch} {e : Env} {s : State} {m : MethodId} {args : Array Value} {below : List Frame} {meth : Method} {c : Code} {Q : State → Prop} {A : Nat → Prop} {G : Gx} {qn : Nat → Nat} {sn0 : NSt} (C : Cx p s m args meth c G cX0_goRound wsX0_goRound RX0 (some .int) 5 A) (hD : va_D A (wN G qn sn0)) :
    ∀ {n : Nat} {sn : NSt} {v1 : Int32} {v2 : Int32} {v3 : Int32} {x : NSt × Int32}, n_goRound_24 n sn v1 v2 v3 = some x → ∀ {H : Heap} {locs : List Loc} {ls : Array Slot}, va_P G.1 vwCl (wN G qn sn) H → va_S A s.heap H locs → lv_has ls 5 [(0, .ref (qn 15)), (1, .int v1), (2, .int v2), (3, .int v3)] → (∀ {H : Heap} {locs : List Loc} {ls : Array Slot}, va_P G.1 vwCl (wN G qn x.1) H → va_S A s.heap H locs → lv_has ls 5 [(2, .int x.2)] → W p l e rmX0_goRound s m args below meth c H locs 0 0 Q (F0 m 65 ls [])) → W p l e rmX0_goRound s m args below meth c H locs 0 0 Q (F0 m 24 ls []) := by
  have hx := C.1
  have hb := C.2.1
  intro n
  induction n with
  | zero => intro sn v1 v2 v3 x hf; cases hf
  | succ n ih =>
    intro sn v1 v2 v3 x hf H locs ls hP hS hl kk
    rw [n_goRound_24] at hf
    refine lv_iload_n hx hb dX0_goRound_24 rfl (lv_at hl 3 rfl) ?_
    refine lv_iload_n hx hb dX0_goRound_25 rfl (lv_at hl 1 rfl) ?_
    refine lv_icmp_ge (tgt := 65) hx hb dX0_goRound_26 (by decide) (fun c4 => ?_) (fun c4 => ?_)
    · have hf := if_t c4 hf
      cases hf
      exact kk hP hS (lv_sub hl [2] rfl)
    · have hf := if_f c4 hf
      refine lv_aload_n hx hb dX0_goRound_29 rfl (lv_at hl 0 rfl) ?_
      refine q_get C hP (q0 := 0) rfl rfl hiX0_goRound_X0 5 (by decide) wdX0_goRound_1 rfl dX0_goRound_30 ?_
      refine lv_iload_n hx hb dX0_goRound_33 rfl (lv_at hl 3 rfl) ?_
      refine lv_iconst (v := 1) hx hb dX0_goRound_34 (by decide) ?_
      obtain ⟨x5, hx5, hf⟩ := bd_some hf
      refine q_Vi C (rc := (RX1, TX1, 2)) (q0 := 8) (ci := 1) (ws' := wN G qn sn) (c_X1_at (qp := qPh qn) hx5) gX0_goRound_X1_at rfl ⟨rfl, rfl⟩ hdX1_at ⟨(Nat.le_of_ble_eq_true rfl), (Nat.le_of_ble_eq_true rfl)⟩ rfl hP (dd_N hD) hS rfl rfl pm_NP2 pm_NP2' hl.1 (Nat.le_of_ble_eq_true rfl) ⟨Nat.zero_le _, Nat.zero_le _⟩ rfl dX0_goRound_35 (fun H locs hP hS => ?_)
      refine lv_istore (lv' := [(4, .int x5), (0, .ref (qn 15)), (1, .int v1), (2, .int v2), (3, .int v3)]) hx hb dX0_goRound_38 hl (by decide) rfl (fun ls hl => ?_)
      refine lv_aload_n hx hb dX0_goRound_40 rfl (lv_at hl 1 rfl) ?_
      refine lv_iload hx hb dX0_goRound_41 (lv_at hl 0 rfl) ?_
      obtain ⟨x6, hx6, hf⟩ := bd_some hf
      refine q_Vi C (rc := (RX0, TX0, 15)) (q0 := 0) (ci := 0) (ws' := wN G qn sn) (wr := []) (c_X0_canGo hx6) gX0_goRound_X0_canGo rfl ⟨rfl, rfl⟩ hdX0_canGo ⟨(Nat.le_of_ble_eq_true rfl), (Nat.le_of_ble_eq_true rfl)⟩ rfl hP (dd_N hD) hS rfl rfl (List.Perm.refl _) (List.Perm.refl _) hl.1 (Nat.le_of_ble_eq_true rfl) ⟨Nat.zero_le _, Nat.zero_le _⟩ rfl dX0_goRound_43 (fun H locs hP hS => ?_)
      refine lv_if_eq (tgt := 59) hx hb dX0_goRound_46 (by decide) (fun c7 => ?_) (fun c7 => ?_)
      · have hf := if_t c7 hf
        refine lv_iinc (v := (v3 + 1)) (lv' := [(3, .int (v3 + 1)), (4, .int x5), (0, .ref (qn 15)), (1, .int v1), (2, .int v2)]) hx hb dX0_goRound_59 hl (k := 4) rfl rfl (by decide) rfl (fun ls hl => ?_)
        refine lv_goto (tgt := 24) hx hb dX0_goRound_62 (by decide) ?_
        exact ih hf hP hS (lv_sub hl [2, 3, 4, 0] rfl) kk
      · have hf := if_f c7 hf
        refine lv_aload_n hx hb dX0_goRound_49 rfl (lv_at hl 1 rfl) ?_
        refine lv_iload hx hb dX0_goRound_50 (lv_at hl 0 rfl) ?_
        obtain ⟨x8, hx8, hf⟩ := bd_some hf
        refine q_Vi C (rc := (RX0, TX0, 15)) (q0 := 0) (ci := 0) (ws' := wN G qn x8.2) (wr := []) (c_X0_rewrite hx8) gX0_goRound_X0_rewrite rfl ⟨rfl, rfl⟩ hdX0_rewrite ⟨(Nat.le_of_ble_eq_true rfl), (Nat.le_of_ble_eq_true rfl)⟩ rfl hP (dd_N hD) hS rfl rfl (List.Perm.refl _) (List.Perm.refl _) hl.1 (Nat.le_of_ble_eq_true rfl) ⟨Nat.zero_le _, Nat.zero_le _⟩ rfl dX0_goRound_52 (fun H locs hP hS => ?_)
        refine lv_pop hx hb dX0_goRound_55 rfl ?_
        refine lv_iinc (v := (v2 + 1)) (lv' := [(2, .int (v2 + 1)), (4, .int x5), (0, .ref (qn 15)), (1, .int v1), (3, .int v3)]) hx hb dX0_goRound_56 hl (k := 3) rfl rfl (by decide) rfl (fun ls hl => ?_)
        refine lv_iinc (v := (v3 + 1)) (lv' := [(3, .int (v3 + 1)), (2, .int (v2 + 1)), (4, .int x5), (0, .ref (qn 15)), (1, .int v1)]) hx hb dX0_goRound_59 hl (k := 4) rfl rfl (by decide) rfl (fun ls hl => ?_)
        refine lv_goto (tgt := 24) hx hb dX0_goRound_62 (by decide) ?_
        exact ih hf hP hS (lv_sub hl [3, 4, 1, 0] rfl) kk
set_option maxHeartbeats 4000000 in
set_option maxRecDepth 100000 in
theorem c_X0_goRound {l : Launch} {G : Gx} {qn : Nat → Nat} {sn : NSt}  {x : Int32 × NSt} (hf : n_goRound sn = some x) : QM l G yX0_goRound wsX0_goRound rmX0_goRound [.ref (qn 15)] (wN G qn sn) (wN G qn x.2) (some (.int x.1)) := by
  refine QM.of (cc := cX0_goRound) (maxL := 5) (ret := (some .int)) (by decide) rfl (Nat.le_of_ble_eq_true rfl) ?_
  intro p e s m below meth c A ls C hD hP hS hl
  have hx := C.1
  have hb := C.2.1
  have hl : lv_has ls 5 [(0, .ref (qn 15))] := hl
  unfold n_goRound at hf
  refine lv_aload_n hx hb dX0_goRound_0 rfl (lv_at hl 0 rfl) ?_
  refine q_get C hP (q0 := 0) rfl rfl hiX0_goRound_X0 5 (by decide) wdX0_goRound_1 rfl dX0_goRound_1 ?_
  refine lv_aload_n hx hb dX0_goRound_4 rfl (lv_at hl 0 rfl) ?_
  refine q_get C hP (q0 := 0) rfl rfl hiX0_goRound_X0 4 (by decide) wdX0_goRound_2 rfl dX0_goRound_5 ?_
  obtain ⟨x1, hx1, hf⟩ := bd_some hf
  refine q_Vv C (rc := (RX1, TX1, 2)) (q0 := 8) (ci := 1) (ws' := wN G qn (nsH sn x1)) (c_X1_become (qp := qPh qn) (qp2 := qPp qn) hx1) gX0_goRound_X1_become rfl ⟨rfl, rfl⟩ hdX1_become ⟨(Nat.le_of_ble_eq_true rfl), (Nat.le_of_ble_eq_true rfl)⟩ rfl hP (dd_N hD) hS rfl rfl pm_NPP pm_NPP' hl.1 (Nat.le_of_ble_eq_true rfl) ⟨Nat.zero_le _, Nat.zero_le _⟩ rfl dX0_goRound_8 (fun H locs hP hS => ?_)
  refine lv_aload_n hx hb dX0_goRound_11 rfl (lv_at hl 0 rfl) ?_
  refine q_get C hP (q0 := 0) rfl rfl hiX0_goRound_X0 5 (by decide) wdX0_goRound_1 rfl dX0_goRound_12 ?_
  refine lv_iconst (v := 1) hx hb dX0_goRound_15 (by decide) ?_
  obtain ⟨x2, hx2, hf⟩ := bd_some hf
  refine q_Vi C (rc := (RX1, TX1, 2)) (q0 := 8) (ci := 1) (ws' := wN G qn (nsH sn x1)) (c_X1_size (qp := qPh qn) hx2) gX0_goRound_X1_size rfl ⟨rfl, rfl⟩ hdX1_size ⟨(Nat.le_of_ble_eq_true rfl), (Nat.le_of_ble_eq_true rfl)⟩ rfl hP (dd_N hD) hS rfl rfl pm_NP2 pm_NP2' hl.1 (Nat.le_of_ble_eq_true rfl) ⟨Nat.zero_le _, Nat.zero_le _⟩ rfl dX0_goRound_16 (fun H locs hP hS => ?_)
  refine lv_istore_n (lv' := [(1, .int x2), (0, .ref (qn 15))]) hx hb dX0_goRound_19 rfl hl (by decide) rfl (fun ls hl => ?_)
  refine lv_iconst (v := 0) hx hb dX0_goRound_20 (by decide) ?_
  refine lv_istore_n (lv' := [(2, .int 0), (1, .int x2), (0, .ref (qn 15))]) hx hb dX0_goRound_21 rfl hl (by decide) rfl (fun ls hl => ?_)
  refine lv_iconst (v := 0) hx hb dX0_goRound_22 (by decide) ?_
  refine lv_istore_n (lv' := [(3, .int 0), (2, .int 0), (1, .int x2), (0, .ref (qn 15))]) hx hb dX0_goRound_23 rfl hl (by decide) rfl (fun ls hl => ?_)
  obtain ⟨x3, hx3, hf⟩ := bd_some hf
  refine t_X0_goRound_24 C hD hx3 hP hS (lv_sub hl [3, 2, 1, 0] rfl) (fun {H locs ls} hP hS hl => ?_)
  refine lv_iload_n hx hb dX0_goRound_65 rfl (lv_at hl 0 rfl) ?_
  cases hf
  exact q_iret C hP hS rfl dX0_goRound_66
