-- X3_refuse
theorem hiX3_refuse_X3 : ∀ w ∈ u_ws RX3 TX3 14, w ∈ wsX3_refuse := mem_run (i := 2) (by decide +kernel)
theorem wdX3_refuse_1 : (Cond.fieldLink RX3 49 "CombinatorRing$TextReader" "fault" "I") ∈ wsX3_refuse := List.mem_of_getElem? (i := 1) rfl
def t_refuse (tt : OSt) (ka : Nat) (sa : (Nat → Int32)) (sn : NSt) (a1 : Int32) (a2 : Int32) : Option (OSt) := if (tt.1 7) = 0 then nm (sI tt 7 ((-2) - ((8 * a1) + a2))) fun s2 => some s2 else some tt
abbrev rmX3_refuse : Room := { frames := 0, cells := 0, slots := 0, locals := 0 }
theorem hdX3_refuse : yX3_refuse.cls = RX3 ∧ yX3_refuse.cls ≠ "java/lang/invoke/MethodHandle" ∧ yX3_refuse.cls ≠ "java/lang/invoke/VarHandle" ∧ (parseMethodDescriptor yX3_refuse.desc).map (fun d => d.parameters.length) = some 2 := by decide +kernel
set_option maxHeartbeats 4000000 in
set_option maxRecDepth 100000 in
theorem c_X3_refuse {l : Launch} {G : Gx} {qt : Nat → Nat} {da ka : Nat} {qn : Nat → Nat} {tt : OSt} {sa : (Nat → Int32)} {sn : NSt} {a1 : Int32} {a2 : Int32} {x : OSt} (hf : t_refuse tt ka sa sn a1 a2 = some x) : QM l G yX3_refuse wsX3_refuse rmX3_refuse [.ref (qt 14), .int a1, .int a2] (wT G qt da (qn 15) tt ++ (wA G da ka sa ++ wN G qn sn)) (wT G qt da (qn 15) x ++ (wA G da ka sa ++ wN G qn sn)) none := by
  refine QM.of (cc := cX3_refuse) (maxL := 3) (ret := none) (by decide) rfl (Nat.le_of_ble_eq_true rfl) ?_
  intro p e s m below meth c A ls C hD hP hS hl
  have hx := C.1
  have hb := C.2.1
  have hl : lv_has ls 3 [(0, .ref (qt 14)), (1, .int a1), (2, .int a2)] := hl
  unfold t_refuse at hf
  refine lv_aload_n hx hb dX3_refuse_0 rfl (lv_at hl 0 rfl) ?_
  refine q_get C hP (q0 := 0) rfl rfl hiX3_refuse_X3 7 (by decide) wdX3_refuse_1 rfl dX3_refuse_1 ?_
  refine lv_if_ne (tgt := 20) hx hb dX3_refuse_4 (by decide) (fun c1 => ?_) (fun c1 => ?_)
  · have hf := if_f c1 hf
    cases hf
    exact q_vret C hP hS rfl dX3_refuse_20
  · have hf := if_t c1 hf
    refine lv_aload_n hx hb dX3_refuse_7 rfl (lv_at hl 0 rfl) ?_
    refine lv_bipush (v := (-2)) hx hb dX3_refuse_8 (by decide) ?_
    refine lv_bipush (v := 8) hx hb dX3_refuse_10 (by decide) ?_
    refine lv_iload_n hx hb dX3_refuse_12 rfl (lv_at hl 1 rfl) ?_
    refine lv_imul hx hb dX3_refuse_13 ?_
    refine lv_iload_n hx hb dX3_refuse_14 rfl (lv_at hl 2 rfl) ?_
    refine lv_iadd hx hb dX3_refuse_15 ?_
    refine lv_isub hx hb dX3_refuse_16 ?_
    obtain ⟨s2, es2, hf⟩ := nm_ex hf
    refine q_put C hP (dd_TAN hD) hS (q0 := 0) rfl rfl hiX3_refuse_X3 tyX3_ok nmX3 7 (by decide) wdX3_refuse_1 rfl rfl rfl (Nat.le_of_ble_eq_true rfl) rfl dX3_refuse_17 (fun H locs hP hS => ?_)
    have hP : va_P G.1 vwCl (wT G qt da (qn 15) s2 ++ (wA G da ka sa ++ wN G qn sn)) H := by rw [← es2]; exact hP
    cases hf
    exact q_vret C hP hS rfl dX3_refuse_20

-- X3_makeNode
theorem hiX3_makeNode_X3 : ∀ w ∈ u_ws RX3 TX3 14, w ∈ wsX3_makeNode := mem_run (i := 29) (by decide +kernel)
theorem wdX3_makeNode_1 : (Cond.fieldLink RX3 14 "CombinatorRing$TextReader" "net" "LCombinatorRing$Net;") ∈ wsX3_makeNode := List.mem_of_getElem? (i := 1) rfl
theorem wdX3_makeNode_2 : (Cond.fieldLink RX3 87 "CombinatorRing$TextReader" "start" "I") ∈ wsX3_makeNode := List.mem_of_getElem? (i := 2) rfl
def t_makeNode (tt : OSt) (ka : Nat) (sa : (Nat → Int32)) (sn : NSt) (a1 : Int32) : Option (Int32 × OSt × NSt) := bd (n_hasRoom sn 1) fun x1 => if x1 = 0 then bd (t_refuse tt ka sa sn (tt.1 5) 5) fun x4 => some ((-1), x4, sn) else bd (n_make sn a1) fun x3 => some ((3 * x3.1), tt, x3.2)
abbrev rmX3_makeNode : Room := { frames := 2, cells := 0, slots := 0, locals := 43 }
theorem hdX3_makeNode : yX3_makeNode.cls = RX3 ∧ yX3_makeNode.cls ≠ "java/lang/invoke/MethodHandle" ∧ yX3_makeNode.cls ≠ "java/lang/invoke/VarHandle" ∧ (parseMethodDescriptor yX3_makeNode.desc).map (fun d => d.parameters.length) = some 1 := by decide +kernel
set_option maxHeartbeats 4000000 in
set_option maxRecDepth 100000 in
theorem c_X3_makeNode {l : Launch} {G : Gx} {qt : Nat → Nat} {da ka : Nat} {qn : Nat → Nat} {tt : OSt} {sa : (Nat → Int32)} {sn : NSt} {a1 : Int32} {x : Int32 × OSt × NSt} (hf : t_makeNode tt ka sa sn a1 = some x) : QM l G yX3_makeNode wsX3_makeNode rmX3_makeNode [.ref (qt 14), .int a1] (wT G qt da (qn 15) tt ++ (wA G da ka sa ++ wN G qn sn)) (wT G qt da (qn 15) x.2.1 ++ (wA G da ka sa ++ wN G qn x.2.2)) (some (.int x.1)) := by
  refine QM.of (cc := cX3_makeNode) (maxL := 2) (ret := (some .int)) (by decide) rfl (Nat.le_of_ble_eq_true rfl) ?_
  intro p e s m below meth c A ls C hD hP hS hl
  have hx := C.1
  have hb := C.2.1
  have hl : lv_has ls 2 [(0, .ref (qt 14)), (1, .int a1)] := hl
  unfold t_makeNode at hf
  refine lv_aload_n hx hb dX3_makeNode_0 rfl (lv_at hl 0 rfl) ?_
  refine q_get C hP (q0 := 0) rfl rfl hiX3_makeNode_X3 0 (by decide) wdX3_makeNode_1 rfl dX3_makeNode_1 ?_
  refine lv_iconst (v := 1) hx hb dX3_makeNode_4 (by decide) ?_
  obtain ⟨x1, hx1, hf⟩ := bd_some hf
  refine q_Vi C (rc := (RX0, TX0, 15)) (q0 := 6) (ci := 0) (ws' := wT G qt da (qn 15) tt ++ (wA G da ka sa ++ wN G qn sn)) (c_X0_hasRoom (qn := qn) hx1) gX3_makeNode_X0_hasRoom rfl ⟨rfl, rfl⟩ hdX0_hasRoom ⟨(Nat.le_of_ble_eq_true rfl), (Nat.le_of_ble_eq_true rfl)⟩ rfl hP (dd_TAN hD) hS rfl rfl pm_abc pm_abc2 hl.1 (Nat.le_of_ble_eq_true rfl) ⟨Nat.zero_le _, Nat.zero_le _⟩ rfl dX3_makeNode_5 (fun H locs hP hS => ?_)
  refine lv_if_ne (tgt := 22) hx hb dX3_makeNode_8 (by decide) (fun c2 => ?_) (fun c2 => ?_)
  · have hf := if_f c2 hf
    refine lv_iconst (v := 3) hx hb dX3_makeNode_22 (by decide) ?_
    refine lv_aload_n hx hb dX3_makeNode_23 rfl (lv_at hl 0 rfl) ?_
    refine q_get C hP (q0 := 0) rfl rfl hiX3_makeNode_X3 0 (by decide) wdX3_makeNode_1 rfl dX3_makeNode_24 ?_
    refine lv_iload_n hx hb dX3_makeNode_27 rfl (lv_at hl 1 rfl) ?_
    obtain ⟨x3, hx3, hf⟩ := bd_some hf
    refine q_Vi C (rc := (RX0, TX0, 15)) (q0 := 6) (ci := 0) (ws' := wT G qt da (qn 15) tt ++ (wA G da ka sa ++ wN G qn x3.2)) (c_X0_make (qn := qn) hx3) gX3_makeNode_X0_make rfl ⟨rfl, rfl⟩ hdX0_make ⟨(Nat.le_of_ble_eq_true rfl), (Nat.le_of_ble_eq_true rfl)⟩ rfl hP (dd_TAN hD) hS rfl rfl pm_abc pm_abc2 hl.1 (Nat.le_of_ble_eq_true rfl) ⟨Nat.zero_le _, Nat.zero_le _⟩ rfl dX3_makeNode_28 (fun H locs hP hS => ?_)
    refine lv_imul hx hb dX3_makeNode_31 ?_
    cases hf
    exact q_iret C hP hS rfl dX3_makeNode_32
  · have hf := if_t c2 hf
    refine lv_aload_n hx hb dX3_makeNode_11 rfl (lv_at hl 0 rfl) ?_
    refine lv_aload_n hx hb dX3_makeNode_12 rfl (lv_at hl 0 rfl) ?_
    refine q_get C hP (q0 := 0) rfl rfl hiX3_makeNode_X3 5 (by decide) wdX3_makeNode_2 rfl dX3_makeNode_13 ?_
    refine lv_iconst (v := 5) hx hb dX3_makeNode_16 (by decide) ?_
    obtain ⟨x4, hx4, hf⟩ := bd_some hf
    refine q_Vv C (rc := (RX3, TX3, 14)) (q0 := 0) (ci := 3) (ws' := wT G qt da (qn 15) x4 ++ (wA G da ka sa ++ wN G qn sn)) (wr := []) (c_X3_refuse hx4) gX3_makeNode_X3_refuse rfl ⟨rfl, rfl⟩ hdX3_refuse ⟨(Nat.le_of_ble_eq_true rfl), (Nat.le_of_ble_eq_true rfl)⟩ rfl hP (dd_TAN hD) hS rfl rfl (List.Perm.refl _) (List.Perm.refl _) hl.1 (Nat.le_of_ble_eq_true rfl) ⟨Nat.zero_le _, Nat.zero_le _⟩ rfl dX3_makeNode_17 (fun H locs hP hS => ?_)
    refine lv_iconst (v := (-1)) hx hb dX3_makeNode_20 (by decide) ?_
    cases hf
    exact q_iret C hP hS rfl dX3_makeNode_21

-- X3_indexOfName
theorem hiX3_indexOfName_X3 : ∀ w ∈ u_ws RX3 TX3 14, w ∈ wsX3_indexOfName := mem_run (i := 3) (by decide +kernel)
theorem wdX3_indexOfName_1 : (Cond.fieldLink RX3 52 "CombinatorRing$TextReader" "nameCount" "I") ∈ wsX3_indexOfName := List.mem_of_getElem? (i := 1) rfl
theorem wdX3_indexOfName_2 : (Cond.fieldLink RX3 24 "CombinatorRing$TextReader" "names" "[I") ∈ wsX3_indexOfName := List.mem_of_getElem? (i := 2) rfl
def t_indexOfName_2 : Nat → OSt → Nat → (Nat → Int32) → NSt → Int32 → Int32 → Option (Int32)
  | 0, _, _, _, _, _, _ => none
  | n + 1, tt, ka, sa, sn, v1, v2 => if (tt.1 11) ≤ v2 then some (tt.1 11) else gd v2 250 (if (tt.2 8 v2.toNatClampNeg) = v1 then some v2 else t_indexOfName_2 n tt ka sa sn v1 (v2 + 1))
def t_indexOfName (tt : OSt) (ka : Nat) (sa : (Nat → Int32)) (sn : NSt) (a1 : Int32) : Option (Int32) := t_indexOfName_2 20000 tt ka sa sn a1 0
abbrev rmX3_indexOfName : Room := { frames := 0, cells := 0, slots := 0, locals := 0 }
theorem hdX3_indexOfName : yX3_indexOfName.cls = RX3 ∧ yX3_indexOfName.cls ≠ "java/lang/invoke/MethodHandle" ∧ yX3_indexOfName.cls ≠ "java/lang/invoke/VarHandle" ∧ (parseMethodDescriptor yX3_indexOfName.desc).map (fun d => d.parameters.length) = some 1 := by decide +kernel
set_option maxHeartbeats 4000000 in
set_option maxRecDepth 100000 in
theorem t_X3_indexOfName_2 {p : Program} {l : Launch} {e : Env} {s : State} {m : MethodId} {args : Array Value} {below : List Frame} {meth : Method} {c : Code} {A : Nat → Prop} {G : Gx} {qt : Nat → Nat} {da ka : Nat} {qn : Nat → Nat} {tt0 : OSt} {sa0 : (Nat → Int32)} {sn0 : NSt} (C : Cx p s m args meth c G cX3_indexOfName wsX3_indexOfName RX3 (some .int) 3 A) (hD : va_D A (wT G qt da (qn 15) tt0 ++ (wA G da ka sa0 ++ wN G qn sn0))) :
    ∀ {n : Nat} {tt : OSt} {sa : (Nat → Int32)} {sn : NSt} {v1 : Int32} {v2 : Int32} {x : Int32}, t_indexOfName_2 n tt ka sa sn v1 v2 = some x → ∀ {H : Heap} {locs : List Loc} {ls : Array Slot}, va_P G.1 vwCl (wT G qt da (qn 15) tt ++ (wA G da ka sa ++ wN G qn sn)) H → va_S A s.heap H locs → lv_has ls 3 [(0, .ref (qt 14)), (1, .int v1), (2, .int v2)] → W p l e rmX3_indexOfName s m args below meth c H locs 0 0 (MQ below (qE G A (wT G qt da (qn 15) tt ++ (wA G da ka sa ++ wN G qn sn)) (some (.int x))) args s 0 0 A) (F0 m 2 ls []) := by
  have hx := C.1
  have hb := C.2.1
  intro n
  induction n with
  | zero => intro tt sa sn v1 v2 x hf; cases hf
  | succ n ih =>
    intro tt sa sn v1 v2 x hf H locs ls hP hS hl
    rw [t_indexOfName_2] at hf
    refine lv_iload_n hx hb dX3_indexOfName_2 rfl (lv_at hl 2 rfl) ?_
    refine lv_aload_n hx hb dX3_indexOfName_3 rfl (lv_at hl 0 rfl) ?_
    refine q_get C hP (q0 := 0) rfl rfl hiX3_indexOfName_X3 11 (by decide) wdX3_indexOfName_1 rfl dX3_indexOfName_4 ?_
    refine lv_icmp_ge (tgt := 28) hx hb dX3_indexOfName_7 (by decide) (fun c1 => ?_) (fun c1 => ?_)
    · have hf := if_t c1 hf
      refine lv_aload_n hx hb dX3_indexOfName_28 rfl (lv_at hl 0 rfl) ?_
      refine q_get C hP (q0 := 0) rfl rfl hiX3_indexOfName_X3 11 (by decide) wdX3_indexOfName_1 rfl dX3_indexOfName_29 ?_
      cases hf
      exact q_iret C hP hS rfl dX3_indexOfName_32
    · have hf := if_f c1 hf
      refine lv_aload_n hx hb dX3_indexOfName_10 rfl (lv_at hl 0 rfl) ?_
      refine q_get C hP (q0 := 0) rfl rfl hiX3_indexOfName_X3 8 (by decide) wdX3_indexOfName_2 rfl dX3_indexOfName_11 ?_
      refine lv_iload_n hx hb dX3_indexOfName_14 rfl (lv_at hl 2 rfl) ?_
      obtain ⟨hin, hf⟩ := gd_some hf
      refine q_iald C hP (q0 := 1) rfl rfl hin dX3_indexOfName_15 ?_
      refine lv_iload_n hx hb dX3_indexOfName_16 rfl (lv_at hl 1 rfl) ?_
      refine lv_icmp_ne (tgt := 22) hx hb dX3_indexOfName_17 (by decide) (fun c2 => ?_) (fun c2 => ?_)
      · have hf := if_f c2 hf
        refine lv_iinc (v := (v2 + 1)) (lv' := [(2, .int (v2 + 1)), (0, .ref (qt 14)), (1, .int v1)]) hx hb dX3_indexOfName_22 hl (k := 2) rfl rfl (by decide) rfl (fun ls hl => ?_)
        refine lv_goto (tgt := 2) hx hb dX3_indexOfName_25 (by decide) ?_
        exact ih hf hP hS (lv_sub hl [1, 2, 0] rfl)
      · have hf := if_t c2 hf
        refine lv_iload_n hx hb dX3_indexOfName_20 rfl (lv_at hl 2 rfl) ?_
        cases hf
        exact q_iret C hP hS rfl dX3_indexOfName_21
set_option maxHeartbeats 4000000 in
set_option maxRecDepth 100000 in
theorem c_X3_indexOfName {l : Launch} {G : Gx} {qt : Nat → Nat} {da ka : Nat} {qn : Nat → Nat} {tt : OSt} {sa : (Nat → Int32)} {sn : NSt} {a1 : Int32} {x : Int32} (hf : t_indexOfName tt ka sa sn a1 = some x) : QM l G yX3_indexOfName wsX3_indexOfName rmX3_indexOfName [.ref (qt 14), .int a1] (wT G qt da (qn 15) tt ++ (wA G da ka sa ++ wN G qn sn)) (wT G qt da (qn 15) tt ++ (wA G da ka sa ++ wN G qn sn)) (some (.int x)) := by
  refine QM.of (cc := cX3_indexOfName) (maxL := 3) (ret := (some .int)) (by decide) rfl (Nat.le_of_ble_eq_true rfl) ?_
  intro p e s m below meth c A ls C hD hP hS hl
  have hx := C.1
  have hb := C.2.1
  have hl : lv_has ls 3 [(0, .ref (qt 14)), (1, .int a1)] := hl
  unfold t_indexOfName at hf
  refine lv_iconst (v := 0) hx hb dX3_indexOfName_0 (by decide) ?_
  refine lv_istore_n (lv' := [(2, .int 0), (0, .ref (qt 14)), (1, .int a1)]) hx hb dX3_indexOfName_1 rfl hl (by decide) rfl (fun ls hl => ?_)
  exact t_X3_indexOfName_2 C hD hf hP hS (lv_sub hl [1, 2, 0] rfl)

-- X3_readName
theorem hiX3_readName_X3 : ∀ w ∈ u_ws RX3 TX3 14, w ∈ wsX3_readName := mem_run (i := 18) (by decide +kernel)
theorem wdX3_readName_1 : (Cond.fieldLink RX3 84 "CombinatorRing$TextReader" "value" "I") ∈ wsX3_readName := List.mem_of_getElem? (i := 1) rfl
theorem wdX3_readName_2 : (Cond.fieldLink RX3 55 "CombinatorRing$TextReader" "wireCount" "I") ∈ wsX3_readName := List.mem_of_getElem? (i := 2) rfl
theorem wdX3_readName_3 : (Cond.fieldLink RX3 52 "CombinatorRing$TextReader" "nameCount" "I") ∈ wsX3_readName := List.mem_of_getElem? (i := 3) rfl
theorem wdX3_readName_6 : (Cond.fieldLink RX3 30 "CombinatorRing$TextReader" "secondWires" "[I") ∈ wsX3_readName := List.mem_of_getElem? (i := 6) rfl
theorem wdX3_readName_7 : (Cond.fieldLink RX3 87 "CombinatorRing$TextReader" "start" "I") ∈ wsX3_readName := List.mem_of_getElem? (i := 7) rfl
theorem wdX3_readName_4 : (Cond.fieldLink RX3 24 "CombinatorRing$TextReader" "names" "[I") ∈ wsX3_readName := List.mem_of_getElem? (i := 4) rfl
theorem wdX3_readName_5 : (Cond.fieldLink RX3 27 "CombinatorRing$TextReader" "firstWires" "[I") ∈ wsX3_readName := List.mem_of_getElem? (i := 5) rfl
def t_readName (tt : OSt) (ka : Nat) (sa : (Nat → Int32)) (sn : NSt)  : Option (Int32 × OSt) := bd (t_indexOfName tt ka sa sn (tt.1 6)) fun x1 => nm (sI tt 12 ((tt.1 12) + 1)) fun s2 => if x1 < 250 then if x1 = (s2.1 11) then gd x1 250 (nm (sA s2 8 (upd (s2.2 8) x1.toNatClampNeg (s2.1 6))) fun s8 => gd x1 250 (nm (sA s8 9 (upd (s8.2 9) x1.toNatClampNeg (1016 + (tt.1 12)))) fun s9 => gd x1 250 (nm (sA s9 10 (upd (s9.2 10) x1.toNatClampNeg (-1))) fun s10 => nm (sI s10 11 ((s10.1 11) + 1)) fun s11 => some ((1016 + (tt.1 12)), s11)))) else gd x1 250 (if (s2.2 10 x1.toNatClampNeg) = (-1) then gd x1 250 (nm (sA s2 10 (upd (s2.2 10) x1.toNatClampNeg (1016 + (tt.1 12)))) fun s7 => some ((1016 + (tt.1 12)), s7)) else bd (t_refuse s2 ka sa sn (s2.1 5) 2) fun x6 => some ((1016 + (tt.1 12)), x6)) else some ((-1), s2)
abbrev rmX3_readName : Room := { frames := 1, cells := 0, slots := 0, locals := 22 }
theorem hdX3_readName : yX3_readName.cls = RX3 ∧ yX3_readName.cls ≠ "java/lang/invoke/MethodHandle" ∧ yX3_readName.cls ≠ "java/lang/invoke/VarHandle" ∧ (parseMethodDescriptor yX3_readName.desc).map (fun d => d.parameters.length) = some 0 := by decide +kernel
set_option maxHeartbeats 4000000 in
set_option maxRecDepth 100000 in
theorem c_X3_readName {l : Launch} {G : Gx} {qt : Nat → Nat} {da ka : Nat} {qn : Nat → Nat} {tt : OSt} {sa : (Nat → Int32)} {sn : NSt}  {x : Int32 × OSt} (hf : t_readName tt ka sa sn = some x) : QM l G yX3_readName wsX3_readName rmX3_readName [.ref (qt 14)] (wT G qt da (qn 15) tt ++ (wA G da ka sa ++ wN G qn sn)) (wT G qt da (qn 15) x.2 ++ (wA G da ka sa ++ wN G qn sn)) (some (.int x.1)) := by
  refine QM.of (cc := cX3_readName) (maxL := 3) (ret := (some .int)) (by decide) rfl (Nat.le_of_ble_eq_true rfl) ?_
  intro p e s m below meth c A ls C hD hP hS hl
  have hx := C.1
  have hb := C.2.1
  have hl : lv_has ls 3 [(0, .ref (qt 14))] := hl
  unfold t_readName at hf
  refine lv_aload_n hx hb dX3_readName_0 rfl (lv_at hl 0 rfl) ?_
  refine lv_aload_n hx hb dX3_readName_1 rfl (lv_at hl 0 rfl) ?_
  refine q_get C hP (q0 := 0) rfl rfl hiX3_readName_X3 6 (by decide) wdX3_readName_1 rfl dX3_readName_2 ?_
  obtain ⟨x1, hx1, hf⟩ := bd_some hf
  refine q_Vi C (rc := (RX3, TX3, 14)) (q0 := 0) (ci := 3) (ws' := wT G qt da (qn 15) tt ++ (wA G da ka sa ++ wN G qn sn)) (wr := []) (c_X3_indexOfName hx1) gX3_readName_X3_indexOfName rfl ⟨rfl, rfl⟩ hdX3_indexOfName ⟨(Nat.le_of_ble_eq_true rfl), (Nat.le_of_ble_eq_true rfl)⟩ rfl hP (dd_TAN hD) hS rfl rfl (List.Perm.refl _) (List.Perm.refl _) hl.1 (Nat.le_of_ble_eq_true rfl) ⟨Nat.zero_le _, Nat.zero_le _⟩ rfl dX3_readName_5 (fun H locs hP hS => ?_)
  refine lv_istore_n (lv' := [(1, .int x1), (0, .ref (qt 14))]) hx hb dX3_readName_8 rfl hl (by decide) rfl (fun ls hl => ?_)
  refine lv_sipush (v := 1016) hx hb dX3_readName_9 (by decide) ?_
  refine lv_aload_n hx hb dX3_readName_12 rfl (lv_at hl 1 rfl) ?_
  refine q_get C hP (q0 := 0) rfl rfl hiX3_readName_X3 12 (by decide) wdX3_readName_2 rfl dX3_readName_13 ?_
  refine lv_iadd hx hb dX3_readName_16 ?_
  refine lv_istore_n (lv' := [(2, .int (1016 + (tt.1 12))), (1, .int x1), (0, .ref (qt 14))]) hx hb dX3_readName_17 rfl hl (by decide) rfl (fun ls hl => ?_)
  refine lv_aload_n hx hb dX3_readName_18 rfl (lv_at hl 2 rfl) ?_
  refine lv_dup hx hb dX3_readName_19 rfl ?_
  refine q_get C hP (q0 := 0) rfl rfl hiX3_readName_X3 12 (by decide) wdX3_readName_2 rfl dX3_readName_20 ?_
  refine lv_iconst (v := 1) hx hb dX3_readName_23 (by decide) ?_
  refine lv_iadd hx hb dX3_readName_24 ?_
  obtain ⟨s2, es2, hf⟩ := nm_ex hf
  refine q_put C hP (dd_TAN hD) hS (q0 := 0) rfl rfl hiX3_readName_X3 tyX3_ok nmX3 12 (by decide) wdX3_readName_2 rfl rfl rfl (Nat.le_of_ble_eq_true rfl) rfl dX3_readName_25 (fun H locs hP hS => ?_)
  have hP : va_P G.1 vwCl (wT G qt da (qn 15) s2 ++ (wA G da ka sa ++ wN G qn sn)) H := by rw [← es2]; exact hP
  refine lv_iload_n hx hb dX3_readName_28 rfl (lv_at hl 1 rfl) ?_
  refine lv_sipush (v := 250) hx hb dX3_readName_29 (by decide) ?_
  refine lv_icmp_lt (tgt := 37) hx hb dX3_readName_32 (by decide) (fun c3 => ?_) (fun c3 => ?_)
  · have hf := if_t c3 hf
    refine lv_iload_n hx hb dX3_readName_37 rfl (lv_at hl 1 rfl) ?_
    refine lv_aload_n hx hb dX3_readName_38 rfl (lv_at hl 2 rfl) ?_
    refine q_get C hP (q0 := 0) rfl rfl hiX3_readName_X3 11 (by decide) wdX3_readName_3 rfl dX3_readName_39 ?_
    refine lv_icmp_ne (tgt := 82) hx hb dX3_readName_42 (by decide) (fun c4 => ?_) (fun c4 => ?_)
    · have hf := if_f c4 hf
      refine lv_aload_n hx hb dX3_readName_82 rfl (lv_at hl 2 rfl) ?_
      refine q_get C hP (q0 := 0) rfl rfl hiX3_readName_X3 10 (by decide) wdX3_readName_6 rfl dX3_readName_83 ?_
      refine lv_iload_n hx hb dX3_readName_86 rfl (lv_at hl 1 rfl) ?_
      obtain ⟨hin, hf⟩ := gd_some hf
      refine q_iald C hP (q0 := 3) rfl rfl hin dX3_readName_87 ?_
      refine lv_iconst (v := (-1)) hx hb dX3_readName_88 (by decide) ?_
      refine lv_icmp_ne (tgt := 102) hx hb dX3_readName_89 (by decide) (fun c5 => ?_) (fun c5 => ?_)
      · have hf := if_f c5 hf
        refine lv_aload_n hx hb dX3_readName_102 rfl (lv_at hl 2 rfl) ?_
        refine lv_aload_n hx hb dX3_readName_103 rfl (lv_at hl 2 rfl) ?_
        refine q_get C hP (q0 := 0) rfl rfl hiX3_readName_X3 5 (by decide) wdX3_readName_7 rfl dX3_readName_104 ?_
        refine lv_iconst (v := 2) hx hb dX3_readName_107 (by decide) ?_
        obtain ⟨x6, hx6, hf⟩ := bd_some hf
        refine q_Vv C (rc := (RX3, TX3, 14)) (q0 := 0) (ci := 3) (ws' := wT G qt da (qn 15) x6 ++ (wA G da ka sa ++ wN G qn sn)) (wr := []) (c_X3_refuse hx6) gX3_readName_X3_refuse rfl ⟨rfl, rfl⟩ hdX3_refuse ⟨(Nat.le_of_ble_eq_true rfl), (Nat.le_of_ble_eq_true rfl)⟩ rfl hP (dd_TAN hD) hS rfl rfl (List.Perm.refl _) (List.Perm.refl _) hl.1 (Nat.le_of_ble_eq_true rfl) ⟨Nat.zero_le _, Nat.zero_le _⟩ rfl dX3_readName_108 (fun H locs hP hS => ?_)
        refine lv_iload_n hx hb dX3_readName_111 rfl (lv_at hl 0 rfl) ?_
        cases hf
        exact q_iret C hP hS rfl dX3_readName_112
      · have hf := if_t c5 hf
        refine lv_aload_n hx hb dX3_readName_92 rfl (lv_at hl 2 rfl) ?_
        refine q_get C hP (q0 := 0) rfl rfl hiX3_readName_X3 10 (by decide) wdX3_readName_6 rfl dX3_readName_93 ?_
        refine lv_iload_n hx hb dX3_readName_96 rfl (lv_at hl 1 rfl) ?_
        refine lv_iload_n hx hb dX3_readName_97 rfl (lv_at hl 0 rfl) ?_
        obtain ⟨hin, hf⟩ := gd_some hf
        obtain ⟨s7, es7, hf⟩ := nm_ex hf
        refine q_iast C hP (dd_TAN hD) hS (q0 := 3) rfl rfl rfl hin dX3_readName_98 (fun H locs hP hS => ?_)
        have hP : va_P G.1 vwCl (wT G qt da (qn 15) s7 ++ (wA G da ka sa ++ wN G qn sn)) H := by rw [← es7]; exact hP
        refine lv_goto (tgt := 111) hx hb dX3_readName_99 (by decide) ?_
        refine lv_iload_n hx hb dX3_readName_111 rfl (lv_at hl 0 rfl) ?_
        cases hf
        exact q_iret C hP hS rfl dX3_readName_112
    · have hf := if_t c4 hf
      refine lv_aload_n hx hb dX3_readName_45 rfl (lv_at hl 2 rfl) ?_
      refine q_get C hP (q0 := 0) rfl rfl hiX3_readName_X3 8 (by decide) wdX3_readName_4 rfl dX3_readName_46 ?_
      refine lv_iload_n hx hb dX3_readName_49 rfl (lv_at hl 1 rfl) ?_
      refine lv_aload_n hx hb dX3_readName_50 rfl (lv_at hl 2 rfl) ?_
      refine q_get C hP (q0 := 0) rfl rfl hiX3_readName_X3 6 (by decide) wdX3_readName_1 rfl dX3_readName_51 ?_
      obtain ⟨hin, hf⟩ := gd_some hf
      obtain ⟨s8, es8, hf⟩ := nm_ex hf
      refine q_iast C hP (dd_TAN hD) hS (q0 := 1) rfl rfl rfl hin dX3_readName_54 (fun H locs hP hS => ?_)
      have hP : va_P G.1 vwCl (wT G qt da (qn 15) s8 ++ (wA G da ka sa ++ wN G qn sn)) H := by rw [← es8]; exact hP
      refine lv_aload_n hx hb dX3_readName_55 rfl (lv_at hl 2 rfl) ?_
      refine q_get C hP (q0 := 0) rfl rfl hiX3_readName_X3 9 (by decide) wdX3_readName_5 rfl dX3_readName_56 ?_
      refine lv_iload_n hx hb dX3_readName_59 rfl (lv_at hl 1 rfl) ?_
      refine lv_iload_n hx hb dX3_readName_60 rfl (lv_at hl 0 rfl) ?_
      obtain ⟨hin, hf⟩ := gd_some hf
      obtain ⟨s9, es9, hf⟩ := nm_ex hf
      refine q_iast C hP (dd_TAN hD) hS (q0 := 2) rfl rfl rfl hin dX3_readName_61 (fun H locs hP hS => ?_)
      have hP : va_P G.1 vwCl (wT G qt da (qn 15) s9 ++ (wA G da ka sa ++ wN G qn sn)) H := by rw [← es9]; exact hP
      refine lv_aload_n hx hb dX3_readName_62 rfl (lv_at hl 2 rfl) ?_
      refine q_get C hP (q0 := 0) rfl rfl hiX3_readName_X3 10 (by decide) wdX3_readName_6 rfl dX3_readName_63 ?_
      refine lv_iload_n hx hb dX3_readName_66 rfl (lv_at hl 1 rfl) ?_
      refine lv_iconst (v := (-1)) hx hb dX3_readName_67 (by decide) ?_
      obtain ⟨hin, hf⟩ := gd_some hf
      obtain ⟨s10, es10, hf⟩ := nm_ex hf
      refine q_iast C hP (dd_TAN hD) hS (q0 := 3) rfl rfl rfl hin dX3_readName_68 (fun H locs hP hS => ?_)
      have hP : va_P G.1 vwCl (wT G qt da (qn 15) s10 ++ (wA G da ka sa ++ wN G qn sn)) H := by rw [← es10]; exact hP
      refine lv_aload_n hx hb dX3_readName_69 rfl (lv_at hl 2 rfl) ?_
      refine lv_dup hx hb dX3_readName_70 rfl ?_
      refine q_get C hP (q0 := 0) rfl rfl hiX3_readName_X3 11 (by decide) wdX3_readName_3 rfl dX3_readName_71 ?_
      refine lv_iconst (v := 1) hx hb dX3_readName_74 (by decide) ?_
      refine lv_iadd hx hb dX3_readName_75 ?_
      obtain ⟨s11, es11, hf⟩ := nm_ex hf
      refine q_put C hP (dd_TAN hD) hS (q0 := 0) rfl rfl hiX3_readName_X3 tyX3_ok nmX3 11 (by decide) wdX3_readName_3 rfl rfl rfl (Nat.le_of_ble_eq_true rfl) rfl dX3_readName_76 (fun H locs hP hS => ?_)
      have hP : va_P G.1 vwCl (wT G qt da (qn 15) s11 ++ (wA G da ka sa ++ wN G qn sn)) H := by rw [← es11]; exact hP
      refine lv_goto (tgt := 111) hx hb dX3_readName_79 (by decide) ?_
      refine lv_iload_n hx hb dX3_readName_111 rfl (lv_at hl 0 rfl) ?_
      cases hf
      exact q_iret C hP hS rfl dX3_readName_112
  · have hf := if_f c3 hf
    refine lv_iconst (v := (-1)) hx hb dX3_readName_35 (by decide) ?_
    cases hf
    exact q_iret C hP hS rfl dX3_readName_36

-- X3_endNames
theorem hiX3_endNames_X3 : ∀ w ∈ u_ws RX3 TX3 14, w ∈ wsX3_endNames := mem_run (i := 53) (by decide +kernel)
theorem wdX3_endNames_3 : (Cond.fieldLink RX3 42 "CombinatorRing$TextReader" "length" "I") ∈ wsX3_endNames := List.mem_of_getElem? (i := 3) rfl
theorem wdX3_endNames_1 : (Cond.fieldLink RX3 52 "CombinatorRing$TextReader" "nameCount" "I") ∈ wsX3_endNames := List.mem_of_getElem? (i := 1) rfl
theorem wdX3_endNames_2 : (Cond.fieldLink RX3 30 "CombinatorRing$TextReader" "secondWires" "[I") ∈ wsX3_endNames := List.mem_of_getElem? (i := 2) rfl
theorem wdX3_endNames_4 : (Cond.fieldLink RX3 14 "CombinatorRing$TextReader" "net" "LCombinatorRing$Net;") ∈ wsX3_endNames := List.mem_of_getElem? (i := 4) rfl
theorem wdX3_endNames_5 : (Cond.fieldLink RX3 27 "CombinatorRing$TextReader" "firstWires" "[I") ∈ wsX3_endNames := List.mem_of_getElem? (i := 5) rfl
def t_endNames_4 : Nat → OSt → Nat → (Nat → Int32) → NSt → Int32 → Int32 → Option (Int32)
  | 0, _, _, _, _, _, _ => none
  | n + 1, tt, ka, sa, sn, v1, v2 => if (tt.1 11) ≤ v2 then some v1 else gd v2 250 (if (tt.2 10 v2.toNatClampNeg) = (-1) then t_endNames_4 n tt ka sa sn (v1 + 1) (v2 + 1) else t_endNames_4 n tt ka sa sn v1 (v2 + 1))
def t_endNames_50 : Nat → OSt → Nat → (Nat → Int32) → NSt → Int32 → Option (NSt)
  | 0, _, _, _, _, _ => none
  | n + 1, tt, ka, sa, sn, v2 => if (tt.1 11) ≤ v2 then some sn else gd v2 250 (if (tt.2 10 v2.toNatClampNeg) = (-1) then gd v2 250 (bd (n_at sn (tt.2 9 v2.toNatClampNeg)) fun x10 => bd (n_makeRoot sn x10) fun x11 => t_endNames_50 n tt ka sa x11.2 (v2 + 1)) else gd v2 250 (gd v2 250 (bd (n_splice sn (tt.2 9 v2.toNatClampNeg) (tt.2 10 v2.toNatClampNeg)) fun x9 => t_endNames_50 n tt ka sa x9 (v2 + 1))))
def t_endNames (tt : OSt) (ka : Nat) (sa : (Nat → Int32)) (sn : NSt)  : Option (OSt × NSt) := bd (t_endNames_4 20000 tt ka sa sn 0 0) fun x1 => if x1 ≤ 16 then bd (t_endNames_50 20000 tt ka sa sn 0) fun x3 => some (tt, x3) else bd (t_refuse tt ka sa sn (tt.1 2) 6) fun x4 => some (x4, sn)
abbrev rmX3_endNames : Room := { frames := 3, cells := 0, slots := 0, locals := 68 }
theorem hdX3_endNames : yX3_endNames.cls = RX3 ∧ yX3_endNames.cls ≠ "java/lang/invoke/MethodHandle" ∧ yX3_endNames.cls ≠ "java/lang/invoke/VarHandle" ∧ (parseMethodDescriptor yX3_endNames.desc).map (fun d => d.parameters.length) = some 0 := by decide +kernel
set_option maxHeartbeats 4000000 in
set_option maxRecDepth 100000 in
theorem t_X3_endNames_4 {p : Program} {l : Launch} {e : Env} {s : State} {m : MethodId} {args : Array Value} {below : List Frame} {meth : Method} {c : Code} {Q : State → Prop} {A : Nat → Prop} {G : Gx} {qt : Nat → Nat} {da ka : Nat} {qn : Nat → Nat} {tt0 : OSt} {sa0 : (Nat → Int32)} {sn0 : NSt} (C : Cx p s m args meth c G cX3_endNames wsX3_endNames RX3 none 3 A) (hD : va_D A (wT G qt da (qn 15) tt0 ++ (wA G da ka sa0 ++ wN G qn sn0))) :
    ∀ {n : Nat} {tt : OSt} {sa : (Nat → Int32)} {sn : NSt} {v1 : Int32} {v2 : Int32} {x : Int32}, t_endNames_4 n tt ka sa sn v1 v2 = some x → ∀ {H : Heap} {locs : List Loc} {ls : Array Slot}, va_P G.1 vwCl (wT G qt da (qn 15) tt ++ (wA G da ka sa ++ wN G qn sn)) H → va_S A s.heap H locs → lv_has ls 3 [(0, .ref (qt 14)), (1, .int v1), (2, .int v2)] → (∀ {H : Heap} {locs : List Loc} {ls : Array Slot}, va_P G.1 vwCl (wT G qt da (qn 15) tt ++ (wA G da ka sa ++ wN G qn sn)) H → va_S A s.heap H locs → lv_has ls 3 [(0, .ref (qt 14)), (1, .int x)] → W p l e rmX3_endNames s m args below meth c H locs 0 0 Q (F0 m 31 ls [])) → W p l e rmX3_endNames s m args below meth c H locs 0 0 Q (F0 m 4 ls []) := by
  have hx := C.1
  have hb := C.2.1
  intro n
  induction n with
  | zero => intro tt sa sn v1 v2 x hf; cases hf
  | succ n ih =>
    intro tt sa sn v1 v2 x hf H locs ls hP hS hl kk
    rw [t_endNames_4] at hf
    refine lv_iload_n hx hb dX3_endNames_4 rfl (lv_at hl 2 rfl) ?_
    refine lv_aload_n hx hb dX3_endNames_5 rfl (lv_at hl 0 rfl) ?_
    refine q_get C hP (q0 := 0) rfl rfl hiX3_endNames_X3 11 (by decide) wdX3_endNames_1 rfl dX3_endNames_6 ?_
    refine lv_icmp_ge (tgt := 31) hx hb dX3_endNames_9 (by decide) (fun c5 => ?_) (fun c5 => ?_)
    · have hf := if_t c5 hf
      cases hf
      exact kk hP hS (lv_sub hl [0, 1] rfl)
    · have hf := if_f c5 hf
      refine lv_aload_n hx hb dX3_endNames_12 rfl (lv_at hl 0 rfl) ?_
      refine q_get C hP (q0 := 0) rfl rfl hiX3_endNames_X3 10 (by decide) wdX3_endNames_2 rfl dX3_endNames_13 ?_
      refine lv_iload_n hx hb dX3_endNames_16 rfl (lv_at hl 2 rfl) ?_
      obtain ⟨hin, hf⟩ := gd_some hf
      refine q_iald C hP (q0 := 3) rfl rfl hin dX3_endNames_17 ?_
      refine lv_iconst (v := (-1)) hx hb dX3_endNames_18 (by decide) ?_
      refine lv_icmp_ne (tgt := 25) hx hb dX3_endNames_19 (by decide) (fun c6 => ?_) (fun c6 => ?_)
      · have hf := if_f c6 hf
        refine lv_iinc (v := (v2 + 1)) (lv' := [(2, .int (v2 + 1)), (0, .ref (qt 14)), (1, .int v1)]) hx hb dX3_endNames_25 hl (k := 2) rfl rfl (by decide) rfl (fun ls hl => ?_)
        refine lv_goto (tgt := 4) hx hb dX3_endNames_28 (by decide) ?_
        exact ih hf hP hS (lv_sub hl [1, 2, 0] rfl) kk
      · have hf := if_t c6 hf
        refine lv_iinc (v := (v1 + 1)) (lv' := [(1, .int (v1 + 1)), (0, .ref (qt 14)), (2, .int v2)]) hx hb dX3_endNames_22 hl (k := 1) rfl rfl (by decide) rfl (fun ls hl => ?_)
        refine lv_iinc (v := (v2 + 1)) (lv' := [(2, .int (v2 + 1)), (1, .int (v1 + 1)), (0, .ref (qt 14))]) hx hb dX3_endNames_25 hl (k := 2) rfl rfl (by decide) rfl (fun ls hl => ?_)
        refine lv_goto (tgt := 4) hx hb dX3_endNames_28 (by decide) ?_
        exact ih hf hP hS (lv_sub hl [2, 1, 0] rfl) kk
set_option maxHeartbeats 4000000 in
set_option maxRecDepth 100000 in
theorem t_X3_endNames_50 {p : Program} {l : Launch} {e : Env} {s : State} {m : MethodId} {args : Array Value} {below : List Frame} {meth : Method} {c : Code} {Q : State → Prop} {A : Nat → Prop} {G : Gx} {qt : Nat → Nat} {da ka : Nat} {qn : Nat → Nat} {tt0 : OSt} {sa0 : (Nat → Int32)} {sn0 : NSt} (C : Cx p s m args meth c G cX3_endNames wsX3_endNames RX3 none 3 A) (hD : va_D A (wT G qt da (qn 15) tt0 ++ (wA G da ka sa0 ++ wN G qn sn0))) :
    ∀ {n : Nat} {tt : OSt} {sa : (Nat → Int32)} {sn : NSt} {v2 : Int32} {x : NSt}, t_endNames_50 n tt ka sa sn v2 = some x → ∀ {H : Heap} {locs : List Loc} {ls : Array Slot}, va_P G.1 vwCl (wT G qt da (qn 15) tt ++ (wA G da ka sa ++ wN G qn sn)) H → va_S A s.heap H locs → lv_has ls 3 [(0, .ref (qt 14)), (2, .int v2)] → (∀ {H : Heap} {locs : List Loc} {ls : Array Slot}, va_P G.1 vwCl (wT G qt da (qn 15) tt ++ (wA G da ka sa ++ wN G qn x)) H → va_S A s.heap H locs → lv_has ls 3 [] → W p l e rmX3_endNames s m args below meth c H locs 0 0 Q (F0 m 117 ls [])) → W p l e rmX3_endNames s m args below meth c H locs 0 0 Q (F0 m 50 ls []) := by
  have hx := C.1
  have hb := C.2.1
  intro n
  induction n with
  | zero => intro tt sa sn v2 x hf; cases hf
  | succ n ih =>
    intro tt sa sn v2 x hf H locs ls hP hS hl kk
    rw [t_endNames_50] at hf
    refine lv_iload_n hx hb dX3_endNames_50 rfl (lv_at hl 1 rfl) ?_
    refine lv_aload_n hx hb dX3_endNames_51 rfl (lv_at hl 0 rfl) ?_
    refine q_get C hP (q0 := 0) rfl rfl hiX3_endNames_X3 11 (by decide) wdX3_endNames_1 rfl dX3_endNames_52 ?_
    refine lv_icmp_ge (tgt := 117) hx hb dX3_endNames_55 (by decide) (fun c7 => ?_) (fun c7 => ?_)
    · have hf := if_t c7 hf
      cases hf
      exact kk hP hS (lv_sub hl [] rfl)
    · have hf := if_f c7 hf
      refine lv_aload_n hx hb dX3_endNames_58 rfl (lv_at hl 0 rfl) ?_
      refine q_get C hP (q0 := 0) rfl rfl hiX3_endNames_X3 10 (by decide) wdX3_endNames_2 rfl dX3_endNames_59 ?_
      refine lv_iload_n hx hb dX3_endNames_62 rfl (lv_at hl 1 rfl) ?_
      obtain ⟨hin, hf⟩ := gd_some hf
      refine q_iald C hP (q0 := 3) rfl rfl hin dX3_endNames_63 ?_
      refine lv_iconst (v := (-1)) hx hb dX3_endNames_64 (by decide) ?_
      refine lv_icmp_ne (tgt := 92) hx hb dX3_endNames_65 (by decide) (fun c8 => ?_) (fun c8 => ?_)
      · have hf := if_f c8 hf
        refine lv_aload_n hx hb dX3_endNames_92 rfl (lv_at hl 0 rfl) ?_
        refine q_get C hP (q0 := 0) rfl rfl hiX3_endNames_X3 0 (by decide) wdX3_endNames_4 rfl dX3_endNames_93 ?_
        refine lv_aload_n hx hb dX3_endNames_96 rfl (lv_at hl 0 rfl) ?_
        refine q_get C hP (q0 := 0) rfl rfl hiX3_endNames_X3 9 (by decide) wdX3_endNames_5 rfl dX3_endNames_97 ?_
        refine lv_iload_n hx hb dX3_endNames_100 rfl (lv_at hl 1 rfl) ?_
        obtain ⟨hin, hf⟩ := gd_some hf
        refine q_iald C hP (q0 := 2) rfl rfl hin dX3_endNames_101 ?_
        refine lv_aload_n hx hb dX3_endNames_102 rfl (lv_at hl 0 rfl) ?_
        refine q_get C hP (q0 := 0) rfl rfl hiX3_endNames_X3 10 (by decide) wdX3_endNames_2 rfl dX3_endNames_103 ?_
        refine lv_iload_n hx hb dX3_endNames_106 rfl (lv_at hl 1 rfl) ?_
        obtain ⟨hin, hf⟩ := gd_some hf
        refine q_iald C hP (q0 := 3) rfl rfl hin dX3_endNames_107 ?_
        obtain ⟨x9, hx9, hf⟩ := bd_some hf
        refine q_Vv C (rc := (RX0, TX0, 15)) (q0 := 6) (ci := 0) (ws' := wT G qt da (qn 15) tt ++ (wA G da ka sa ++ wN G qn x9)) (c_X0_splice (qn := qn) hx9) gX3_endNames_X0_splice rfl ⟨rfl, rfl⟩ hdX0_splice ⟨(Nat.le_of_ble_eq_true rfl), (Nat.le_of_ble_eq_true rfl)⟩ rfl hP (dd_TAN hD) hS rfl rfl pm_abc pm_abc2 hl.1 (Nat.le_of_ble_eq_true rfl) ⟨Nat.zero_le _, Nat.zero_le _⟩ rfl dX3_endNames_108 (fun H locs hP hS => ?_)
        refine lv_iinc (v := (v2 + 1)) (lv' := [(2, .int (v2 + 1)), (0, .ref (qt 14))]) hx hb dX3_endNames_111 hl (k := 1) rfl rfl (by decide) rfl (fun ls hl => ?_)
        refine lv_goto (tgt := 50) hx hb dX3_endNames_114 (by decide) ?_
        exact ih hf hP hS (lv_sub hl [1, 0] rfl) kk
      · have hf := if_t c8 hf
        refine lv_aload_n hx hb dX3_endNames_68 rfl (lv_at hl 0 rfl) ?_
        refine q_get C hP (q0 := 0) rfl rfl hiX3_endNames_X3 0 (by decide) wdX3_endNames_4 rfl dX3_endNames_69 ?_
        refine lv_aload_n hx hb dX3_endNames_72 rfl (lv_at hl 0 rfl) ?_
        refine q_get C hP (q0 := 0) rfl rfl hiX3_endNames_X3 0 (by decide) wdX3_endNames_4 rfl dX3_endNames_73 ?_
        refine lv_aload_n hx hb dX3_endNames_76 rfl (lv_at hl 0 rfl) ?_
        refine q_get C hP (q0 := 0) rfl rfl hiX3_endNames_X3 9 (by decide) wdX3_endNames_5 rfl dX3_endNames_77 ?_
        refine lv_iload_n hx hb dX3_endNames_80 rfl (lv_at hl 1 rfl) ?_
        obtain ⟨hin, hf⟩ := gd_some hf
        refine q_iald C hP (q0 := 2) rfl rfl hin dX3_endNames_81 ?_
        obtain ⟨x10, hx10, hf⟩ := bd_some hf
        refine q_Vi C (rc := (RX0, TX0, 15)) (q0 := 6) (ci := 0) (ws' := wT G qt da (qn 15) tt ++ (wA G da ka sa ++ wN G qn sn)) (c_X0_at (qn := qn) hx10) gX3_endNames_X0_at rfl ⟨rfl, rfl⟩ hdX0_at ⟨(Nat.le_of_ble_eq_true rfl), (Nat.le_of_ble_eq_true rfl)⟩ rfl hP (dd_TAN hD) hS rfl rfl pm_abc pm_abc2 hl.1 (Nat.le_of_ble_eq_true rfl) ⟨Nat.zero_le _, Nat.zero_le _⟩ rfl dX3_endNames_82 (fun H locs hP hS => ?_)
        obtain ⟨x11, hx11, hf⟩ := bd_some hf
        refine q_Vi C (rc := (RX0, TX0, 15)) (q0 := 6) (ci := 0) (ws' := wT G qt da (qn 15) tt ++ (wA G da ka sa ++ wN G qn x11.2)) (c_X0_makeRoot (qn := qn) hx11) gX3_endNames_X0_makeRoot rfl ⟨rfl, rfl⟩ hdX0_makeRoot ⟨(Nat.le_of_ble_eq_true rfl), (Nat.le_of_ble_eq_true rfl)⟩ rfl hP (dd_TAN hD) hS rfl rfl pm_abc pm_abc2 hl.1 (Nat.le_of_ble_eq_true rfl) ⟨Nat.zero_le _, Nat.zero_le _⟩ rfl dX3_endNames_85 (fun H locs hP hS => ?_)
        refine lv_pop hx hb dX3_endNames_88 rfl ?_
        refine lv_goto (tgt := 111) hx hb dX3_endNames_89 (by decide) ?_
        refine lv_iinc (v := (v2 + 1)) (lv' := [(2, .int (v2 + 1)), (0, .ref (qt 14))]) hx hb dX3_endNames_111 hl (k := 1) rfl rfl (by decide) rfl (fun ls hl => ?_)
        refine lv_goto (tgt := 50) hx hb dX3_endNames_114 (by decide) ?_
        exact ih hf hP hS (lv_sub hl [1, 0] rfl) kk
set_option maxHeartbeats 4000000 in
set_option maxRecDepth 100000 in
theorem c_X3_endNames {l : Launch} {G : Gx} {qt : Nat → Nat} {da ka : Nat} {qn : Nat → Nat} {tt : OSt} {sa : (Nat → Int32)} {sn : NSt}  {x : OSt × NSt} (hf : t_endNames tt ka sa sn = some x) : QM l G yX3_endNames wsX3_endNames rmX3_endNames [.ref (qt 14)] (wT G qt da (qn 15) tt ++ (wA G da ka sa ++ wN G qn sn)) (wT G qt da (qn 15) x.1 ++ (wA G da ka sa ++ wN G qn x.2)) none := by
  refine QM.of (cc := cX3_endNames) (maxL := 3) (ret := none) (by decide) rfl (Nat.le_of_ble_eq_true rfl) ?_
  intro p e s m below meth c A ls C hD hP hS hl
  have hx := C.1
  have hb := C.2.1
  have hl : lv_has ls 3 [(0, .ref (qt 14))] := hl
  unfold t_endNames at hf
  refine lv_iconst (v := 0) hx hb dX3_endNames_0 (by decide) ?_
  refine lv_istore_n (lv' := [(1, .int 0), (0, .ref (qt 14))]) hx hb dX3_endNames_1 rfl hl (by decide) rfl (fun ls hl => ?_)
  refine lv_iconst (v := 0) hx hb dX3_endNames_2 (by decide) ?_
  refine lv_istore_n (lv' := [(2, .int 0), (1, .int 0), (0, .ref (qt 14))]) hx hb dX3_endNames_3 rfl hl (by decide) rfl (fun ls hl => ?_)
  obtain ⟨x1, hx1, hf⟩ := bd_some hf
  refine t_X3_endNames_4 C hD hx1 hP hS (lv_sub hl [2, 1, 0] rfl) (fun {H locs ls} hP hS hl => ?_)
  refine lv_iload_n hx hb dX3_endNames_31 rfl (lv_at hl 1 rfl) ?_
  refine lv_bipush (v := 16) hx hb dX3_endNames_32 (by decide) ?_
  refine lv_icmp_le (tgt := 48) hx hb dX3_endNames_34 (by decide) (fun c2 => ?_) (fun c2 => ?_)
  · have hf := if_t c2 hf
    refine lv_iconst (v := 0) hx hb dX3_endNames_48 (by decide) ?_
    refine lv_istore_n (lv' := [(2, .int 0), (0, .ref (qt 14)), (1, .int x1)]) hx hb dX3_endNames_49 rfl hl (by decide) rfl (fun ls hl => ?_)
    obtain ⟨x3, hx3, hf⟩ := bd_some hf
    refine t_X3_endNames_50 C hD hx3 hP hS (lv_sub hl [1, 0] rfl) (fun {H locs ls} hP hS hl => ?_)
    cases hf
    exact q_vret C hP hS rfl dX3_endNames_117
  · have hf := if_f c2 hf
    refine lv_aload_n hx hb dX3_endNames_37 rfl (lv_at hl 0 rfl) ?_
    refine lv_aload_n hx hb dX3_endNames_38 rfl (lv_at hl 0 rfl) ?_
    refine q_get C hP (q0 := 0) rfl rfl hiX3_endNames_X3 2 (by decide) wdX3_endNames_3 rfl dX3_endNames_39 ?_
    refine lv_bipush (v := 6) hx hb dX3_endNames_42 (by decide) ?_
    obtain ⟨x4, hx4, hf⟩ := bd_some hf
    refine q_Vv C (rc := (RX3, TX3, 14)) (q0 := 0) (ci := 3) (ws' := wT G qt da (qn 15) x4 ++ (wA G da ka sa ++ wN G qn sn)) (wr := []) (c_X3_refuse hx4) gX3_endNames_X3_refuse rfl ⟨rfl, rfl⟩ hdX3_refuse ⟨(Nat.le_of_ble_eq_true rfl), (Nat.le_of_ble_eq_true rfl)⟩ rfl hP (dd_TAN hD) hS rfl rfl (List.Perm.refl _) (List.Perm.refl _) hl.1 (Nat.le_of_ble_eq_true rfl) ⟨Nat.zero_le _, Nat.zero_le _⟩ rfl dX3_endNames_44 (fun H locs hP hS => ?_)
    cases hf
    exact q_vret C hP hS rfl dX3_endNames_47

-- X3_byteAt
theorem hiX3_byteAt_X3 : ∀ w ∈ u_ws RX3 TX3 14, w ∈ wsX3_byteAt := mem_run (i := 3) (by decide +kernel)
theorem wdX3_byteAt_1 : (Cond.fieldLink RX3 42 "CombinatorRing$TextReader" "length" "I") ∈ wsX3_byteAt := List.mem_of_getElem? (i := 1) rfl
theorem wdX3_byteAt_2 : (Cond.fieldLink RX3 20 "CombinatorRing$TextReader" "bytes" "[I") ∈ wsX3_byteAt := List.mem_of_getElem? (i := 2) rfl
def t_byteAt (tt : OSt) (ka : Nat) (sa : (Nat → Int32)) (sn : NSt) (a1 : Int32) : Option (Int32) := if a1 < 0 then some (-1) else if (tt.1 2) ≤ a1 then some (-1) else if (nI ka) ≤ a1 then some (-1) else gd a1 ka (some (sa a1.toNatClampNeg))
abbrev rmX3_byteAt : Room := { frames := 0, cells := 0, slots := 0, locals := 0 }
theorem hdX3_byteAt : yX3_byteAt.cls = RX3 ∧ yX3_byteAt.cls ≠ "java/lang/invoke/MethodHandle" ∧ yX3_byteAt.cls ≠ "java/lang/invoke/VarHandle" ∧ (parseMethodDescriptor yX3_byteAt.desc).map (fun d => d.parameters.length) = some 1 := by decide +kernel
set_option maxHeartbeats 4000000 in
set_option maxRecDepth 100000 in
theorem c_X3_byteAt {l : Launch} {G : Gx} {qt : Nat → Nat} {da ka : Nat} {qn : Nat → Nat} {tt : OSt} {sa : (Nat → Int32)} {sn : NSt} {a1 : Int32} {x : Int32} (hf : t_byteAt tt ka sa sn a1 = some x) : QM l G yX3_byteAt wsX3_byteAt rmX3_byteAt [.ref (qt 14), .int a1] (wT G qt da (qn 15) tt ++ (wA G da ka sa ++ wN G qn sn)) (wT G qt da (qn 15) tt ++ (wA G da ka sa ++ wN G qn sn)) (some (.int x)) := by
  refine QM.of (cc := cX3_byteAt) (maxL := 2) (ret := (some .int)) (by decide) rfl (Nat.le_of_ble_eq_true rfl) ?_
  intro p e s m below meth c A ls C hD hP hS hl
  have hx := C.1
  have hb := C.2.1
  have hl : lv_has ls 2 [(0, .ref (qt 14)), (1, .int a1)] := hl
  unfold t_byteAt at hf
  refine lv_iload_n hx hb dX3_byteAt_0 rfl (lv_at hl 1 rfl) ?_
  refine lv_if_lt (tgt := 30) hx hb dX3_byteAt_1 (by decide) (fun c1 => ?_) (fun c1 => ?_)
  · have hf := if_t c1 hf
    refine lv_iconst (v := (-1)) hx hb dX3_byteAt_30 (by decide) ?_
    cases hf
    exact q_iret C hP hS rfl dX3_byteAt_31
  · have hf := if_f c1 hf
    refine lv_iload_n hx hb dX3_byteAt_4 rfl (lv_at hl 1 rfl) ?_
    refine lv_aload_n hx hb dX3_byteAt_5 rfl (lv_at hl 0 rfl) ?_
    refine q_get C hP (q0 := 0) rfl rfl hiX3_byteAt_X3 2 (by decide) wdX3_byteAt_1 rfl dX3_byteAt_6 ?_
    refine lv_icmp_ge (tgt := 30) hx hb dX3_byteAt_9 (by decide) (fun c2 => ?_) (fun c2 => ?_)
    · have hf := if_t c2 hf
      refine lv_iconst (v := (-1)) hx hb dX3_byteAt_30 (by decide) ?_
      cases hf
      exact q_iret C hP hS rfl dX3_byteAt_31
    · have hf := if_f c2 hf
      refine lv_iload_n hx hb dX3_byteAt_12 rfl (lv_at hl 1 rfl) ?_
      refine lv_aload_n hx hb dX3_byteAt_13 rfl (lv_at hl 0 rfl) ?_
      refine q_get C hP (q0 := 0) rfl rfl hiX3_byteAt_X3 1 (by decide) wdX3_byteAt_2 rfl dX3_byteAt_14 ?_
      refine q_alen C hP (q0 := 5) rfl (t0 := 0) rfl dX3_byteAt_17 ?_
      refine lv_icmp_ge (tgt := 30) hx hb dX3_byteAt_18 (by decide) (fun c3 => ?_) (fun c3 => ?_)
      · have hf := if_t c3 hf
        refine lv_iconst (v := (-1)) hx hb dX3_byteAt_30 (by decide) ?_
        cases hf
        exact q_iret C hP hS rfl dX3_byteAt_31
      · have hf := if_f c3 hf
        refine lv_aload_n hx hb dX3_byteAt_21 rfl (lv_at hl 0 rfl) ?_
        refine q_get C hP (q0 := 0) rfl rfl hiX3_byteAt_X3 1 (by decide) wdX3_byteAt_2 rfl dX3_byteAt_22 ?_
        refine lv_iload_n hx hb dX3_byteAt_25 rfl (lv_at hl 1 rfl) ?_
        obtain ⟨hin, hf⟩ := gd_some hf
        refine q_iald C hP (q0 := 5) rfl rfl hin dX3_byteAt_26 ?_
        refine lv_goto (tgt := 31) hx hb dX3_byteAt_27 (by decide) ?_
        cases hf
        exact q_iret C hP hS rfl dX3_byteAt_31

-- X3_skipBlanks
theorem hiX3_skipBlanks_X3 : ∀ w ∈ u_ws RX3 TX3 14, w ∈ wsX3_skipBlanks := mem_run (i := 9) (by decide +kernel)
theorem wdX3_skipBlanks_1 : (Cond.fieldLink RX3 46 "CombinatorRing$TextReader" "place" "I") ∈ wsX3_skipBlanks := List.mem_of_getElem? (i := 1) rfl
theorem wdX3_skipBlanks_2 : (Cond.fieldLink RX3 42 "CombinatorRing$TextReader" "length" "I") ∈ wsX3_skipBlanks := List.mem_of_getElem? (i := 2) rfl
def t_skipBlanks_0 : Nat → OSt → Nat → (Nat → Int32) → NSt → Option (OSt)
  | 0, _, _, _, _ => none
  | n + 1, tt, ka, sa, sn => if (tt.1 2) ≤ (tt.1 3) then some tt else bd (t_byteAt tt ka sa sn (tt.1 3)) fun x3 => if x3 = 32 then nm (sI tt 3 ((tt.1 3) + 1)) fun s5 => t_skipBlanks_0 n s5 ka sa sn  else bd (t_byteAt tt ka sa sn (tt.1 3)) fun x6 => if x6 = 10 then nm (sI tt 3 ((tt.1 3) + 1)) fun s8 => t_skipBlanks_0 n s8 ka sa sn  else some tt
def t_skipBlanks (tt : OSt) (ka : Nat) (sa : (Nat → Int32)) (sn : NSt)  : Option (OSt) := bd (t_skipBlanks_0 20000 tt ka sa sn) fun x1 => some x1
abbrev rmX3_skipBlanks : Room := { frames := 1, cells := 0, slots := 0, locals := 21 }
theorem hdX3_skipBlanks : yX3_skipBlanks.cls = RX3 ∧ yX3_skipBlanks.cls ≠ "java/lang/invoke/MethodHandle" ∧ yX3_skipBlanks.cls ≠ "java/lang/invoke/VarHandle" ∧ (parseMethodDescriptor yX3_skipBlanks.desc).map (fun d => d.parameters.length) = some 0 := by decide +kernel
set_option maxHeartbeats 4000000 in
set_option maxRecDepth 100000 in
theorem t_X3_skipBlanks_0 {p : Program} {l : Launch} {e : Env} {s : State} {m : MethodId} {args : Array Value} {below : List Frame} {meth : Method} {c : Code} {Q : State → Prop} {A : Nat → Prop} {G : Gx} {qt : Nat → Nat} {da ka : Nat} {qn : Nat → Nat} {tt0 : OSt} {sa0 : (Nat → Int32)} {sn0 : NSt} (C : Cx p s m args meth c G cX3_skipBlanks wsX3_skipBlanks RX3 none 1 A) (hD : va_D A (wT G qt da (qn 15) tt0 ++ (wA G da ka sa0 ++ wN G qn sn0))) :
    ∀ {n : Nat} {tt : OSt} {sa : (Nat → Int32)} {sn : NSt}  {x : OSt}, t_skipBlanks_0 n tt ka sa sn = some x → ∀ {H : Heap} {locs : List Loc} {ls : Array Slot}, va_P G.1 vwCl (wT G qt da (qn 15) tt ++ (wA G da ka sa ++ wN G qn sn)) H → va_S A s.heap H locs → lv_has ls 1 [(0, .ref (qt 14))] → (∀ {H : Heap} {locs : List Loc} {ls : Array Slot}, va_P G.1 vwCl (wT G qt da (qn 15) x ++ (wA G da ka sa ++ wN G qn sn)) H → va_S A s.heap H locs → lv_has ls 1 [] → W p l e rmX3_skipBlanks s m args below meth c H locs 0 0 Q (F0 m 50 ls [])) → W p l e rmX3_skipBlanks s m args below meth c H locs 0 0 Q (F0 m 0 ls []) := by
  have hx := C.1
  have hb := C.2.1
  intro n
  induction n with
  | zero => intro tt sa sn x hf; cases hf
  | succ n ih =>
    intro tt sa sn x hf H locs ls hP hS hl kk
    rw [t_skipBlanks_0] at hf
    refine lv_aload_n hx hb dX3_skipBlanks_0 rfl (lv_at hl 0 rfl) ?_
    refine q_get C hP (q0 := 0) rfl rfl hiX3_skipBlanks_X3 3 (by decide) wdX3_skipBlanks_1 rfl dX3_skipBlanks_1 ?_
    refine lv_aload_n hx hb dX3_skipBlanks_4 rfl (lv_at hl 0 rfl) ?_
    refine q_get C hP (q0 := 0) rfl rfl hiX3_skipBlanks_X3 2 (by decide) wdX3_skipBlanks_2 rfl dX3_skipBlanks_5 ?_
    refine lv_icmp_ge (tgt := 50) hx hb dX3_skipBlanks_8 (by decide) (fun c2 => ?_) (fun c2 => ?_)
    · have hf := if_t c2 hf
      cases hf
      exact kk hP hS (lv_sub hl [] rfl)
    · have hf := if_f c2 hf
      refine lv_aload_n hx hb dX3_skipBlanks_11 rfl (lv_at hl 0 rfl) ?_
      refine lv_aload_n hx hb dX3_skipBlanks_12 rfl (lv_at hl 0 rfl) ?_
      refine q_get C hP (q0 := 0) rfl rfl hiX3_skipBlanks_X3 3 (by decide) wdX3_skipBlanks_1 rfl dX3_skipBlanks_13 ?_
      obtain ⟨x3, hx3, hf⟩ := bd_some hf
      refine q_Vi C (rc := (RX3, TX3, 14)) (q0 := 0) (ci := 3) (ws' := wT G qt da (qn 15) tt ++ (wA G da ka sa ++ wN G qn sn)) (wr := []) (c_X3_byteAt hx3) gX3_skipBlanks_X3_byteAt rfl ⟨rfl, rfl⟩ hdX3_byteAt ⟨(Nat.le_of_ble_eq_true rfl), (Nat.le_of_ble_eq_true rfl)⟩ rfl hP (dd_TAN hD) hS rfl rfl (List.Perm.refl _) (List.Perm.refl _) hl.1 (Nat.le_of_ble_eq_true rfl) ⟨Nat.zero_le _, Nat.zero_le _⟩ rfl dX3_skipBlanks_16 (fun H locs hP hS => ?_)
      refine lv_bipush (v := 32) hx hb dX3_skipBlanks_19 (by decide) ?_
      refine lv_icmp_eq (tgt := 37) hx hb dX3_skipBlanks_21 (by decide) (fun c4 => ?_) (fun c4 => ?_)
      · have hf := if_t c4 hf
        refine lv_aload_n hx hb dX3_skipBlanks_37 rfl (lv_at hl 0 rfl) ?_
        refine lv_dup hx hb dX3_skipBlanks_38 rfl ?_
        refine q_get C hP (q0 := 0) rfl rfl hiX3_skipBlanks_X3 3 (by decide) wdX3_skipBlanks_1 rfl dX3_skipBlanks_39 ?_
        refine lv_iconst (v := 1) hx hb dX3_skipBlanks_42 (by decide) ?_
        refine lv_iadd hx hb dX3_skipBlanks_43 ?_
        obtain ⟨s5, es5, hf⟩ := nm_ex hf
        refine q_put C hP (dd_TAN hD) hS (q0 := 0) rfl rfl hiX3_skipBlanks_X3 tyX3_ok nmX3 3 (by decide) wdX3_skipBlanks_1 rfl rfl rfl (Nat.le_of_ble_eq_true rfl) rfl dX3_skipBlanks_44 (fun H locs hP hS => ?_)
        have hP : va_P G.1 vwCl (wT G qt da (qn 15) s5 ++ (wA G da ka sa ++ wN G qn sn)) H := by rw [← es5]; exact hP
        refine lv_goto (tgt := 0) hx hb dX3_skipBlanks_47 (by decide) ?_
        exact ih hf hP hS (lv_sub hl [0] rfl) kk
      · have hf := if_f c4 hf
        refine lv_aload_n hx hb dX3_skipBlanks_24 rfl (lv_at hl 0 rfl) ?_
        refine lv_aload_n hx hb dX3_skipBlanks_25 rfl (lv_at hl 0 rfl) ?_
        refine q_get C hP (q0 := 0) rfl rfl hiX3_skipBlanks_X3 3 (by decide) wdX3_skipBlanks_1 rfl dX3_skipBlanks_26 ?_
        obtain ⟨x6, hx6, hf⟩ := bd_some hf
        refine q_Vi C (rc := (RX3, TX3, 14)) (q0 := 0) (ci := 3) (ws' := wT G qt da (qn 15) tt ++ (wA G da ka sa ++ wN G qn sn)) (wr := []) (c_X3_byteAt hx6) gX3_skipBlanks_X3_byteAt rfl ⟨rfl, rfl⟩ hdX3_byteAt ⟨(Nat.le_of_ble_eq_true rfl), (Nat.le_of_ble_eq_true rfl)⟩ rfl hP (dd_TAN hD) hS rfl rfl (List.Perm.refl _) (List.Perm.refl _) hl.1 (Nat.le_of_ble_eq_true rfl) ⟨Nat.zero_le _, Nat.zero_le _⟩ rfl dX3_skipBlanks_29 (fun H locs hP hS => ?_)
        refine lv_bipush (v := 10) hx hb dX3_skipBlanks_32 (by decide) ?_
        refine lv_icmp_ne (tgt := 50) hx hb dX3_skipBlanks_34 (by decide) (fun c7 => ?_) (fun c7 => ?_)
        · have hf := if_f c7 hf
          cases hf
          exact kk hP hS (lv_sub hl [] rfl)
        · have hf := if_t c7 hf
          refine lv_aload_n hx hb dX3_skipBlanks_37 rfl (lv_at hl 0 rfl) ?_
          refine lv_dup hx hb dX3_skipBlanks_38 rfl ?_
          refine q_get C hP (q0 := 0) rfl rfl hiX3_skipBlanks_X3 3 (by decide) wdX3_skipBlanks_1 rfl dX3_skipBlanks_39 ?_
          refine lv_iconst (v := 1) hx hb dX3_skipBlanks_42 (by decide) ?_
          refine lv_iadd hx hb dX3_skipBlanks_43 ?_
          obtain ⟨s8, es8, hf⟩ := nm_ex hf
          refine q_put C hP (dd_TAN hD) hS (q0 := 0) rfl rfl hiX3_skipBlanks_X3 tyX3_ok nmX3 3 (by decide) wdX3_skipBlanks_1 rfl rfl rfl (Nat.le_of_ble_eq_true rfl) rfl dX3_skipBlanks_44 (fun H locs hP hS => ?_)
          have hP : va_P G.1 vwCl (wT G qt da (qn 15) s8 ++ (wA G da ka sa ++ wN G qn sn)) H := by rw [← es8]; exact hP
          refine lv_goto (tgt := 0) hx hb dX3_skipBlanks_47 (by decide) ?_
          exact ih hf hP hS (lv_sub hl [0] rfl) kk
set_option maxHeartbeats 4000000 in
set_option maxRecDepth 100000 in
theorem c_X3_skipBlanks {l : Launch} {G : Gx} {qt : Nat → Nat} {da ka : Nat} {qn : Nat → Nat} {tt : OSt} {sa : (Nat → Int32)} {sn : NSt}  {x : OSt} (hf : t_skipBlanks tt ka sa sn = some x) : QM l G yX3_skipBlanks wsX3_skipBlanks rmX3_skipBlanks [.ref (qt 14)] (wT G qt da (qn 15) tt ++ (wA G da ka sa ++ wN G qn sn)) (wT G qt da (qn 15) x ++ (wA G da ka sa ++ wN G qn sn)) none := by
  refine QM.of (cc := cX3_skipBlanks) (maxL := 1) (ret := none) (by decide) rfl (Nat.le_of_ble_eq_true rfl) ?_
  intro p e s m below meth c A ls C hD hP hS hl
  have hx := C.1
  have hb := C.2.1
  have hl : lv_has ls 1 [(0, .ref (qt 14))] := hl
  unfold t_skipBlanks at hf
  obtain ⟨x1, hx1, hf⟩ := bd_some hf
  refine t_X3_skipBlanks_0 C hD hx1 hP hS (lv_sub hl [0] rfl) (fun {H locs ls} hP hS hl => ?_)
  cases hf
  exact q_vret C hP hS rfl dX3_skipBlanks_50

-- X3_isDigit
def t_isDigit  (a1 : Int32) : Option (Int32) := if a1 < 48 then some 0 else if 57 < a1 then some 0 else some 1
abbrev rmX3_isDigit : Room := { frames := 0, cells := 0, slots := 0, locals := 0 }
theorem hdX3_isDigit : yX3_isDigit.cls ≠ "java/lang/invoke/MethodHandle" ∧ yX3_isDigit.cls ≠ "java/lang/invoke/VarHandle" ∧ (parseMethodDescriptor yX3_isDigit.desc).map (fun d => d.parameters.length) = some 1 := by decide +kernel
set_option maxHeartbeats 4000000 in
set_option maxRecDepth 100000 in
theorem c_X3_isDigit {l : Launch} {G : Gx} {w : va_W}  {a1 : Int32} {x : Int32} (hf : t_isDigit a1 = some x) : QM l G yX3_isDigit wsX3_isDigit rmX3_isDigit [.int a1] (w) (w) (some (.int x)) := by
  refine QM.of (cc := cX3_isDigit) (maxL := 1) (ret := (some .boolean)) (by decide) rfl (Nat.le_of_ble_eq_true rfl) ?_
  intro p e s m below meth c A ls C hD hP hS hl
  have hx := C.1
  have hb := C.2.1
  have hl : lv_has ls 1 [(0, .int a1)] := hl
  unfold t_isDigit at hf
  refine lv_iload_n hx hb dX3_isDigit_0 rfl (lv_at hl 0 rfl) ?_
  refine lv_bipush (v := 48) hx hb dX3_isDigit_1 (by decide) ?_
  refine lv_icmp_lt (tgt := 16) hx hb dX3_isDigit_3 (by decide) (fun c1 => ?_) (fun c1 => ?_)
  · have hf := if_t c1 hf
    refine lv_iconst (v := 0) hx hb dX3_isDigit_16 (by decide) ?_
    cases hf
    exact q_zret C hP hS rfl (gb_nar (Or.inl rfl)) dX3_isDigit_17
  · have hf := if_f c1 hf
    refine lv_iload_n hx hb dX3_isDigit_6 rfl (lv_at hl 0 rfl) ?_
    refine lv_bipush (v := 57) hx hb dX3_isDigit_7 (by decide) ?_
    refine lv_icmp_gt (tgt := 16) hx hb dX3_isDigit_9 (by decide) (fun c2 => ?_) (fun c2 => ?_)
    · have hf := if_t c2 hf
      refine lv_iconst (v := 0) hx hb dX3_isDigit_16 (by decide) ?_
      cases hf
      exact q_zret C hP hS rfl (gb_nar (Or.inl rfl)) dX3_isDigit_17
    · have hf := if_f c2 hf
      refine lv_iconst (v := 1) hx hb dX3_isDigit_12 (by decide) ?_
      refine lv_goto (tgt := 17) hx hb dX3_isDigit_13 (by decide) ?_
      cases hf
      exact q_zret C hP hS rfl (gb_nar (Or.inr rfl)) dX3_isDigit_17

-- X3_readDigits
theorem hiX3_readDigits_X3 : ∀ w ∈ u_ws RX3 TX3 14, w ∈ wsX3_readDigits := mem_run (i := 15) (by decide +kernel)
theorem wdX3_readDigits_2 : (Cond.fieldLink RX3 46 "CombinatorRing$TextReader" "place" "I") ∈ wsX3_readDigits := List.mem_of_getElem? (i := 2) rfl
theorem wdX3_readDigits_4 : (Cond.fieldLink RX3 87 "CombinatorRing$TextReader" "start" "I") ∈ wsX3_readDigits := List.mem_of_getElem? (i := 4) rfl
theorem wdX3_readDigits_5 : (Cond.fieldLink RX3 64 "CombinatorRing$TextReader" "token" "I") ∈ wsX3_readDigits := List.mem_of_getElem? (i := 5) rfl
theorem wdX3_readDigits_1 : (Cond.fieldLink RX3 84 "CombinatorRing$TextReader" "value" "I") ∈ wsX3_readDigits := List.mem_of_getElem? (i := 1) rfl
theorem wdX3_readDigits_3 : (Cond.fieldLink RX3 42 "CombinatorRing$TextReader" "length" "I") ∈ wsX3_readDigits := List.mem_of_getElem? (i := 3) rfl
def t_readDigits_5 : Nat → OSt → Nat → (Nat → Int32) → NSt → Option (OSt)
  | 0, _, _, _, _ => none
  | n + 1, tt, ka, sa, sn => if (tt.1 2) ≤ (tt.1 3) then some tt else bd (t_byteAt tt ka sa sn (tt.1 3)) fun x6 => bd (t_isDigit x6) fun x7 => if x7 = 0 then some tt else bd (t_byteAt tt ka sa sn (tt.1 3)) fun x9 => nm (sI tt 6 (((10 * (tt.1 6)) + x9) - 48)) fun s10 => nm (sI s10 3 ((s10.1 3) + 1)) fun s11 => t_readDigits_5 n s11 ka sa sn 
def t_readDigits (tt : OSt) (ka : Nat) (sa : (Nat → Int32)) (sn : NSt)  : Option (OSt) := nm (sI tt 6 0) fun s1 => bd (t_readDigits_5 20000 s1 ka sa sn) fun x2 => if 3 < ((x2.1 3) - (x2.1 5)) then some x2 else nm (sI x2 4 3) fun s4 => some s4
abbrev rmX3_readDigits : Room := { frames := 1, cells := 0, slots := 0, locals := 21 }
theorem hdX3_readDigits : yX3_readDigits.cls = RX3 ∧ yX3_readDigits.cls ≠ "java/lang/invoke/MethodHandle" ∧ yX3_readDigits.cls ≠ "java/lang/invoke/VarHandle" ∧ (parseMethodDescriptor yX3_readDigits.desc).map (fun d => d.parameters.length) = some 0 := by decide +kernel
set_option maxHeartbeats 4000000 in
set_option maxRecDepth 100000 in
theorem t_X3_readDigits_5 {p : Program} {l : Launch} {e : Env} {s : State} {m : MethodId} {args : Array Value} {below : List Frame} {meth : Method} {c : Code} {Q : State → Prop} {A : Nat → Prop} {G : Gx} {qt : Nat → Nat} {da ka : Nat} {qn : Nat → Nat} {tt0 : OSt} {sa0 : (Nat → Int32)} {sn0 : NSt} (C : Cx p s m args meth c G cX3_readDigits wsX3_readDigits RX3 none 1 A) (hD : va_D A (wT G qt da (qn 15) tt0 ++ (wA G da ka sa0 ++ wN G qn sn0))) :
    ∀ {n : Nat} {tt : OSt} {sa : (Nat → Int32)} {sn : NSt}  {x : OSt}, t_readDigits_5 n tt ka sa sn = some x → ∀ {H : Heap} {locs : List Loc} {ls : Array Slot}, va_P G.1 vwCl (wT G qt da (qn 15) tt ++ (wA G da ka sa ++ wN G qn sn)) H → va_S A s.heap H locs → lv_has ls 1 [(0, .ref (qt 14))] → (∀ {H : Heap} {locs : List Loc} {ls : Array Slot}, va_P G.1 vwCl (wT G qt da (qn 15) x ++ (wA G da ka sa ++ wN G qn sn)) H → va_S A s.heap H locs → lv_has ls 1 [(0, .ref (qt 14))] → W p l e rmX3_readDigits s m args below meth c H locs 0 0 Q (F0 m 66 ls [])) → W p l e rmX3_readDigits s m args below meth c H locs 0 0 Q (F0 m 5 ls []) := by
  have hx := C.1
  have hb := C.2.1
  intro n
  induction n with
  | zero => intro tt sa sn x hf; cases hf
  | succ n ih =>
    intro tt sa sn x hf H locs ls hP hS hl kk
    rw [t_readDigits_5] at hf
    refine lv_aload_n hx hb dX3_readDigits_5 rfl (lv_at hl 0 rfl) ?_
    refine q_get C hP (q0 := 0) rfl rfl hiX3_readDigits_X3 3 (by decide) wdX3_readDigits_2 rfl dX3_readDigits_6 ?_
    refine lv_aload_n hx hb dX3_readDigits_9 rfl (lv_at hl 0 rfl) ?_
    refine q_get C hP (q0 := 0) rfl rfl hiX3_readDigits_X3 2 (by decide) wdX3_readDigits_3 rfl dX3_readDigits_10 ?_
    refine lv_icmp_ge (tgt := 66) hx hb dX3_readDigits_13 (by decide) (fun c5 => ?_) (fun c5 => ?_)
    · have hf := if_t c5 hf
      cases hf
      exact kk hP hS (lv_sub hl [0] rfl)
    · have hf := if_f c5 hf
      refine lv_aload_n hx hb dX3_readDigits_16 rfl (lv_at hl 0 rfl) ?_
      refine lv_aload_n hx hb dX3_readDigits_17 rfl (lv_at hl 0 rfl) ?_
      refine q_get C hP (q0 := 0) rfl rfl hiX3_readDigits_X3 3 (by decide) wdX3_readDigits_2 rfl dX3_readDigits_18 ?_
      obtain ⟨x6, hx6, hf⟩ := bd_some hf
      refine q_Vi C (rc := (RX3, TX3, 14)) (q0 := 0) (ci := 3) (ws' := wT G qt da (qn 15) tt ++ (wA G da ka sa ++ wN G qn sn)) (wr := []) (c_X3_byteAt hx6) gX3_readDigits_X3_byteAt rfl ⟨rfl, rfl⟩ hdX3_byteAt ⟨(Nat.le_of_ble_eq_true rfl), (Nat.le_of_ble_eq_true rfl)⟩ rfl hP (dd_TAN hD) hS rfl rfl (List.Perm.refl _) (List.Perm.refl _) hl.1 (Nat.le_of_ble_eq_true rfl) ⟨Nat.zero_le _, Nat.zero_le _⟩ rfl dX3_readDigits_21 (fun H locs hP hS => ?_)
      obtain ⟨x7, hx7, hf⟩ := bd_some hf
      refine q_Si C (ws' := wT G qt da (qn 15) tt ++ (wA G da ka sa ++ wN G qn sn)) (wr := []) (c_X3_isDigit (w := wT G qt da (qn 15) tt ++ (wA G da ka sa ++ wN G qn sn)) hx7) gX3_readDigits_X3_isDigit rfl ⟨rfl, rfl⟩ hdX3_isDigit ⟨(Nat.le_of_ble_eq_true rfl), (Nat.le_of_ble_eq_true rfl)⟩ rfl hP (dd_TAN hD) hS (List.Perm.refl _) (List.Perm.refl _) hl.1 (Nat.le_of_ble_eq_true rfl) ⟨Nat.zero_le _, Nat.zero_le _⟩ rfl dX3_readDigits_24 (fun H locs hP hS => ?_)
      refine lv_if_eq (tgt := 66) hx hb dX3_readDigits_27 (by decide) (fun c8 => ?_) (fun c8 => ?_)
      · have hf := if_t c8 hf
        cases hf
        exact kk hP hS (lv_sub hl [0] rfl)
      · have hf := if_f c8 hf
        refine lv_aload_n hx hb dX3_readDigits_30 rfl (lv_at hl 0 rfl) ?_
        refine lv_bipush (v := 10) hx hb dX3_readDigits_31 (by decide) ?_
        refine lv_aload_n hx hb dX3_readDigits_33 rfl (lv_at hl 0 rfl) ?_
        refine q_get C hP (q0 := 0) rfl rfl hiX3_readDigits_X3 6 (by decide) wdX3_readDigits_1 rfl dX3_readDigits_34 ?_
        refine lv_imul hx hb dX3_readDigits_37 ?_
        refine lv_aload_n hx hb dX3_readDigits_38 rfl (lv_at hl 0 rfl) ?_
        refine lv_aload_n hx hb dX3_readDigits_39 rfl (lv_at hl 0 rfl) ?_
        refine q_get C hP (q0 := 0) rfl rfl hiX3_readDigits_X3 3 (by decide) wdX3_readDigits_2 rfl dX3_readDigits_40 ?_
        obtain ⟨x9, hx9, hf⟩ := bd_some hf
        refine q_Vi C (rc := (RX3, TX3, 14)) (q0 := 0) (ci := 3) (ws' := wT G qt da (qn 15) tt ++ (wA G da ka sa ++ wN G qn sn)) (wr := []) (c_X3_byteAt hx9) gX3_readDigits_X3_byteAt rfl ⟨rfl, rfl⟩ hdX3_byteAt ⟨(Nat.le_of_ble_eq_true rfl), (Nat.le_of_ble_eq_true rfl)⟩ rfl hP (dd_TAN hD) hS rfl rfl (List.Perm.refl _) (List.Perm.refl _) hl.1 (Nat.le_of_ble_eq_true rfl) ⟨Nat.zero_le _, Nat.zero_le _⟩ rfl dX3_readDigits_43 (fun H locs hP hS => ?_)
        refine lv_iadd hx hb dX3_readDigits_46 ?_
        refine lv_bipush (v := 48) hx hb dX3_readDigits_47 (by decide) ?_
        refine lv_isub hx hb dX3_readDigits_49 ?_
        obtain ⟨s10, es10, hf⟩ := nm_ex hf
        refine q_put C hP (dd_TAN hD) hS (q0 := 0) rfl rfl hiX3_readDigits_X3 tyX3_ok nmX3 6 (by decide) wdX3_readDigits_1 rfl rfl rfl (Nat.le_of_ble_eq_true rfl) rfl dX3_readDigits_50 (fun H locs hP hS => ?_)
        have hP : va_P G.1 vwCl (wT G qt da (qn 15) s10 ++ (wA G da ka sa ++ wN G qn sn)) H := by rw [← es10]; exact hP
        refine lv_aload_n hx hb dX3_readDigits_53 rfl (lv_at hl 0 rfl) ?_
        refine lv_dup hx hb dX3_readDigits_54 rfl ?_
        refine q_get C hP (q0 := 0) rfl rfl hiX3_readDigits_X3 3 (by decide) wdX3_readDigits_2 rfl dX3_readDigits_55 ?_
        refine lv_iconst (v := 1) hx hb dX3_readDigits_58 (by decide) ?_
        refine lv_iadd hx hb dX3_readDigits_59 ?_
        obtain ⟨s11, es11, hf⟩ := nm_ex hf
        refine q_put C hP (dd_TAN hD) hS (q0 := 0) rfl rfl hiX3_readDigits_X3 tyX3_ok nmX3 3 (by decide) wdX3_readDigits_2 rfl rfl rfl (Nat.le_of_ble_eq_true rfl) rfl dX3_readDigits_60 (fun H locs hP hS => ?_)
        have hP : va_P G.1 vwCl (wT G qt da (qn 15) s11 ++ (wA G da ka sa ++ wN G qn sn)) H := by rw [← es11]; exact hP
        refine lv_goto (tgt := 5) hx hb dX3_readDigits_63 (by decide) ?_
        exact ih hf hP hS (lv_sub hl [0] rfl) kk
set_option maxHeartbeats 4000000 in
set_option maxRecDepth 100000 in
theorem c_X3_readDigits {l : Launch} {G : Gx} {qt : Nat → Nat} {da ka : Nat} {qn : Nat → Nat} {tt : OSt} {sa : (Nat → Int32)} {sn : NSt}  {x : OSt} (hf : t_readDigits tt ka sa sn = some x) : QM l G yX3_readDigits wsX3_readDigits rmX3_readDigits [.ref (qt 14)] (wT G qt da (qn 15) tt ++ (wA G da ka sa ++ wN G qn sn)) (wT G qt da (qn 15) x ++ (wA G da ka sa ++ wN G qn sn)) none := by
  refine QM.of (cc := cX3_readDigits) (maxL := 1) (ret := none) (by decide) rfl (Nat.le_of_ble_eq_true rfl) ?_
  intro p e s m below meth c A ls C hD hP hS hl
  have hx := C.1
  have hb := C.2.1
  have hl : lv_has ls 1 [(0, .ref (qt 14))] := hl
  unfold t_readDigits at hf
  refine lv_aload_n hx hb dX3_readDigits_0 rfl (lv_at hl 0 rfl) ?_
  refine lv_iconst (v := 0) hx hb dX3_readDigits_1 (by decide) ?_
  obtain ⟨s1, es1, hf⟩ := nm_ex hf
  refine q_put C hP (dd_TAN hD) hS (q0 := 0) rfl rfl hiX3_readDigits_X3 tyX3_ok nmX3 6 (by decide) wdX3_readDigits_1 rfl rfl rfl (Nat.le_of_ble_eq_true rfl) rfl dX3_readDigits_2 (fun H locs hP hS => ?_)
  have hP : va_P G.1 vwCl (wT G qt da (qn 15) s1 ++ (wA G da ka sa ++ wN G qn sn)) H := by rw [← es1]; exact hP
  obtain ⟨x2, hx2, hf⟩ := bd_some hf
  refine t_X3_readDigits_5 C hD hx2 hP hS (lv_sub hl [0] rfl) (fun {H locs ls} hP hS hl => ?_)
  refine lv_aload_n hx hb dX3_readDigits_66 rfl (lv_at hl 0 rfl) ?_
  refine q_get C hP (q0 := 0) rfl rfl hiX3_readDigits_X3 3 (by decide) wdX3_readDigits_2 rfl dX3_readDigits_67 ?_
  refine lv_aload_n hx hb dX3_readDigits_70 rfl (lv_at hl 0 rfl) ?_
  refine q_get C hP (q0 := 0) rfl rfl hiX3_readDigits_X3 5 (by decide) wdX3_readDigits_4 rfl dX3_readDigits_71 ?_
  refine lv_isub hx hb dX3_readDigits_74 ?_
  refine lv_iconst (v := 3) hx hb dX3_readDigits_75 (by decide) ?_
  refine lv_icmp_gt (tgt := 84) hx hb dX3_readDigits_76 (by decide) (fun c3 => ?_) (fun c3 => ?_)
  · have hf := if_t c3 hf
    cases hf
    exact q_vret C hP hS rfl dX3_readDigits_84
  · have hf := if_f c3 hf
    refine lv_aload_n hx hb dX3_readDigits_79 rfl (lv_at hl 0 rfl) ?_
    refine lv_iconst (v := 3) hx hb dX3_readDigits_80 (by decide) ?_
    obtain ⟨s4, es4, hf⟩ := nm_ex hf
    refine q_put C hP (dd_TAN hD) hS (q0 := 0) rfl rfl hiX3_readDigits_X3 tyX3_ok nmX3 4 (by decide) wdX3_readDigits_5 rfl rfl rfl (Nat.le_of_ble_eq_true rfl) rfl dX3_readDigits_81 (fun H locs hP hS => ?_)
    have hP : va_P G.1 vwCl (wT G qt da (qn 15) s4 ++ (wA G da ka sa ++ wN G qn sn)) H := by rw [← es4]; exact hP
    cases hf
    exact q_vret C hP hS rfl dX3_readDigits_84

-- X3_isLetter
def t_isLetter  (a1 : Int32) : Option (Int32) := if a1 < 97 then some 0 else if 122 < a1 then some 0 else some 1
abbrev rmX3_isLetter : Room := { frames := 0, cells := 0, slots := 0, locals := 0 }
theorem hdX3_isLetter : yX3_isLetter.cls ≠ "java/lang/invoke/MethodHandle" ∧ yX3_isLetter.cls ≠ "java/lang/invoke/VarHandle" ∧ (parseMethodDescriptor yX3_isLetter.desc).map (fun d => d.parameters.length) = some 1 := by decide +kernel
set_option maxHeartbeats 4000000 in
set_option maxRecDepth 100000 in
theorem c_X3_isLetter {l : Launch} {G : Gx} {w : va_W}  {a1 : Int32} {x : Int32} (hf : t_isLetter a1 = some x) : QM l G yX3_isLetter wsX3_isLetter rmX3_isLetter [.int a1] (w) (w) (some (.int x)) := by
  refine QM.of (cc := cX3_isLetter) (maxL := 1) (ret := (some .boolean)) (by decide) rfl (Nat.le_of_ble_eq_true rfl) ?_
  intro p e s m below meth c A ls C hD hP hS hl
  have hx := C.1
  have hb := C.2.1
  have hl : lv_has ls 1 [(0, .int a1)] := hl
  unfold t_isLetter at hf
  refine lv_iload_n hx hb dX3_isLetter_0 rfl (lv_at hl 0 rfl) ?_
  refine lv_bipush (v := 97) hx hb dX3_isLetter_1 (by decide) ?_
  refine lv_icmp_lt (tgt := 16) hx hb dX3_isLetter_3 (by decide) (fun c1 => ?_) (fun c1 => ?_)
  · have hf := if_t c1 hf
    refine lv_iconst (v := 0) hx hb dX3_isLetter_16 (by decide) ?_
    cases hf
    exact q_zret C hP hS rfl (gb_nar (Or.inl rfl)) dX3_isLetter_17
  · have hf := if_f c1 hf
    refine lv_iload_n hx hb dX3_isLetter_6 rfl (lv_at hl 0 rfl) ?_
    refine lv_bipush (v := 122) hx hb dX3_isLetter_7 (by decide) ?_
    refine lv_icmp_gt (tgt := 16) hx hb dX3_isLetter_9 (by decide) (fun c2 => ?_) (fun c2 => ?_)
    · have hf := if_t c2 hf
      refine lv_iconst (v := 0) hx hb dX3_isLetter_16 (by decide) ?_
      cases hf
      exact q_zret C hP hS rfl (gb_nar (Or.inl rfl)) dX3_isLetter_17
    · have hf := if_f c2 hf
      refine lv_iconst (v := 1) hx hb dX3_isLetter_12 (by decide) ?_
      refine lv_goto (tgt := 17) hx hb dX3_isLetter_13 (by decide) ?_
      cases hf
      exact q_zret C hP hS rfl (gb_nar (Or.inr rfl)) dX3_isLetter_17

-- X3_readWord
theorem hiX3_readWord_X3 : ∀ w ∈ u_ws RX3 TX3 14, w ∈ wsX3_readWord := mem_run (i := 64) (by decide +kernel)
theorem wdX3_readWord_1 : (Cond.fieldLink RX3 84 "CombinatorRing$TextReader" "value" "I") ∈ wsX3_readWord := List.mem_of_getElem? (i := 1) rfl
theorem wdX3_readWord_2 : (Cond.fieldLink RX3 46 "CombinatorRing$TextReader" "place" "I") ∈ wsX3_readWord := List.mem_of_getElem? (i := 2) rfl
theorem wdX3_readWord_3 : (Cond.fieldLink RX3 42 "CombinatorRing$TextReader" "length" "I") ∈ wsX3_readWord := List.mem_of_getElem? (i := 3) rfl
theorem wdX3_readWord_4 : (Cond.fieldLink RX3 87 "CombinatorRing$TextReader" "start" "I") ∈ wsX3_readWord := List.mem_of_getElem? (i := 4) rfl
theorem wdX3_readWord_5 : (Cond.fieldLink RX3 64 "CombinatorRing$TextReader" "token" "I") ∈ wsX3_readWord := List.mem_of_getElem? (i := 5) rfl
def t_readWord_7 : Nat → OSt → Nat → (Nat → Int32) → NSt → Int32 → Option (OSt × Int32)
  | 0, _, _, _, _, _ => none
  | n + 1, tt, ka, sa, sn, v1 => if (tt.1 2) ≤ (tt.1 3) then some (tt, v1) else bd (t_byteAt tt ka sa sn (tt.1 3)) fun x4 => bd (t_isLetter x4) fun x5 => if x5 = 0 then some (tt, v1) else if v1 = 0 then bd (t_byteAt tt ka sa sn (tt.1 3)) fun x8 => nm (sI tt 6 ((((27 * (tt.1 6)) + x8) - 97) + 1)) fun s9 => nm (sI s9 3 ((s9.1 3) + 1)) fun s10 => t_readWord_7 n s10 ka sa sn 0 else bd (js_length 0) fun x11 => if x11 ≤ ((tt.1 3) - (tt.1 5)) then bd (t_byteAt tt ka sa sn (tt.1 3)) fun x13 => nm (sI tt 6 ((((27 * (tt.1 6)) + x13) - 97) + 1)) fun s14 => nm (sI s14 3 ((s14.1 3) + 1)) fun s15 => t_readWord_7 n s15 ka sa sn 0 else bd (t_byteAt tt ka sa sn (tt.1 3)) fun x16 => bd (js_charAt 0 ((tt.1 3) - (tt.1 5))) fun x17 => if x16 = x17 then bd (t_byteAt tt ka sa sn (tt.1 3)) fun x22 => nm (sI tt 6 ((((27 * (tt.1 6)) + x22) - 97) + 1)) fun s23 => nm (sI s23 3 ((s23.1 3) + 1)) fun s24 => t_readWord_7 n s24 ka sa sn 1 else bd (t_byteAt tt ka sa sn (tt.1 3)) fun x19 => nm (sI tt 6 ((((27 * (tt.1 6)) + x19) - 97) + 1)) fun s20 => nm (sI s20 3 ((s20.1 3) + 1)) fun s21 => t_readWord_7 n s21 ka sa sn 0
def t_readWord_116 (tt : OSt) (ka : Nat) (sa : (Nat → Int32)) (sn : NSt) (v1 : Int32) : Option (OSt) := if 5 < ((tt.1 3) - (tt.1 5)) then if v1 = 0 then some tt else bd (js_length 0) fun x27 => if ((tt.1 3) - (tt.1 5)) = x27 then nm (sI tt 4 4) fun s29 => some s29 else some tt else nm (sI tt 4 2) fun s30 => some s30
def t_readWord (tt : OSt) (ka : Nat) (sa : (Nat → Int32)) (sn : NSt)  : Option (OSt) := nm (sI tt 6 0) fun s1 => bd (t_readWord_7 20000 s1 ka sa sn 1) fun x2 => t_readWord_116 x2.1 ka sa sn x2.2
abbrev rmX3_readWord : Room := { frames := 4, cells := 0, slots := 0, locals := 85 }
theorem hdX3_readWord : yX3_readWord.cls = RX3 ∧ yX3_readWord.cls ≠ "java/lang/invoke/MethodHandle" ∧ yX3_readWord.cls ≠ "java/lang/invoke/VarHandle" ∧ (parseMethodDescriptor yX3_readWord.desc).map (fun d => d.parameters.length) = some 0 := by decide +kernel
set_option maxHeartbeats 4000000 in
set_option maxRecDepth 100000 in
theorem t_X3_readWord_7 {p : Program} {l : Launch} {e : Env} {s : State} {m : MethodId} {args : Array Value} {below : List Frame} {meth : Method} {c : Code} {Q : State → Prop} {A : Nat → Prop} {G : Gx} {qt : Nat → Nat} {da ka : Nat} {qn : Nat → Nat} {tt0 : OSt} {sa0 : (Nat → Int32)} {sn0 : NSt} (C : Cx p s m args meth c G cX3_readWord wsX3_readWord RX3 none 3 A) (hD : va_D A (wT G qt da (qn 15) tt0 ++ (wA G da ka sa0 ++ wN G qn sn0))) :
    ∀ {n : Nat} {tt : OSt} {sa : (Nat → Int32)} {sn : NSt} {v1 : Int32} {x : OSt × Int32}, t_readWord_7 n tt ka sa sn v1 = some x → ∀ {H : Heap} {locs : List Loc} {ls : Array Slot}, va_P G.1 vwCl (wT G qt da (qn 15) tt ++ (wA G da ka sa ++ wN G qn sn)) H → va_S A s.heap H locs → lv_has ls 3 [(0, .ref (qt 14)), (1, .int v1)] → (∀ {H : Heap} {locs : List Loc} {ls : Array Slot}, va_P G.1 vwCl (wT G qt da (qn 15) x.1 ++ (wA G da ka sa ++ wN G qn sn)) H → va_S A s.heap H locs → lv_has ls 3 [(0, .ref (qt 14)), (1, .int x.2)] → W p l e rmX3_readWord s m args below meth c H locs 0 0 Q (F0 m 116 ls [])) → W p l e rmX3_readWord s m args below meth c H locs 0 0 Q (F0 m 7 ls []) := by
  have hx := C.1
  have hb := C.2.1
  intro n
  induction n with
  | zero => intro tt sa sn v1 x hf; cases hf
  | succ n ih =>
    intro tt sa sn v1 x hf H locs ls hP hS hl kk
    rw [t_readWord_7] at hf
    refine lv_aload_n hx hb dX3_readWord_7 rfl (lv_at hl 0 rfl) ?_
    refine q_get C hP (q0 := 0) rfl rfl hiX3_readWord_X3 3 (by decide) wdX3_readWord_2 rfl dX3_readWord_8 ?_
    refine lv_aload_n hx hb dX3_readWord_11 rfl (lv_at hl 0 rfl) ?_
    refine q_get C hP (q0 := 0) rfl rfl hiX3_readWord_X3 2 (by decide) wdX3_readWord_3 rfl dX3_readWord_12 ?_
    refine lv_icmp_ge (tgt := 116) hx hb dX3_readWord_15 (by decide) (fun c3 => ?_) (fun c3 => ?_)
    · have hf := if_t c3 hf
      cases hf
      exact kk hP hS (lv_sub hl [0, 1] rfl)
    · have hf := if_f c3 hf
      refine lv_aload_n hx hb dX3_readWord_18 rfl (lv_at hl 0 rfl) ?_
      refine lv_aload_n hx hb dX3_readWord_19 rfl (lv_at hl 0 rfl) ?_
      refine q_get C hP (q0 := 0) rfl rfl hiX3_readWord_X3 3 (by decide) wdX3_readWord_2 rfl dX3_readWord_20 ?_
      obtain ⟨x4, hx4, hf⟩ := bd_some hf
      refine q_Vi C (rc := (RX3, TX3, 14)) (q0 := 0) (ci := 3) (ws' := wT G qt da (qn 15) tt ++ (wA G da ka sa ++ wN G qn sn)) (wr := []) (c_X3_byteAt hx4) gX3_readWord_X3_byteAt rfl ⟨rfl, rfl⟩ hdX3_byteAt ⟨(Nat.le_of_ble_eq_true rfl), (Nat.le_of_ble_eq_true rfl)⟩ rfl hP (dd_TAN hD) hS rfl rfl (List.Perm.refl _) (List.Perm.refl _) hl.1 (Nat.le_of_ble_eq_true rfl) ⟨Nat.zero_le _, Nat.zero_le _⟩ rfl dX3_readWord_23 (fun H locs hP hS => ?_)
      obtain ⟨x5, hx5, hf⟩ := bd_some hf
      refine q_Si C (ws' := wT G qt da (qn 15) tt ++ (wA G da ka sa ++ wN G qn sn)) (wr := []) (c_X3_isLetter (w := wT G qt da (qn 15) tt ++ (wA G da ka sa ++ wN G qn sn)) hx5) gX3_readWord_X3_isLetter rfl ⟨rfl, rfl⟩ hdX3_isLetter ⟨(Nat.le_of_ble_eq_true rfl), (Nat.le_of_ble_eq_true rfl)⟩ rfl hP (dd_TAN hD) hS (List.Perm.refl _) (List.Perm.refl _) hl.1 (Nat.le_of_ble_eq_true rfl) ⟨Nat.zero_le _, Nat.zero_le _⟩ rfl dX3_readWord_26 (fun H locs hP hS => ?_)
      refine lv_if_eq (tgt := 116) hx hb dX3_readWord_29 (by decide) (fun c6 => ?_) (fun c6 => ?_)
      · have hf := if_t c6 hf
        cases hf
        exact kk hP hS (lv_sub hl [0, 1] rfl)
      · have hf := if_f c6 hf
        refine lv_aload_n hx hb dX3_readWord_32 rfl (lv_at hl 0 rfl) ?_
        refine q_get C hP (q0 := 0) rfl rfl hiX3_readWord_X3 3 (by decide) wdX3_readWord_2 rfl dX3_readWord_33 ?_
        refine lv_aload_n hx hb dX3_readWord_36 rfl (lv_at hl 0 rfl) ?_
        refine q_get C hP (q0 := 0) rfl rfl hiX3_readWord_X3 5 (by decide) wdX3_readWord_4 rfl dX3_readWord_37 ?_
        refine lv_isub hx hb dX3_readWord_40 ?_
        refine lv_istore_n (lv' := [(2, .int ((tt.1 3) - (tt.1 5))), (0, .ref (qt 14)), (1, .int v1)]) hx hb dX3_readWord_41 rfl hl (by decide) rfl (fun ls hl => ?_)
        refine lv_iload_n hx hb dX3_readWord_42 rfl (lv_at hl 2 rfl) ?_
        refine lv_if_eq (tgt := 76) hx hb dX3_readWord_43 (by decide) (fun c7 => ?_) (fun c7 => ?_)
        · have hf := if_t c7 hf
          refine lv_iconst (v := 0) hx hb dX3_readWord_76 (by decide) ?_
          refine lv_istore_n (lv' := [(1, .int 0), (2, .int ((tt.1 3) - (tt.1 5))), (0, .ref (qt 14))]) hx hb dX3_readWord_77 rfl hl (by decide) rfl (fun ls hl => ?_)
          refine lv_aload_n hx hb dX3_readWord_78 rfl (lv_at hl 2 rfl) ?_
          refine lv_bipush (v := 27) hx hb dX3_readWord_79 (by decide) ?_
          refine lv_aload_n hx hb dX3_readWord_81 rfl (lv_at hl 2 rfl) ?_
          refine q_get C hP (q0 := 0) rfl rfl hiX3_readWord_X3 6 (by decide) wdX3_readWord_1 rfl dX3_readWord_82 ?_
          refine lv_imul hx hb dX3_readWord_85 ?_
          refine lv_aload_n hx hb dX3_readWord_86 rfl (lv_at hl 2 rfl) ?_
          refine lv_aload_n hx hb dX3_readWord_87 rfl (lv_at hl 2 rfl) ?_
          refine q_get C hP (q0 := 0) rfl rfl hiX3_readWord_X3 3 (by decide) wdX3_readWord_2 rfl dX3_readWord_88 ?_
          obtain ⟨x8, hx8, hf⟩ := bd_some hf
          refine q_Vi C (rc := (RX3, TX3, 14)) (q0 := 0) (ci := 3) (ws' := wT G qt da (qn 15) tt ++ (wA G da ka sa ++ wN G qn sn)) (wr := []) (c_X3_byteAt hx8) gX3_readWord_X3_byteAt rfl ⟨rfl, rfl⟩ hdX3_byteAt ⟨(Nat.le_of_ble_eq_true rfl), (Nat.le_of_ble_eq_true rfl)⟩ rfl hP (dd_TAN hD) hS rfl rfl (List.Perm.refl _) (List.Perm.refl _) hl.1 (Nat.le_of_ble_eq_true rfl) ⟨Nat.zero_le _, Nat.zero_le _⟩ rfl dX3_readWord_91 (fun H locs hP hS => ?_)
          refine lv_iadd hx hb dX3_readWord_94 ?_
          refine lv_bipush (v := 97) hx hb dX3_readWord_95 (by decide) ?_
          refine lv_isub hx hb dX3_readWord_97 ?_
          refine lv_iconst (v := 1) hx hb dX3_readWord_98 (by decide) ?_
          refine lv_iadd hx hb dX3_readWord_99 ?_
          obtain ⟨s9, es9, hf⟩ := nm_ex hf
          refine q_put C hP (dd_TAN hD) hS (q0 := 0) rfl rfl hiX3_readWord_X3 tyX3_ok nmX3 6 (by decide) wdX3_readWord_1 rfl rfl rfl (Nat.le_of_ble_eq_true rfl) rfl dX3_readWord_100 (fun H locs hP hS => ?_)
          have hP : va_P G.1 vwCl (wT G qt da (qn 15) s9 ++ (wA G da ka sa ++ wN G qn sn)) H := by rw [← es9]; exact hP
          refine lv_aload_n hx hb dX3_readWord_103 rfl (lv_at hl 2 rfl) ?_
          refine lv_dup hx hb dX3_readWord_104 rfl ?_
          refine q_get C hP (q0 := 0) rfl rfl hiX3_readWord_X3 3 (by decide) wdX3_readWord_2 rfl dX3_readWord_105 ?_
          refine lv_iconst (v := 1) hx hb dX3_readWord_108 (by decide) ?_
          refine lv_iadd hx hb dX3_readWord_109 ?_
          obtain ⟨s10, es10, hf⟩ := nm_ex hf
          refine q_put C hP (dd_TAN hD) hS (q0 := 0) rfl rfl hiX3_readWord_X3 tyX3_ok nmX3 3 (by decide) wdX3_readWord_2 rfl rfl rfl (Nat.le_of_ble_eq_true rfl) rfl dX3_readWord_110 (fun H locs hP hS => ?_)
          have hP : va_P G.1 vwCl (wT G qt da (qn 15) s10 ++ (wA G da ka sa ++ wN G qn sn)) H := by rw [← es10]; exact hP
          refine lv_goto (tgt := 7) hx hb dX3_readWord_113 (by decide) ?_
          exact ih hf hP hS (lv_sub hl [2, 0] rfl) kk
        · have hf := if_f c7 hf
          refine lv_iload_n hx hb dX3_readWord_46 rfl (lv_at hl 0 rfl) ?_
          refine va_ldcS hx hb C.2.2.2.1 C.2.2.2.2.2.2.2.2.1.2.1.1 dX3_readWord_47 ?_
          obtain ⟨x11, hx11, hf⟩ := bd_some hf
          refine q_VRi C (Cn := RJ0) (ws' := wT G qt da (qn 15) tt ++ (wA G da ka sa ++ wN G qn sn)) (wr := []) (c_J0_length_8abf5 (w := wT G qt da (qn 15) tt ++ (wA G da ka sa ++ wN G qn sn)) (i := 0) (by decide) hx11) gX3_readWord_J0_length_8abf5 rfl ⟨rfl, rfl⟩ hdJ0_length_8abf5 ⟨(Nat.le_of_ble_eq_true rfl), (Nat.le_of_ble_eq_true rfl)⟩ rfl hP (dd_TAN hD) hS (vk_recv C.2.2.2.2.2.2.2.2.1.1 (i := 0) (by decide) hS) (List.Perm.refl _) (List.Perm.refl _) hl.1 (Nat.le_of_ble_eq_true rfl) ⟨Nat.zero_le _, Nat.zero_le _⟩ rfl dX3_readWord_49 (fun H locs hP hS => ?_)
          refine lv_icmp_ge (tgt := 76) hx hb dX3_readWord_52 (by decide) (fun c12 => ?_) (fun c12 => ?_)
          · have hf := if_t c12 hf
            refine lv_iconst (v := 0) hx hb dX3_readWord_76 (by decide) ?_
            refine lv_istore_n (lv' := [(1, .int 0), (2, .int ((tt.1 3) - (tt.1 5))), (0, .ref (qt 14))]) hx hb dX3_readWord_77 rfl hl (by decide) rfl (fun ls hl => ?_)
            refine lv_aload_n hx hb dX3_readWord_78 rfl (lv_at hl 2 rfl) ?_
            refine lv_bipush (v := 27) hx hb dX3_readWord_79 (by decide) ?_
            refine lv_aload_n hx hb dX3_readWord_81 rfl (lv_at hl 2 rfl) ?_
            refine q_get C hP (q0 := 0) rfl rfl hiX3_readWord_X3 6 (by decide) wdX3_readWord_1 rfl dX3_readWord_82 ?_
            refine lv_imul hx hb dX3_readWord_85 ?_
            refine lv_aload_n hx hb dX3_readWord_86 rfl (lv_at hl 2 rfl) ?_
            refine lv_aload_n hx hb dX3_readWord_87 rfl (lv_at hl 2 rfl) ?_
            refine q_get C hP (q0 := 0) rfl rfl hiX3_readWord_X3 3 (by decide) wdX3_readWord_2 rfl dX3_readWord_88 ?_
            obtain ⟨x13, hx13, hf⟩ := bd_some hf
            refine q_Vi C (rc := (RX3, TX3, 14)) (q0 := 0) (ci := 3) (ws' := wT G qt da (qn 15) tt ++ (wA G da ka sa ++ wN G qn sn)) (wr := []) (c_X3_byteAt hx13) gX3_readWord_X3_byteAt rfl ⟨rfl, rfl⟩ hdX3_byteAt ⟨(Nat.le_of_ble_eq_true rfl), (Nat.le_of_ble_eq_true rfl)⟩ rfl hP (dd_TAN hD) hS rfl rfl (List.Perm.refl _) (List.Perm.refl _) hl.1 (Nat.le_of_ble_eq_true rfl) ⟨Nat.zero_le _, Nat.zero_le _⟩ rfl dX3_readWord_91 (fun H locs hP hS => ?_)
            refine lv_iadd hx hb dX3_readWord_94 ?_
            refine lv_bipush (v := 97) hx hb dX3_readWord_95 (by decide) ?_
            refine lv_isub hx hb dX3_readWord_97 ?_
            refine lv_iconst (v := 1) hx hb dX3_readWord_98 (by decide) ?_
            refine lv_iadd hx hb dX3_readWord_99 ?_
            obtain ⟨s14, es14, hf⟩ := nm_ex hf
            refine q_put C hP (dd_TAN hD) hS (q0 := 0) rfl rfl hiX3_readWord_X3 tyX3_ok nmX3 6 (by decide) wdX3_readWord_1 rfl rfl rfl (Nat.le_of_ble_eq_true rfl) rfl dX3_readWord_100 (fun H locs hP hS => ?_)
            have hP : va_P G.1 vwCl (wT G qt da (qn 15) s14 ++ (wA G da ka sa ++ wN G qn sn)) H := by rw [← es14]; exact hP
            refine lv_aload_n hx hb dX3_readWord_103 rfl (lv_at hl 2 rfl) ?_
            refine lv_dup hx hb dX3_readWord_104 rfl ?_
            refine q_get C hP (q0 := 0) rfl rfl hiX3_readWord_X3 3 (by decide) wdX3_readWord_2 rfl dX3_readWord_105 ?_
            refine lv_iconst (v := 1) hx hb dX3_readWord_108 (by decide) ?_
            refine lv_iadd hx hb dX3_readWord_109 ?_
            obtain ⟨s15, es15, hf⟩ := nm_ex hf
            refine q_put C hP (dd_TAN hD) hS (q0 := 0) rfl rfl hiX3_readWord_X3 tyX3_ok nmX3 3 (by decide) wdX3_readWord_2 rfl rfl rfl (Nat.le_of_ble_eq_true rfl) rfl dX3_readWord_110 (fun H locs hP hS => ?_)
            have hP : va_P G.1 vwCl (wT G qt da (qn 15) s15 ++ (wA G da ka sa ++ wN G qn sn)) H := by rw [← es15]; exact hP
            refine lv_goto (tgt := 7) hx hb dX3_readWord_113 (by decide) ?_
            exact ih hf hP hS (lv_sub hl [2, 0] rfl) kk
          · have hf := if_f c12 hf
            refine lv_aload_n hx hb dX3_readWord_55 rfl (lv_at hl 1 rfl) ?_
            refine lv_aload_n hx hb dX3_readWord_56 rfl (lv_at hl 1 rfl) ?_
            refine q_get C hP (q0 := 0) rfl rfl hiX3_readWord_X3 3 (by decide) wdX3_readWord_2 rfl dX3_readWord_57 ?_
            obtain ⟨x16, hx16, hf⟩ := bd_some hf
            refine q_Vi C (rc := (RX3, TX3, 14)) (q0 := 0) (ci := 3) (ws' := wT G qt da (qn 15) tt ++ (wA G da ka sa ++ wN G qn sn)) (wr := []) (c_X3_byteAt hx16) gX3_readWord_X3_byteAt rfl ⟨rfl, rfl⟩ hdX3_byteAt ⟨(Nat.le_of_ble_eq_true rfl), (Nat.le_of_ble_eq_true rfl)⟩ rfl hP (dd_TAN hD) hS rfl rfl (List.Perm.refl _) (List.Perm.refl _) hl.1 (Nat.le_of_ble_eq_true rfl) ⟨Nat.zero_le _, Nat.zero_le _⟩ rfl dX3_readWord_60 (fun H locs hP hS => ?_)
            refine va_ldcS hx hb C.2.2.2.1 C.2.2.2.2.2.2.2.2.1.2.1.1 dX3_readWord_63 ?_
            refine lv_iload_n hx hb dX3_readWord_65 rfl (lv_at hl 0 rfl) ?_
            obtain ⟨x17, hx17, hf⟩ := bd_some hf
            refine q_VRi C (Cn := RJ0) (ws' := wT G qt da (qn 15) tt ++ (wA G da ka sa ++ wN G qn sn)) (wr := []) (c_J0_charAt_5068e (w := wT G qt da (qn 15) tt ++ (wA G da ka sa ++ wN G qn sn)) (i := 0) (by decide) hx17) gX3_readWord_J0_charAt_5068e rfl ⟨rfl, rfl⟩ hdJ0_charAt_5068e ⟨(Nat.le_of_ble_eq_true rfl), (Nat.le_of_ble_eq_true rfl)⟩ rfl hP (dd_TAN hD) hS (vk_recv C.2.2.2.2.2.2.2.2.1.1 (i := 0) (by decide) hS) (List.Perm.refl _) (List.Perm.refl _) hl.1 (Nat.le_of_ble_eq_true rfl) ⟨Nat.zero_le _, Nat.zero_le _⟩ rfl dX3_readWord_66 (fun H locs hP hS => ?_)
            refine lv_icmp_ne (tgt := 76) hx hb dX3_readWord_69 (by decide) (fun c18 => ?_) (fun c18 => ?_)
            · have hf := if_f c18 hf
              refine lv_iconst (v := 0) hx hb dX3_readWord_76 (by decide) ?_
              refine lv_istore_n (lv' := [(1, .int 0), (2, .int ((tt.1 3) - (tt.1 5))), (0, .ref (qt 14))]) hx hb dX3_readWord_77 rfl hl (by decide) rfl (fun ls hl => ?_)
              refine lv_aload_n hx hb dX3_readWord_78 rfl (lv_at hl 2 rfl) ?_
              refine lv_bipush (v := 27) hx hb dX3_readWord_79 (by decide) ?_
              refine lv_aload_n hx hb dX3_readWord_81 rfl (lv_at hl 2 rfl) ?_
              refine q_get C hP (q0 := 0) rfl rfl hiX3_readWord_X3 6 (by decide) wdX3_readWord_1 rfl dX3_readWord_82 ?_
              refine lv_imul hx hb dX3_readWord_85 ?_
              refine lv_aload_n hx hb dX3_readWord_86 rfl (lv_at hl 2 rfl) ?_
              refine lv_aload_n hx hb dX3_readWord_87 rfl (lv_at hl 2 rfl) ?_
              refine q_get C hP (q0 := 0) rfl rfl hiX3_readWord_X3 3 (by decide) wdX3_readWord_2 rfl dX3_readWord_88 ?_
              obtain ⟨x19, hx19, hf⟩ := bd_some hf
              refine q_Vi C (rc := (RX3, TX3, 14)) (q0 := 0) (ci := 3) (ws' := wT G qt da (qn 15) tt ++ (wA G da ka sa ++ wN G qn sn)) (wr := []) (c_X3_byteAt hx19) gX3_readWord_X3_byteAt rfl ⟨rfl, rfl⟩ hdX3_byteAt ⟨(Nat.le_of_ble_eq_true rfl), (Nat.le_of_ble_eq_true rfl)⟩ rfl hP (dd_TAN hD) hS rfl rfl (List.Perm.refl _) (List.Perm.refl _) hl.1 (Nat.le_of_ble_eq_true rfl) ⟨Nat.zero_le _, Nat.zero_le _⟩ rfl dX3_readWord_91 (fun H locs hP hS => ?_)
              refine lv_iadd hx hb dX3_readWord_94 ?_
              refine lv_bipush (v := 97) hx hb dX3_readWord_95 (by decide) ?_
              refine lv_isub hx hb dX3_readWord_97 ?_
              refine lv_iconst (v := 1) hx hb dX3_readWord_98 (by decide) ?_
              refine lv_iadd hx hb dX3_readWord_99 ?_
              obtain ⟨s20, es20, hf⟩ := nm_ex hf
              refine q_put C hP (dd_TAN hD) hS (q0 := 0) rfl rfl hiX3_readWord_X3 tyX3_ok nmX3 6 (by decide) wdX3_readWord_1 rfl rfl rfl (Nat.le_of_ble_eq_true rfl) rfl dX3_readWord_100 (fun H locs hP hS => ?_)
              have hP : va_P G.1 vwCl (wT G qt da (qn 15) s20 ++ (wA G da ka sa ++ wN G qn sn)) H := by rw [← es20]; exact hP
              refine lv_aload_n hx hb dX3_readWord_103 rfl (lv_at hl 2 rfl) ?_
              refine lv_dup hx hb dX3_readWord_104 rfl ?_
              refine q_get C hP (q0 := 0) rfl rfl hiX3_readWord_X3 3 (by decide) wdX3_readWord_2 rfl dX3_readWord_105 ?_
              refine lv_iconst (v := 1) hx hb dX3_readWord_108 (by decide) ?_
              refine lv_iadd hx hb dX3_readWord_109 ?_
              obtain ⟨s21, es21, hf⟩ := nm_ex hf
              refine q_put C hP (dd_TAN hD) hS (q0 := 0) rfl rfl hiX3_readWord_X3 tyX3_ok nmX3 3 (by decide) wdX3_readWord_2 rfl rfl rfl (Nat.le_of_ble_eq_true rfl) rfl dX3_readWord_110 (fun H locs hP hS => ?_)
              have hP : va_P G.1 vwCl (wT G qt da (qn 15) s21 ++ (wA G da ka sa ++ wN G qn sn)) H := by rw [← es21]; exact hP
              refine lv_goto (tgt := 7) hx hb dX3_readWord_113 (by decide) ?_
              exact ih hf hP hS (lv_sub hl [2, 0] rfl) kk
            · have hf := if_t c18 hf
              refine lv_iconst (v := 1) hx hb dX3_readWord_72 (by decide) ?_
              refine lv_goto (tgt := 77) hx hb dX3_readWord_73 (by decide) ?_
              refine lv_istore_n (lv' := [(1, .int 1), (2, .int ((tt.1 3) - (tt.1 5))), (0, .ref (qt 14))]) hx hb dX3_readWord_77 rfl hl (by decide) rfl (fun ls hl => ?_)
              refine lv_aload_n hx hb dX3_readWord_78 rfl (lv_at hl 2 rfl) ?_
              refine lv_bipush (v := 27) hx hb dX3_readWord_79 (by decide) ?_
              refine lv_aload_n hx hb dX3_readWord_81 rfl (lv_at hl 2 rfl) ?_
              refine q_get C hP (q0 := 0) rfl rfl hiX3_readWord_X3 6 (by decide) wdX3_readWord_1 rfl dX3_readWord_82 ?_
              refine lv_imul hx hb dX3_readWord_85 ?_
              refine lv_aload_n hx hb dX3_readWord_86 rfl (lv_at hl 2 rfl) ?_
              refine lv_aload_n hx hb dX3_readWord_87 rfl (lv_at hl 2 rfl) ?_
              refine q_get C hP (q0 := 0) rfl rfl hiX3_readWord_X3 3 (by decide) wdX3_readWord_2 rfl dX3_readWord_88 ?_
              obtain ⟨x22, hx22, hf⟩ := bd_some hf
              refine q_Vi C (rc := (RX3, TX3, 14)) (q0 := 0) (ci := 3) (ws' := wT G qt da (qn 15) tt ++ (wA G da ka sa ++ wN G qn sn)) (wr := []) (c_X3_byteAt hx22) gX3_readWord_X3_byteAt rfl ⟨rfl, rfl⟩ hdX3_byteAt ⟨(Nat.le_of_ble_eq_true rfl), (Nat.le_of_ble_eq_true rfl)⟩ rfl hP (dd_TAN hD) hS rfl rfl (List.Perm.refl _) (List.Perm.refl _) hl.1 (Nat.le_of_ble_eq_true rfl) ⟨Nat.zero_le _, Nat.zero_le _⟩ rfl dX3_readWord_91 (fun H locs hP hS => ?_)
              refine lv_iadd hx hb dX3_readWord_94 ?_
              refine lv_bipush (v := 97) hx hb dX3_readWord_95 (by decide) ?_
              refine lv_isub hx hb dX3_readWord_97 ?_
              refine lv_iconst (v := 1) hx hb dX3_readWord_98 (by decide) ?_
              refine lv_iadd hx hb dX3_readWord_99 ?_
              obtain ⟨s23, es23, hf⟩ := nm_ex hf
              refine q_put C hP (dd_TAN hD) hS (q0 := 0) rfl rfl hiX3_readWord_X3 tyX3_ok nmX3 6 (by decide) wdX3_readWord_1 rfl rfl rfl (Nat.le_of_ble_eq_true rfl) rfl dX3_readWord_100 (fun H locs hP hS => ?_)
              have hP : va_P G.1 vwCl (wT G qt da (qn 15) s23 ++ (wA G da ka sa ++ wN G qn sn)) H := by rw [← es23]; exact hP
              refine lv_aload_n hx hb dX3_readWord_103 rfl (lv_at hl 2 rfl) ?_
              refine lv_dup hx hb dX3_readWord_104 rfl ?_
              refine q_get C hP (q0 := 0) rfl rfl hiX3_readWord_X3 3 (by decide) wdX3_readWord_2 rfl dX3_readWord_105 ?_
              refine lv_iconst (v := 1) hx hb dX3_readWord_108 (by decide) ?_
              refine lv_iadd hx hb dX3_readWord_109 ?_
              obtain ⟨s24, es24, hf⟩ := nm_ex hf
              refine q_put C hP (dd_TAN hD) hS (q0 := 0) rfl rfl hiX3_readWord_X3 tyX3_ok nmX3 3 (by decide) wdX3_readWord_2 rfl rfl rfl (Nat.le_of_ble_eq_true rfl) rfl dX3_readWord_110 (fun H locs hP hS => ?_)
              have hP : va_P G.1 vwCl (wT G qt da (qn 15) s24 ++ (wA G da ka sa ++ wN G qn sn)) H := by rw [← es24]; exact hP
              refine lv_goto (tgt := 7) hx hb dX3_readWord_113 (by decide) ?_
              exact ih hf hP hS (lv_sub hl [2, 0] rfl) kk
set_option maxHeartbeats 4000000 in
set_option maxRecDepth 100000 in
theorem t_X3_readWord_116 {p : Program} {l : Launch} {e : Env} {s : State} {m : MethodId} {args : Array Value} {below : List Frame} {meth : Method} {c : Code} {A : Nat → Prop} {G : Gx} {qt : Nat → Nat} {da ka : Nat} {qn : Nat → Nat} {tt0 : OSt} {sa0 : (Nat → Int32)} {sn0 : NSt} (C : Cx p s m args meth c G cX3_readWord wsX3_readWord RX3 none 3 A) (hD : va_D A (wT G qt da (qn 15) tt0 ++ (wA G da ka sa0 ++ wN G qn sn0))) :
    ∀ {tt : OSt} {sa : (Nat → Int32)} {sn : NSt} {v1 : Int32} {x : OSt}, t_readWord_116 tt ka sa sn v1 = some x → ∀ {H : Heap} {locs : List Loc} {ls : Array Slot}, va_P G.1 vwCl (wT G qt da (qn 15) tt ++ (wA G da ka sa ++ wN G qn sn)) H → va_S A s.heap H locs → lv_has ls 3 [(0, .ref (qt 14)), (1, .int v1)] → W p l e rmX3_readWord s m args below meth c H locs 0 0 (MQ below (qE G A (wT G qt da (qn 15) x ++ (wA G da ka sa ++ wN G qn sn)) none) args s 0 0 A) (F0 m 116 ls []) := by
  have hx := C.1
  have hb := C.2.1
  intro tt sa sn v1 x hf H locs ls hP hS hl
  unfold t_readWord_116 at hf
  refine lv_aload_n hx hb dX3_readWord_116 rfl (lv_at hl 0 rfl) ?_
  refine q_get C hP (q0 := 0) rfl rfl hiX3_readWord_X3 3 (by decide) wdX3_readWord_2 rfl dX3_readWord_117 ?_
  refine lv_aload_n hx hb dX3_readWord_120 rfl (lv_at hl 0 rfl) ?_
  refine q_get C hP (q0 := 0) rfl rfl hiX3_readWord_X3 5 (by decide) wdX3_readWord_4 rfl dX3_readWord_121 ?_
  refine lv_isub hx hb dX3_readWord_124 ?_
  refine lv_iconst (v := 5) hx hb dX3_readWord_125 (by decide) ?_
  refine lv_icmp_gt (tgt := 137) hx hb dX3_readWord_126 (by decide) (fun c25 => ?_) (fun c25 => ?_)
  · have hf := if_t c25 hf
    refine lv_iload_n hx hb dX3_readWord_137 rfl (lv_at hl 1 rfl) ?_
    refine lv_if_eq (tgt := 163) hx hb dX3_readWord_138 (by decide) (fun c26 => ?_) (fun c26 => ?_)
    · have hf := if_t c26 hf
      cases hf
      exact q_vret C hP hS rfl dX3_readWord_163
    · have hf := if_f c26 hf
      refine lv_aload_n hx hb dX3_readWord_141 rfl (lv_at hl 0 rfl) ?_
      refine q_get C hP (q0 := 0) rfl rfl hiX3_readWord_X3 3 (by decide) wdX3_readWord_2 rfl dX3_readWord_142 ?_
      refine lv_aload_n hx hb dX3_readWord_145 rfl (lv_at hl 0 rfl) ?_
      refine q_get C hP (q0 := 0) rfl rfl hiX3_readWord_X3 5 (by decide) wdX3_readWord_4 rfl dX3_readWord_146 ?_
      refine lv_isub hx hb dX3_readWord_149 ?_
      refine va_ldcS hx hb C.2.2.2.1 C.2.2.2.2.2.2.2.2.1.2.1.1 dX3_readWord_150 ?_
      obtain ⟨x27, hx27, hf⟩ := bd_some hf
      refine q_VRi C (Cn := RJ0) (ws' := wT G qt da (qn 15) tt ++ (wA G da ka sa ++ wN G qn sn)) (wr := []) (c_J0_length_8abf5 (w := wT G qt da (qn 15) tt ++ (wA G da ka sa ++ wN G qn sn)) (i := 0) (by decide) hx27) gX3_readWord_J0_length_8abf5 rfl ⟨rfl, rfl⟩ hdJ0_length_8abf5 ⟨(Nat.le_of_ble_eq_true rfl), (Nat.le_of_ble_eq_true rfl)⟩ rfl hP (dd_TAN hD) hS (vk_recv C.2.2.2.2.2.2.2.2.1.1 (i := 0) (by decide) hS) (List.Perm.refl _) (List.Perm.refl _) hl.1 (Nat.le_of_ble_eq_true rfl) ⟨Nat.zero_le _, Nat.zero_le _⟩ rfl dX3_readWord_152 (fun H locs hP hS => ?_)
      refine lv_icmp_ne (tgt := 163) hx hb dX3_readWord_155 (by decide) (fun c28 => ?_) (fun c28 => ?_)
      · have hf := if_f c28 hf
        cases hf
        exact q_vret C hP hS rfl dX3_readWord_163
      · have hf := if_t c28 hf
        refine lv_aload_n hx hb dX3_readWord_158 rfl (lv_at hl 0 rfl) ?_
        refine lv_iconst (v := 4) hx hb dX3_readWord_159 (by decide) ?_
        obtain ⟨s29, es29, hf⟩ := nm_ex hf
        refine q_put C hP (dd_TAN hD) hS (q0 := 0) rfl rfl hiX3_readWord_X3 tyX3_ok nmX3 4 (by decide) wdX3_readWord_5 rfl rfl rfl (Nat.le_of_ble_eq_true rfl) rfl dX3_readWord_160 (fun H locs hP hS => ?_)
        have hP : va_P G.1 vwCl (wT G qt da (qn 15) s29 ++ (wA G da ka sa ++ wN G qn sn)) H := by rw [← es29]; exact hP
        cases hf
        exact q_vret C hP hS rfl dX3_readWord_163
  · have hf := if_f c25 hf
    refine lv_aload_n hx hb dX3_readWord_129 rfl (lv_at hl 0 rfl) ?_
    refine lv_iconst (v := 2) hx hb dX3_readWord_130 (by decide) ?_
    obtain ⟨s30, es30, hf⟩ := nm_ex hf
    refine q_put C hP (dd_TAN hD) hS (q0 := 0) rfl rfl hiX3_readWord_X3 tyX3_ok nmX3 4 (by decide) wdX3_readWord_5 rfl rfl rfl (Nat.le_of_ble_eq_true rfl) rfl dX3_readWord_131 (fun H locs hP hS => ?_)
    have hP : va_P G.1 vwCl (wT G qt da (qn 15) s30 ++ (wA G da ka sa ++ wN G qn sn)) H := by rw [← es30]; exact hP
    refine lv_goto (tgt := 163) hx hb dX3_readWord_134 (by decide) ?_
    cases hf
    exact q_vret C hP hS rfl dX3_readWord_163
set_option maxHeartbeats 4000000 in
set_option maxRecDepth 100000 in
theorem c_X3_readWord {l : Launch} {G : Gx} {qt : Nat → Nat} {da ka : Nat} {qn : Nat → Nat} {tt : OSt} {sa : (Nat → Int32)} {sn : NSt}  {x : OSt} (hf : t_readWord tt ka sa sn = some x) : QM l G yX3_readWord wsX3_readWord rmX3_readWord [.ref (qt 14)] (wT G qt da (qn 15) tt ++ (wA G da ka sa ++ wN G qn sn)) (wT G qt da (qn 15) x ++ (wA G da ka sa ++ wN G qn sn)) none := by
  refine QM.of (cc := cX3_readWord) (maxL := 3) (ret := none) (by decide) rfl (Nat.le_of_ble_eq_true rfl) ?_
  intro p e s m below meth c A ls C hD hP hS hl
  have hx := C.1
  have hb := C.2.1
  have hl : lv_has ls 3 [(0, .ref (qt 14))] := hl
  unfold t_readWord at hf
  refine lv_iconst (v := 1) hx hb dX3_readWord_0 (by decide) ?_
  refine lv_istore_n (lv' := [(1, .int 1), (0, .ref (qt 14))]) hx hb dX3_readWord_1 rfl hl (by decide) rfl (fun ls hl => ?_)
  refine lv_aload_n hx hb dX3_readWord_2 rfl (lv_at hl 1 rfl) ?_
  refine lv_iconst (v := 0) hx hb dX3_readWord_3 (by decide) ?_
  obtain ⟨s1, es1, hf⟩ := nm_ex hf
  refine q_put C hP (dd_TAN hD) hS (q0 := 0) rfl rfl hiX3_readWord_X3 tyX3_ok nmX3 6 (by decide) wdX3_readWord_1 rfl rfl rfl (Nat.le_of_ble_eq_true rfl) rfl dX3_readWord_4 (fun H locs hP hS => ?_)
  have hP : va_P G.1 vwCl (wT G qt da (qn 15) s1 ++ (wA G da ka sa ++ wN G qn sn)) H := by rw [← es1]; exact hP
  obtain ⟨x2, hx2, hf⟩ := bd_some hf
  refine t_X3_readWord_7 C hD hx2 hP hS (lv_sub hl [1, 0] rfl) (fun {H locs ls} hP hS hl => ?_)
  exact t_X3_readWord_116 C hD hf hP hS (lv_sub hl [0, 1] rfl)

-- X3_advance
theorem hiX3_advance_X3 : ∀ w ∈ u_ws RX3 TX3 14, w ∈ wsX3_advance := mem_run (i := 141) (by decide +kernel)
theorem wdX3_advance_2 : (Cond.fieldLink RX3 49 "CombinatorRing$TextReader" "fault" "I") ∈ wsX3_advance := List.mem_of_getElem? (i := 2) rfl
theorem wdX3_advance_3 : (Cond.fieldLink RX3 46 "CombinatorRing$TextReader" "place" "I") ∈ wsX3_advance := List.mem_of_getElem? (i := 3) rfl
theorem wdX3_advance_5 : (Cond.fieldLink RX3 42 "CombinatorRing$TextReader" "length" "I") ∈ wsX3_advance := List.mem_of_getElem? (i := 5) rfl
theorem wdX3_advance_1 : (Cond.fieldLink RX3 64 "CombinatorRing$TextReader" "token" "I") ∈ wsX3_advance := List.mem_of_getElem? (i := 1) rfl
theorem wdX3_advance_4 : (Cond.fieldLink RX3 87 "CombinatorRing$TextReader" "start" "I") ∈ wsX3_advance := List.mem_of_getElem? (i := 4) rfl
def t_advance (tt : OSt) (ka : Nat) (sa : (Nat → Int32)) (sn : NSt)  : Option (OSt) := nm (sI tt 4 1) fun s1 => if (s1.1 7) = 0 then bd (t_skipBlanks s1 ka sa sn) fun x3 => nm (sI x3 5 (x3.1 3)) fun s4 => bd (t_byteAt s4 ka sa sn (s4.1 3)) fun x5 => if (s4.1 3) < (s4.1 2) then bd (t_isLetter x5) fun x7 => if x7 = 0 then bd (t_isDigit x5) fun x9 => if x9 = 0 then if 128 ≤ x5 then some s4 else bd (js_indexOf 1 ((x5.toUInt32 % 65536).toInt32)) fun x12 => if x12 < 0 then some s4 else nm (sI s4 4 x5) fun s14 => nm (sI s14 3 ((s14.1 3) + 1)) fun s15 => some s15 else bd (t_readDigits s4 ka sa sn) fun x16 => some x16 else bd (t_readWord s4 ka sa sn) fun x17 => some x17 else nm (sI s4 4 0) fun s18 => some s18 else some s1
abbrev rmX3_advance : Room := { frames := 5, cells := 0, slots := 0, locals := 107 }
theorem hdX3_advance : yX3_advance.cls = RX3 ∧ yX3_advance.cls ≠ "java/lang/invoke/MethodHandle" ∧ yX3_advance.cls ≠ "java/lang/invoke/VarHandle" ∧ (parseMethodDescriptor yX3_advance.desc).map (fun d => d.parameters.length) = some 0 := by decide +kernel
set_option maxHeartbeats 4000000 in
set_option maxRecDepth 100000 in
theorem c_X3_advance {l : Launch} {G : Gx} {qt : Nat → Nat} {da ka : Nat} {qn : Nat → Nat} {tt : OSt} {sa : (Nat → Int32)} {sn : NSt}  {x : OSt} (hf : t_advance tt ka sa sn = some x) : QM l G yX3_advance wsX3_advance rmX3_advance [.ref (qt 14)] (wT G qt da (qn 15) tt ++ (wA G da ka sa ++ wN G qn sn)) (wT G qt da (qn 15) x ++ (wA G da ka sa ++ wN G qn sn)) none := by
  refine QM.of (cc := cX3_advance) (maxL := 2) (ret := none) (by decide) rfl (Nat.le_of_ble_eq_true rfl) ?_
  intro p e s m below meth c A ls C hD hP hS hl
  have hx := C.1
  have hb := C.2.1
  have hl : lv_has ls 2 [(0, .ref (qt 14))] := hl
  unfold t_advance at hf
  refine lv_aload_n hx hb dX3_advance_0 rfl (lv_at hl 0 rfl) ?_
  refine lv_iconst (v := 1) hx hb dX3_advance_1 (by decide) ?_
  obtain ⟨s1, es1, hf⟩ := nm_ex hf
  refine q_put C hP (dd_TAN hD) hS (q0 := 0) rfl rfl hiX3_advance_X3 tyX3_ok nmX3 4 (by decide) wdX3_advance_1 rfl rfl rfl (Nat.le_of_ble_eq_true rfl) rfl dX3_advance_2 (fun H locs hP hS => ?_)
  have hP : va_P G.1 vwCl (wT G qt da (qn 15) s1 ++ (wA G da ka sa ++ wN G qn sn)) H := by rw [← es1]; exact hP
  refine lv_aload_n hx hb dX3_advance_5 rfl (lv_at hl 0 rfl) ?_
  refine q_get C hP (q0 := 0) rfl rfl hiX3_advance_X3 7 (by decide) wdX3_advance_2 rfl dX3_advance_6 ?_
  refine lv_if_eq (tgt := 13) hx hb dX3_advance_9 (by decide) (fun c2 => ?_) (fun c2 => ?_)
  · have hf := if_t c2 hf
    refine lv_aload_n hx hb dX3_advance_13 rfl (lv_at hl 0 rfl) ?_
    obtain ⟨x3, hx3, hf⟩ := bd_some hf
    refine q_Vv C (rc := (RX3, TX3, 14)) (q0 := 0) (ci := 3) (ws' := wT G qt da (qn 15) x3 ++ (wA G da ka sa ++ wN G qn sn)) (wr := []) (c_X3_skipBlanks hx3) gX3_advance_X3_skipBlanks rfl ⟨rfl, rfl⟩ hdX3_skipBlanks ⟨(Nat.le_of_ble_eq_true rfl), (Nat.le_of_ble_eq_true rfl)⟩ rfl hP (dd_TAN hD) hS rfl rfl (List.Perm.refl _) (List.Perm.refl _) hl.1 (Nat.le_of_ble_eq_true rfl) ⟨Nat.zero_le _, Nat.zero_le _⟩ rfl dX3_advance_14 (fun H locs hP hS => ?_)
    refine lv_aload_n hx hb dX3_advance_17 rfl (lv_at hl 0 rfl) ?_
    refine lv_aload_n hx hb dX3_advance_18 rfl (lv_at hl 0 rfl) ?_
    refine q_get C hP (q0 := 0) rfl rfl hiX3_advance_X3 3 (by decide) wdX3_advance_3 rfl dX3_advance_19 ?_
    obtain ⟨s4, es4, hf⟩ := nm_ex hf
    refine q_put C hP (dd_TAN hD) hS (q0 := 0) rfl rfl hiX3_advance_X3 tyX3_ok nmX3 5 (by decide) wdX3_advance_4 rfl rfl rfl (Nat.le_of_ble_eq_true rfl) rfl dX3_advance_22 (fun H locs hP hS => ?_)
    have hP : va_P G.1 vwCl (wT G qt da (qn 15) s4 ++ (wA G da ka sa ++ wN G qn sn)) H := by rw [← es4]; exact hP
    refine lv_aload_n hx hb dX3_advance_25 rfl (lv_at hl 0 rfl) ?_
    refine lv_aload_n hx hb dX3_advance_26 rfl (lv_at hl 0 rfl) ?_
    refine q_get C hP (q0 := 0) rfl rfl hiX3_advance_X3 3 (by decide) wdX3_advance_3 rfl dX3_advance_27 ?_
    obtain ⟨x5, hx5, hf⟩ := bd_some hf
    refine q_Vi C (rc := (RX3, TX3, 14)) (q0 := 0) (ci := 3) (ws' := wT G qt da (qn 15) s4 ++ (wA G da ka sa ++ wN G qn sn)) (wr := []) (c_X3_byteAt hx5) gX3_advance_X3_byteAt rfl ⟨rfl, rfl⟩ hdX3_byteAt ⟨(Nat.le_of_ble_eq_true rfl), (Nat.le_of_ble_eq_true rfl)⟩ rfl hP (dd_TAN hD) hS rfl rfl (List.Perm.refl _) (List.Perm.refl _) hl.1 (Nat.le_of_ble_eq_true rfl) ⟨Nat.zero_le _, Nat.zero_le _⟩ rfl dX3_advance_30 (fun H locs hP hS => ?_)
    refine lv_istore_n (lv' := [(1, .int x5), (0, .ref (qt 14))]) hx hb dX3_advance_33 rfl hl (by decide) rfl (fun ls hl => ?_)
    refine lv_aload_n hx hb dX3_advance_34 rfl (lv_at hl 1 rfl) ?_
    refine q_get C hP (q0 := 0) rfl rfl hiX3_advance_X3 3 (by decide) wdX3_advance_3 rfl dX3_advance_35 ?_
    refine lv_aload_n hx hb dX3_advance_38 rfl (lv_at hl 1 rfl) ?_
    refine q_get C hP (q0 := 0) rfl rfl hiX3_advance_X3 2 (by decide) wdX3_advance_5 rfl dX3_advance_39 ?_
    refine lv_icmp_lt (tgt := 53) hx hb dX3_advance_42 (by decide) (fun c6 => ?_) (fun c6 => ?_)
    · have hf := if_t c6 hf
      refine lv_iload_n hx hb dX3_advance_53 rfl (lv_at hl 0 rfl) ?_
      obtain ⟨x7, hx7, hf⟩ := bd_some hf
      refine q_Si C (ws' := wT G qt da (qn 15) s4 ++ (wA G da ka sa ++ wN G qn sn)) (wr := []) (c_X3_isLetter (w := wT G qt da (qn 15) s4 ++ (wA G da ka sa ++ wN G qn sn)) hx7) gX3_advance_X3_isLetter rfl ⟨rfl, rfl⟩ hdX3_isLetter ⟨(Nat.le_of_ble_eq_true rfl), (Nat.le_of_ble_eq_true rfl)⟩ rfl hP (dd_TAN hD) hS (List.Perm.refl _) (List.Perm.refl _) hl.1 (Nat.le_of_ble_eq_true rfl) ⟨Nat.zero_le _, Nat.zero_le _⟩ rfl dX3_advance_54 (fun H locs hP hS => ?_)
      refine lv_if_eq (tgt := 67) hx hb dX3_advance_57 (by decide) (fun c8 => ?_) (fun c8 => ?_)
      · have hf := if_t c8 hf
        refine lv_iload_n hx hb dX3_advance_67 rfl (lv_at hl 0 rfl) ?_
        obtain ⟨x9, hx9, hf⟩ := bd_some hf
        refine q_Si C (ws' := wT G qt da (qn 15) s4 ++ (wA G da ka sa ++ wN G qn sn)) (wr := []) (c_X3_isDigit (w := wT G qt da (qn 15) s4 ++ (wA G da ka sa ++ wN G qn sn)) hx9) gX3_advance_X3_isDigit rfl ⟨rfl, rfl⟩ hdX3_isDigit ⟨(Nat.le_of_ble_eq_true rfl), (Nat.le_of_ble_eq_true rfl)⟩ rfl hP (dd_TAN hD) hS (List.Perm.refl _) (List.Perm.refl _) hl.1 (Nat.le_of_ble_eq_true rfl) ⟨Nat.zero_le _, Nat.zero_le _⟩ rfl dX3_advance_68 (fun H locs hP hS => ?_)
        refine lv_if_eq (tgt := 81) hx hb dX3_advance_71 (by decide) (fun c10 => ?_) (fun c10 => ?_)
        · have hf := if_t c10 hf
          refine lv_iload_n hx hb dX3_advance_81 rfl (lv_at hl 0 rfl) ?_
          refine lv_sipush (v := 128) hx hb dX3_advance_82 (by decide) ?_
          refine lv_icmp_ge (tgt := 113) hx hb dX3_advance_85 (by decide) (fun c11 => ?_) (fun c11 => ?_)
          · have hf := if_t c11 hf
            cases hf
            exact q_vret C hP hS rfl dX3_advance_113
          · have hf := if_f c11 hf
            refine va_ldcS hx hb C.2.2.2.1 C.2.2.2.2.2.2.2.2.1.2.1.2.1 dX3_advance_88 ?_
            refine lv_iload_n hx hb dX3_advance_90 rfl (lv_at hl 0 rfl) ?_
            refine lv_i2c hx hb dX3_advance_91 rfl ?_
            obtain ⟨x12, hx12, hf⟩ := bd_some hf
            refine q_VRi C (Cn := RJ0) (ws' := wT G qt da (qn 15) s4 ++ (wA G da ka sa ++ wN G qn sn)) (wr := []) (c_J0_indexOf_0f7a4 (w := wT G qt da (qn 15) s4 ++ (wA G da ka sa ++ wN G qn sn)) (i := 1) (by decide) hx12) gX3_advance_J0_indexOf_0f7a4 rfl ⟨rfl, rfl⟩ hdJ0_indexOf_0f7a4 ⟨(Nat.le_of_ble_eq_true rfl), (Nat.le_of_ble_eq_true rfl)⟩ rfl hP (dd_TAN hD) hS (vk_recv C.2.2.2.2.2.2.2.2.1.1 (i := 1) (by decide) hS) (List.Perm.refl _) (List.Perm.refl _) hl.1 (Nat.le_of_ble_eq_true rfl) ⟨Nat.zero_le _, Nat.zero_le _⟩ rfl dX3_advance_92 (fun H locs hP hS => ?_)
            refine lv_if_lt (tgt := 113) hx hb dX3_advance_95 (by decide) (fun c13 => ?_) (fun c13 => ?_)
            · have hf := if_t c13 hf
              cases hf
              exact q_vret C hP hS rfl dX3_advance_113
            · have hf := if_f c13 hf
              refine lv_aload_n hx hb dX3_advance_98 rfl (lv_at hl 1 rfl) ?_
              refine lv_iload_n hx hb dX3_advance_99 rfl (lv_at hl 0 rfl) ?_
              obtain ⟨s14, es14, hf⟩ := nm_ex hf
              refine q_put C hP (dd_TAN hD) hS (q0 := 0) rfl rfl hiX3_advance_X3 tyX3_ok nmX3 4 (by decide) wdX3_advance_1 rfl rfl rfl (Nat.le_of_ble_eq_true rfl) rfl dX3_advance_100 (fun H locs hP hS => ?_)
              have hP : va_P G.1 vwCl (wT G qt da (qn 15) s14 ++ (wA G da ka sa ++ wN G qn sn)) H := by rw [← es14]; exact hP
              refine lv_aload_n hx hb dX3_advance_103 rfl (lv_at hl 1 rfl) ?_
              refine lv_dup hx hb dX3_advance_104 rfl ?_
              refine q_get C hP (q0 := 0) rfl rfl hiX3_advance_X3 3 (by decide) wdX3_advance_3 rfl dX3_advance_105 ?_
              refine lv_iconst (v := 1) hx hb dX3_advance_108 (by decide) ?_
              refine lv_iadd hx hb dX3_advance_109 ?_
              obtain ⟨s15, es15, hf⟩ := nm_ex hf
              refine q_put C hP (dd_TAN hD) hS (q0 := 0) rfl rfl hiX3_advance_X3 tyX3_ok nmX3 3 (by decide) wdX3_advance_3 rfl rfl rfl (Nat.le_of_ble_eq_true rfl) rfl dX3_advance_110 (fun H locs hP hS => ?_)
              have hP : va_P G.1 vwCl (wT G qt da (qn 15) s15 ++ (wA G da ka sa ++ wN G qn sn)) H := by rw [← es15]; exact hP
              cases hf
              exact q_vret C hP hS rfl dX3_advance_113
        · have hf := if_f c10 hf
          refine lv_aload_n hx hb dX3_advance_74 rfl (lv_at hl 1 rfl) ?_
          obtain ⟨x16, hx16, hf⟩ := bd_some hf
          refine q_Vv C (rc := (RX3, TX3, 14)) (q0 := 0) (ci := 3) (ws' := wT G qt da (qn 15) x16 ++ (wA G da ka sa ++ wN G qn sn)) (wr := []) (c_X3_readDigits hx16) gX3_advance_X3_readDigits rfl ⟨rfl, rfl⟩ hdX3_readDigits ⟨(Nat.le_of_ble_eq_true rfl), (Nat.le_of_ble_eq_true rfl)⟩ rfl hP (dd_TAN hD) hS rfl rfl (List.Perm.refl _) (List.Perm.refl _) hl.1 (Nat.le_of_ble_eq_true rfl) ⟨Nat.zero_le _, Nat.zero_le _⟩ rfl dX3_advance_75 (fun H locs hP hS => ?_)
          refine lv_goto (tgt := 113) hx hb dX3_advance_78 (by decide) ?_
          cases hf
          exact q_vret C hP hS rfl dX3_advance_113
      · have hf := if_f c8 hf
        refine lv_aload_n hx hb dX3_advance_60 rfl (lv_at hl 1 rfl) ?_
        obtain ⟨x17, hx17, hf⟩ := bd_some hf
        refine q_Vv C (rc := (RX3, TX3, 14)) (q0 := 0) (ci := 3) (ws' := wT G qt da (qn 15) x17 ++ (wA G da ka sa ++ wN G qn sn)) (wr := []) (c_X3_readWord hx17) gX3_advance_X3_readWord rfl ⟨rfl, rfl⟩ hdX3_readWord ⟨(Nat.le_of_ble_eq_true rfl), (Nat.le_of_ble_eq_true rfl)⟩ rfl hP (dd_TAN hD) hS rfl rfl (List.Perm.refl _) (List.Perm.refl _) hl.1 (Nat.le_of_ble_eq_true rfl) ⟨Nat.zero_le _, Nat.zero_le _⟩ rfl dX3_advance_61 (fun H locs hP hS => ?_)
        refine lv_goto (tgt := 113) hx hb dX3_advance_64 (by decide) ?_
        cases hf
        exact q_vret C hP hS rfl dX3_advance_113
    · have hf := if_f c6 hf
      refine lv_aload_n hx hb dX3_advance_45 rfl (lv_at hl 1 rfl) ?_
      refine lv_iconst (v := 0) hx hb dX3_advance_46 (by decide) ?_
      obtain ⟨s18, es18, hf⟩ := nm_ex hf
      refine q_put C hP (dd_TAN hD) hS (q0 := 0) rfl rfl hiX3_advance_X3 tyX3_ok nmX3 4 (by decide) wdX3_advance_1 rfl rfl rfl (Nat.le_of_ble_eq_true rfl) rfl dX3_advance_47 (fun H locs hP hS => ?_)
      have hP : va_P G.1 vwCl (wT G qt da (qn 15) s18 ++ (wA G da ka sa ++ wN G qn sn)) H := by rw [← es18]; exact hP
      refine lv_goto (tgt := 113) hx hb dX3_advance_50 (by decide) ?_
      cases hf
      exact q_vret C hP hS rfl dX3_advance_113
  · have hf := if_f c2 hf
    cases hf
    exact q_vret C hP hS rfl dX3_advance_12

-- X3_expect
theorem hiX3_expect_X3 : ∀ w ∈ u_ws RX3 TX3 14, w ∈ wsX3_expect := mem_run (i := 149) (by decide +kernel)
theorem wdX3_expect_1 : (Cond.fieldLink RX3 64 "CombinatorRing$TextReader" "token" "I") ∈ wsX3_expect := List.mem_of_getElem? (i := 1) rfl
theorem wdX3_expect_2 : (Cond.fieldLink RX3 87 "CombinatorRing$TextReader" "start" "I") ∈ wsX3_expect := List.mem_of_getElem? (i := 2) rfl
def t_expect (tt : OSt) (ka : Nat) (sa : (Nat → Int32)) (sn : NSt) (a1 : Int32) : Option (OSt) := bd (t_advance tt ka sa sn) fun x1 => if (x1.1 4) = a1 then some x1 else bd (t_refuse x1 ka sa sn (x1.1 5) 1) fun x3 => some x3
abbrev rmX3_expect : Room := { frames := 6, cells := 0, slots := 0, locals := 128 }
theorem hdX3_expect : yX3_expect.cls = RX3 ∧ yX3_expect.cls ≠ "java/lang/invoke/MethodHandle" ∧ yX3_expect.cls ≠ "java/lang/invoke/VarHandle" ∧ (parseMethodDescriptor yX3_expect.desc).map (fun d => d.parameters.length) = some 1 := by decide +kernel
set_option maxHeartbeats 4000000 in
set_option maxRecDepth 100000 in
theorem c_X3_expect {l : Launch} {G : Gx} {qt : Nat → Nat} {da ka : Nat} {qn : Nat → Nat} {tt : OSt} {sa : (Nat → Int32)} {sn : NSt} {a1 : Int32} {x : OSt} (hf : t_expect tt ka sa sn a1 = some x) : QM l G yX3_expect wsX3_expect rmX3_expect [.ref (qt 14), .int a1] (wT G qt da (qn 15) tt ++ (wA G da ka sa ++ wN G qn sn)) (wT G qt da (qn 15) x ++ (wA G da ka sa ++ wN G qn sn)) none := by
  refine QM.of (cc := cX3_expect) (maxL := 2) (ret := none) (by decide) rfl (Nat.le_of_ble_eq_true rfl) ?_
  intro p e s m below meth c A ls C hD hP hS hl
  have hx := C.1
  have hb := C.2.1
  have hl : lv_has ls 2 [(0, .ref (qt 14)), (1, .int a1)] := hl
  unfold t_expect at hf
  refine lv_aload_n hx hb dX3_expect_0 rfl (lv_at hl 0 rfl) ?_
  obtain ⟨x1, hx1, hf⟩ := bd_some hf
  refine q_Vv C (rc := (RX3, TX3, 14)) (q0 := 0) (ci := 3) (ws' := wT G qt da (qn 15) x1 ++ (wA G da ka sa ++ wN G qn sn)) (wr := []) (c_X3_advance hx1) gX3_expect_X3_advance rfl ⟨rfl, rfl⟩ hdX3_advance ⟨(Nat.le_of_ble_eq_true rfl), (Nat.le_of_ble_eq_true rfl)⟩ rfl hP (dd_TAN hD) hS rfl rfl (List.Perm.refl _) (List.Perm.refl _) hl.1 (Nat.le_of_ble_eq_true rfl) ⟨Nat.zero_le _, Nat.zero_le _⟩ rfl dX3_expect_1 (fun H locs hP hS => ?_)
  refine lv_aload_n hx hb dX3_expect_4 rfl (lv_at hl 0 rfl) ?_
  refine q_get C hP (q0 := 0) rfl rfl hiX3_expect_X3 4 (by decide) wdX3_expect_1 rfl dX3_expect_5 ?_
  refine lv_iload_n hx hb dX3_expect_8 rfl (lv_at hl 1 rfl) ?_
  refine lv_icmp_eq (tgt := 21) hx hb dX3_expect_9 (by decide) (fun c2 => ?_) (fun c2 => ?_)
  · have hf := if_t c2 hf
    cases hf
    exact q_vret C hP hS rfl dX3_expect_21
  · have hf := if_f c2 hf
    refine lv_aload_n hx hb dX3_expect_12 rfl (lv_at hl 0 rfl) ?_
    refine lv_aload_n hx hb dX3_expect_13 rfl (lv_at hl 0 rfl) ?_
    refine q_get C hP (q0 := 0) rfl rfl hiX3_expect_X3 5 (by decide) wdX3_expect_2 rfl dX3_expect_14 ?_
    refine lv_iconst (v := 1) hx hb dX3_expect_17 (by decide) ?_
    obtain ⟨x3, hx3, hf⟩ := bd_some hf
    refine q_Vv C (rc := (RX3, TX3, 14)) (q0 := 0) (ci := 3) (ws' := wT G qt da (qn 15) x3 ++ (wA G da ka sa ++ wN G qn sn)) (wr := []) (c_X3_refuse hx3) gX3_expect_X3_refuse rfl ⟨rfl, rfl⟩ hdX3_refuse ⟨(Nat.le_of_ble_eq_true rfl), (Nat.le_of_ble_eq_true rfl)⟩ rfl hP (dd_TAN hD) hS rfl rfl (List.Perm.refl _) (List.Perm.refl _) hl.1 (Nat.le_of_ble_eq_true rfl) ⟨Nat.zero_le _, Nat.zero_le _⟩ rfl dX3_expect_18 (fun H locs hP hS => ?_)
    cases hf
    exact q_vret C hP hS rfl dX3_expect_21

-- X3_readMemory
theorem hiX3_readMemory_X3 : ∀ w ∈ u_ws RX3 TX3 14, w ∈ wsX3_readMemory := mem_run (i := 188) (by decide +kernel)
theorem wdX3_readMemory_1 : (Cond.fieldLink RX3 84 "CombinatorRing$TextReader" "value" "I") ∈ wsX3_readMemory := List.mem_of_getElem? (i := 1) rfl
theorem wdX3_readMemory_3 : (Cond.fieldLink RX3 14 "CombinatorRing$TextReader" "net" "LCombinatorRing$Net;") ∈ wsX3_readMemory := List.mem_of_getElem? (i := 3) rfl
theorem wdX3_readMemory_2 : (Cond.fieldLink RX3 87 "CombinatorRing$TextReader" "start" "I") ∈ wsX3_readMemory := List.mem_of_getElem? (i := 2) rfl
def t_readMemory_24 (tt : OSt) (ka : Nat) (sa : (Nat → Int32)) (sn : NSt) : Option (OSt × NSt) := bd (t_refuse tt ka sa sn (tt.1 5) 3) fun x7 => bd (n_clear sn (x7.1 6)) fun x8 => bd (t_expect x7 ka sa x8 59) fun x9 => bd (t_advance x9 ka sa x8) fun x10 => some (x10, x8)
def t_readMemory (tt : OSt) (ka : Nat) (sa : (Nat → Int32)) (sn : NSt)  : Option (OSt × NSt) := bd (t_expect tt ka sa sn 3) fun x1 => if (x1.1 6) < 8 then t_readMemory_24 x1 ka sa sn else if (x1.1 6) ≤ 300 then bd (n_clear sn (x1.1 6)) fun x4 => bd (t_expect x1 ka sa x4 59) fun x5 => bd (t_advance x5 ka sa x4) fun x6 => some (x6, x4) else t_readMemory_24 x1 ka sa sn
abbrev rmX3_readMemory : Room := { frames := 7, cells := 0, slots := 0, locals := 149 }
theorem hdX3_readMemory : yX3_readMemory.cls = RX3 ∧ yX3_readMemory.cls ≠ "java/lang/invoke/MethodHandle" ∧ yX3_readMemory.cls ≠ "java/lang/invoke/VarHandle" ∧ (parseMethodDescriptor yX3_readMemory.desc).map (fun d => d.parameters.length) = some 0 := by decide +kernel
set_option maxHeartbeats 4000000 in
set_option maxRecDepth 100000 in
theorem t_X3_readMemory_24 {p : Program} {l : Launch} {e : Env} {s : State} {m : MethodId} {args : Array Value} {below : List Frame} {meth : Method} {c : Code} {A : Nat → Prop} {G : Gx} {qt : Nat → Nat} {da ka : Nat} {qn : Nat → Nat} {tt0 : OSt} {sa0 : (Nat → Int32)} {sn0 : NSt} (C : Cx p s m args meth c G cX3_readMemory wsX3_readMemory RX3 none 1 A) (hD : va_D A (wT G qt da (qn 15) tt0 ++ (wA G da ka sa0 ++ wN G qn sn0))) :
    ∀ {tt : OSt} {sa : (Nat → Int32)} {sn : NSt}  {x : OSt × NSt}, t_readMemory_24 tt ka sa sn = some x → ∀ {H : Heap} {locs : List Loc} {ls : Array Slot}, va_P G.1 vwCl (wT G qt da (qn 15) tt ++ (wA G da ka sa ++ wN G qn sn)) H → va_S A s.heap H locs → lv_has ls 1 [(0, .ref (qt 14))] → W p l e rmX3_readMemory s m args below meth c H locs 0 0 (MQ below (qE G A (wT G qt da (qn 15) x.1 ++ (wA G da ka sa ++ wN G qn x.2)) none) args s 0 0 A) (F0 m 24 ls []) := by
  have hx := C.1
  have hb := C.2.1
  intro tt sa sn x hf H locs ls hP hS hl
  unfold t_readMemory_24 at hf
  refine lv_aload_n hx hb dX3_readMemory_24 rfl (lv_at hl 0 rfl) ?_
  refine lv_aload_n hx hb dX3_readMemory_25 rfl (lv_at hl 0 rfl) ?_
  refine q_get C hP (q0 := 0) rfl rfl hiX3_readMemory_X3 5 (by decide) wdX3_readMemory_2 rfl dX3_readMemory_26 ?_
  refine lv_iconst (v := 3) hx hb dX3_readMemory_29 (by decide) ?_
  obtain ⟨x7, hx7, hf⟩ := bd_some hf
  refine q_Vv C (rc := (RX3, TX3, 14)) (q0 := 0) (ci := 3) (ws' := wT G qt da (qn 15) x7 ++ (wA G da ka sa ++ wN G qn sn)) (wr := []) (c_X3_refuse hx7) gX3_readMemory_X3_refuse rfl ⟨rfl, rfl⟩ hdX3_refuse ⟨(Nat.le_of_ble_eq_true rfl), (Nat.le_of_ble_eq_true rfl)⟩ rfl hP (dd_TAN hD) hS rfl rfl (List.Perm.refl _) (List.Perm.refl _) hl.1 (Nat.le_of_ble_eq_true rfl) ⟨Nat.zero_le _, Nat.zero_le _⟩ rfl dX3_readMemory_30 (fun H locs hP hS => ?_)
  refine lv_aload_n hx hb dX3_readMemory_33 rfl (lv_at hl 0 rfl) ?_
  refine q_get C hP (q0 := 0) rfl rfl hiX3_readMemory_X3 0 (by decide) wdX3_readMemory_3 rfl dX3_readMemory_34 ?_
  refine lv_aload_n hx hb dX3_readMemory_37 rfl (lv_at hl 0 rfl) ?_
  refine q_get C hP (q0 := 0) rfl rfl hiX3_readMemory_X3 6 (by decide) wdX3_readMemory_1 rfl dX3_readMemory_38 ?_
  obtain ⟨x8, hx8, hf⟩ := bd_some hf
  refine q_Vv C (rc := (RX0, TX0, 15)) (q0 := 6) (ci := 0) (ws' := wT G qt da (qn 15) x7 ++ (wA G da ka sa ++ wN G qn x8)) (c_X0_clear (qn := qn) hx8) gX3_readMemory_X0_clear rfl ⟨rfl, rfl⟩ hdX0_clear ⟨(Nat.le_of_ble_eq_true rfl), (Nat.le_of_ble_eq_true rfl)⟩ rfl hP (dd_TAN hD) hS rfl rfl pm_abc pm_abc2 hl.1 (Nat.le_of_ble_eq_true rfl) ⟨Nat.zero_le _, Nat.zero_le _⟩ rfl dX3_readMemory_41 (fun H locs hP hS => ?_)
  refine lv_aload_n hx hb dX3_readMemory_44 rfl (lv_at hl 0 rfl) ?_
  refine lv_bipush (v := 59) hx hb dX3_readMemory_45 (by decide) ?_
  obtain ⟨x9, hx9, hf⟩ := bd_some hf
  refine q_Vv C (rc := (RX3, TX3, 14)) (q0 := 0) (ci := 3) (ws' := wT G qt da (qn 15) x9 ++ (wA G da ka sa ++ wN G qn x8)) (wr := []) (c_X3_expect hx9) gX3_readMemory_X3_expect rfl ⟨rfl, rfl⟩ hdX3_expect ⟨(Nat.le_of_ble_eq_true rfl), (Nat.le_of_ble_eq_true rfl)⟩ rfl hP (dd_TAN hD) hS rfl rfl (List.Perm.refl _) (List.Perm.refl _) hl.1 (Nat.le_of_ble_eq_true rfl) ⟨Nat.zero_le _, Nat.zero_le _⟩ rfl dX3_readMemory_47 (fun H locs hP hS => ?_)
  refine lv_aload_n hx hb dX3_readMemory_50 rfl (lv_at hl 0 rfl) ?_
  obtain ⟨x10, hx10, hf⟩ := bd_some hf
  refine q_Vv C (rc := (RX3, TX3, 14)) (q0 := 0) (ci := 3) (ws' := wT G qt da (qn 15) x10 ++ (wA G da ka sa ++ wN G qn x8)) (wr := []) (c_X3_advance hx10) gX3_readMemory_X3_advance rfl ⟨rfl, rfl⟩ hdX3_advance ⟨(Nat.le_of_ble_eq_true rfl), (Nat.le_of_ble_eq_true rfl)⟩ rfl hP (dd_TAN hD) hS rfl rfl (List.Perm.refl _) (List.Perm.refl _) hl.1 (Nat.le_of_ble_eq_true rfl) ⟨Nat.zero_le _, Nat.zero_le _⟩ rfl dX3_readMemory_51 (fun H locs hP hS => ?_)
  cases hf
  exact q_vret C hP hS rfl dX3_readMemory_54
set_option maxHeartbeats 4000000 in
set_option maxRecDepth 100000 in
theorem c_X3_readMemory {l : Launch} {G : Gx} {qt : Nat → Nat} {da ka : Nat} {qn : Nat → Nat} {tt : OSt} {sa : (Nat → Int32)} {sn : NSt}  {x : OSt × NSt} (hf : t_readMemory tt ka sa sn = some x) : QM l G yX3_readMemory wsX3_readMemory rmX3_readMemory [.ref (qt 14)] (wT G qt da (qn 15) tt ++ (wA G da ka sa ++ wN G qn sn)) (wT G qt da (qn 15) x.1 ++ (wA G da ka sa ++ wN G qn x.2)) none := by
  refine QM.of (cc := cX3_readMemory) (maxL := 1) (ret := none) (by decide) rfl (Nat.le_of_ble_eq_true rfl) ?_
  intro p e s m below meth c A ls C hD hP hS hl
  have hx := C.1
  have hb := C.2.1
  have hl : lv_has ls 1 [(0, .ref (qt 14))] := hl
  unfold t_readMemory at hf
  refine lv_aload_n hx hb dX3_readMemory_0 rfl (lv_at hl 0 rfl) ?_
  refine lv_iconst (v := 3) hx hb dX3_readMemory_1 (by decide) ?_
  obtain ⟨x1, hx1, hf⟩ := bd_some hf
  refine q_Vv C (rc := (RX3, TX3, 14)) (q0 := 0) (ci := 3) (ws' := wT G qt da (qn 15) x1 ++ (wA G da ka sa ++ wN G qn sn)) (wr := []) (c_X3_expect hx1) gX3_readMemory_X3_expect rfl ⟨rfl, rfl⟩ hdX3_expect ⟨(Nat.le_of_ble_eq_true rfl), (Nat.le_of_ble_eq_true rfl)⟩ rfl hP (dd_TAN hD) hS rfl rfl (List.Perm.refl _) (List.Perm.refl _) hl.1 (Nat.le_of_ble_eq_true rfl) ⟨Nat.zero_le _, Nat.zero_le _⟩ rfl dX3_readMemory_2 (fun H locs hP hS => ?_)
  refine lv_aload_n hx hb dX3_readMemory_5 rfl (lv_at hl 0 rfl) ?_
  refine q_get C hP (q0 := 0) rfl rfl hiX3_readMemory_X3 6 (by decide) wdX3_readMemory_1 rfl dX3_readMemory_6 ?_
  refine lv_bipush (v := 8) hx hb dX3_readMemory_9 (by decide) ?_
  refine lv_icmp_lt (tgt := 24) hx hb dX3_readMemory_11 (by decide) (fun c2 => ?_) (fun c2 => ?_)
  · have hf := if_t c2 hf
    exact t_X3_readMemory_24 C hD hf hP hS (lv_sub hl [0] rfl)
  · have hf := if_f c2 hf
    refine lv_aload_n hx hb dX3_readMemory_14 rfl (lv_at hl 0 rfl) ?_
    refine q_get C hP (q0 := 0) rfl rfl hiX3_readMemory_X3 6 (by decide) wdX3_readMemory_1 rfl dX3_readMemory_15 ?_
    refine lv_sipush (v := 300) hx hb dX3_readMemory_18 (by decide) ?_
    refine lv_icmp_le (tgt := 33) hx hb dX3_readMemory_21 (by decide) (fun c3 => ?_) (fun c3 => ?_)
    · have hf := if_t c3 hf
      refine lv_aload_n hx hb dX3_readMemory_33 rfl (lv_at hl 0 rfl) ?_
      refine q_get C hP (q0 := 0) rfl rfl hiX3_readMemory_X3 0 (by decide) wdX3_readMemory_3 rfl dX3_readMemory_34 ?_
      refine lv_aload_n hx hb dX3_readMemory_37 rfl (lv_at hl 0 rfl) ?_
      refine q_get C hP (q0 := 0) rfl rfl hiX3_readMemory_X3 6 (by decide) wdX3_readMemory_1 rfl dX3_readMemory_38 ?_
      obtain ⟨x4, hx4, hf⟩ := bd_some hf
      refine q_Vv C (rc := (RX0, TX0, 15)) (q0 := 6) (ci := 0) (ws' := wT G qt da (qn 15) x1 ++ (wA G da ka sa ++ wN G qn x4)) (c_X0_clear (qn := qn) hx4) gX3_readMemory_X0_clear rfl ⟨rfl, rfl⟩ hdX0_clear ⟨(Nat.le_of_ble_eq_true rfl), (Nat.le_of_ble_eq_true rfl)⟩ rfl hP (dd_TAN hD) hS rfl rfl pm_abc pm_abc2 hl.1 (Nat.le_of_ble_eq_true rfl) ⟨Nat.zero_le _, Nat.zero_le _⟩ rfl dX3_readMemory_41 (fun H locs hP hS => ?_)
      refine lv_aload_n hx hb dX3_readMemory_44 rfl (lv_at hl 0 rfl) ?_
      refine lv_bipush (v := 59) hx hb dX3_readMemory_45 (by decide) ?_
      obtain ⟨x5, hx5, hf⟩ := bd_some hf
      refine q_Vv C (rc := (RX3, TX3, 14)) (q0 := 0) (ci := 3) (ws' := wT G qt da (qn 15) x5 ++ (wA G da ka sa ++ wN G qn x4)) (wr := []) (c_X3_expect hx5) gX3_readMemory_X3_expect rfl ⟨rfl, rfl⟩ hdX3_expect ⟨(Nat.le_of_ble_eq_true rfl), (Nat.le_of_ble_eq_true rfl)⟩ rfl hP (dd_TAN hD) hS rfl rfl (List.Perm.refl _) (List.Perm.refl _) hl.1 (Nat.le_of_ble_eq_true rfl) ⟨Nat.zero_le _, Nat.zero_le _⟩ rfl dX3_readMemory_47 (fun H locs hP hS => ?_)
      refine lv_aload_n hx hb dX3_readMemory_50 rfl (lv_at hl 0 rfl) ?_
      obtain ⟨x6, hx6, hf⟩ := bd_some hf
      refine q_Vv C (rc := (RX3, TX3, 14)) (q0 := 0) (ci := 3) (ws' := wT G qt da (qn 15) x6 ++ (wA G da ka sa ++ wN G qn x4)) (wr := []) (c_X3_advance hx6) gX3_readMemory_X3_advance rfl ⟨rfl, rfl⟩ hdX3_advance ⟨(Nat.le_of_ble_eq_true rfl), (Nat.le_of_ble_eq_true rfl)⟩ rfl hP (dd_TAN hD) hS rfl rfl (List.Perm.refl _) (List.Perm.refl _) hl.1 (Nat.le_of_ble_eq_true rfl) ⟨Nat.zero_le _, Nat.zero_le _⟩ rfl dX3_readMemory_51 (fun H locs hP hS => ?_)
      cases hf
      exact q_vret C hP hS rfl dX3_readMemory_54
    · have hf := if_f c3 hf
      exact t_X3_readMemory_24 C hD hf hP hS (lv_sub hl [0] rfl)

-- X3_readNumber
theorem hiX3_readNumber_X3 : ∀ w ∈ u_ws RX3 TX3 14, w ∈ wsX3_readNumber := mem_run (i := 186) (by decide +kernel)
theorem wdX3_readNumber_1 : (Cond.fieldLink RX3 87 "CombinatorRing$TextReader" "start" "I") ∈ wsX3_readNumber := List.mem_of_getElem? (i := 1) rfl
theorem wdX3_readNumber_2 : (Cond.fieldLink RX3 84 "CombinatorRing$TextReader" "value" "I") ∈ wsX3_readNumber := List.mem_of_getElem? (i := 2) rfl
theorem wdX3_readNumber_3 : (Cond.fieldLink RX3 14 "CombinatorRing$TextReader" "net" "LCombinatorRing$Net;") ∈ wsX3_readNumber := List.mem_of_getElem? (i := 3) rfl
theorem wdX3_readNumber_4 : (Cond.fieldLink RX3 49 "CombinatorRing$TextReader" "fault" "I") ∈ wsX3_readNumber := List.mem_of_getElem? (i := 4) rfl
def t_readNumber_28 (tt : OSt) (ka : Nat) (sa : (Nat → Int32)) (sn : NSt) (v1 : Int32) : Option (Int32 × OSt × NSt) := bd (n_numberSize (tt.1 6)) fun x4 => bd (n_hasRoom sn x4) fun x5 => if x5 = 0 then bd (t_refuse tt ka sa sn v1 5) fun x9 => if (x9.1 7) = 0 then bd (n_makeNumber sn (x9.1 6)) fun x11 => some (x11.1, x9, x11.2) else some ((-1), x9, sn) else if (tt.1 7) = 0 then bd (n_makeNumber sn (tt.1 6)) fun x8 => some (x8.1, tt, x8.2) else some ((-1), tt, sn)
def t_readNumber (tt : OSt) (ka : Nat) (sa : (Nat → Int32)) (sn : NSt)  : Option (Int32 × OSt × NSt) := bd (t_expect tt ka sa sn 3) fun x1 => if (x1.1 6) ≤ 20 then t_readNumber_28 x1 ka sa sn (tt.1 5) else bd (t_refuse x1 ka sa sn (x1.1 5) 3) fun x3 => t_readNumber_28 x3 ka sa sn (tt.1 5)
abbrev rmX3_readNumber : Room := { frames := 7, cells := 0, slots := 0, locals := 149 }
theorem hdX3_readNumber : yX3_readNumber.cls = RX3 ∧ yX3_readNumber.cls ≠ "java/lang/invoke/MethodHandle" ∧ yX3_readNumber.cls ≠ "java/lang/invoke/VarHandle" ∧ (parseMethodDescriptor yX3_readNumber.desc).map (fun d => d.parameters.length) = some 0 := by decide +kernel
set_option maxHeartbeats 4000000 in
set_option maxRecDepth 100000 in
theorem t_X3_readNumber_28 {p : Program} {l : Launch} {e : Env} {s : State} {m : MethodId} {args : Array Value} {below : List Frame} {meth : Method} {c : Code} {A : Nat → Prop} {G : Gx} {qt : Nat → Nat} {da ka : Nat} {qn : Nat → Nat} {tt0 : OSt} {sa0 : (Nat → Int32)} {sn0 : NSt} (C : Cx p s m args meth c G cX3_readNumber wsX3_readNumber RX3 (some .int) 2 A) (hD : va_D A (wT G qt da (qn 15) tt0 ++ (wA G da ka sa0 ++ wN G qn sn0))) :
    ∀ {tt : OSt} {sa : (Nat → Int32)} {sn : NSt} {v1 : Int32} {x : Int32 × OSt × NSt}, t_readNumber_28 tt ka sa sn v1 = some x → ∀ {H : Heap} {locs : List Loc} {ls : Array Slot}, va_P G.1 vwCl (wT G qt da (qn 15) tt ++ (wA G da ka sa ++ wN G qn sn)) H → va_S A s.heap H locs → lv_has ls 2 [(0, .ref (qt 14)), (1, .int v1)] → W p l e rmX3_readNumber s m args below meth c H locs 0 0 (MQ below (qE G A (wT G qt da (qn 15) x.2.1 ++ (wA G da ka sa ++ wN G qn x.2.2)) (some (.int x.1))) args s 0 0 A) (F0 m 28 ls []) := by
  have hx := C.1
  have hb := C.2.1
  intro tt sa sn v1 x hf H locs ls hP hS hl
  unfold t_readNumber_28 at hf
  refine lv_aload_n hx hb dX3_readNumber_28 rfl (lv_at hl 0 rfl) ?_
  refine q_get C hP (q0 := 0) rfl rfl hiX3_readNumber_X3 0 (by decide) wdX3_readNumber_3 rfl dX3_readNumber_29 ?_
  refine lv_aload_n hx hb dX3_readNumber_32 rfl (lv_at hl 0 rfl) ?_
  refine q_get C hP (q0 := 0) rfl rfl hiX3_readNumber_X3 6 (by decide) wdX3_readNumber_2 rfl dX3_readNumber_33 ?_
  obtain ⟨x4, hx4, hf⟩ := bd_some hf
  refine q_Si C (ws' := wT G qt da (qn 15) tt ++ (wA G da ka sa ++ wN G qn sn)) (wr := []) (c_X0_numberSize (w := wT G qt da (qn 15) tt ++ (wA G da ka sa ++ wN G qn sn)) hx4) gX3_readNumber_X0_numberSize rfl ⟨rfl, rfl⟩ hdX0_numberSize ⟨(Nat.le_of_ble_eq_true rfl), (Nat.le_of_ble_eq_true rfl)⟩ rfl hP (dd_TAN hD) hS (List.Perm.refl _) (List.Perm.refl _) hl.1 (Nat.le_of_ble_eq_true rfl) ⟨Nat.zero_le _, Nat.zero_le _⟩ rfl dX3_readNumber_36 (fun H locs hP hS => ?_)
  obtain ⟨x5, hx5, hf⟩ := bd_some hf
  refine q_Vi C (rc := (RX0, TX0, 15)) (q0 := 6) (ci := 0) (ws' := wT G qt da (qn 15) tt ++ (wA G da ka sa ++ wN G qn sn)) (c_X0_hasRoom (qn := qn) hx5) gX3_readNumber_X0_hasRoom rfl ⟨rfl, rfl⟩ hdX0_hasRoom ⟨(Nat.le_of_ble_eq_true rfl), (Nat.le_of_ble_eq_true rfl)⟩ rfl hP (dd_TAN hD) hS rfl rfl pm_abc pm_abc2 hl.1 (Nat.le_of_ble_eq_true rfl) ⟨Nat.zero_le _, Nat.zero_le _⟩ rfl dX3_readNumber_39 (fun H locs hP hS => ?_)
  refine lv_if_ne (tgt := 51) hx hb dX3_readNumber_42 (by decide) (fun c6 => ?_) (fun c6 => ?_)
  · have hf := if_f c6 hf
    refine lv_aload_n hx hb dX3_readNumber_51 rfl (lv_at hl 0 rfl) ?_
    refine q_get C hP (q0 := 0) rfl rfl hiX3_readNumber_X3 7 (by decide) wdX3_readNumber_4 rfl dX3_readNumber_52 ?_
    refine lv_if_ne (tgt := 72) hx hb dX3_readNumber_55 (by decide) (fun c7 => ?_) (fun c7 => ?_)
    · have hf := if_f c7 hf
      refine lv_iconst (v := (-1)) hx hb dX3_readNumber_72 (by decide) ?_
      cases hf
      exact q_iret C hP hS rfl dX3_readNumber_73
    · have hf := if_t c7 hf
      refine lv_aload_n hx hb dX3_readNumber_58 rfl (lv_at hl 0 rfl) ?_
      refine q_get C hP (q0 := 0) rfl rfl hiX3_readNumber_X3 0 (by decide) wdX3_readNumber_3 rfl dX3_readNumber_59 ?_
      refine lv_aload_n hx hb dX3_readNumber_62 rfl (lv_at hl 0 rfl) ?_
      refine q_get C hP (q0 := 0) rfl rfl hiX3_readNumber_X3 6 (by decide) wdX3_readNumber_2 rfl dX3_readNumber_63 ?_
      obtain ⟨x8, hx8, hf⟩ := bd_some hf
      refine q_Vi C (rc := (RX0, TX0, 15)) (q0 := 6) (ci := 0) (ws' := wT G qt da (qn 15) tt ++ (wA G da ka sa ++ wN G qn x8.2)) (c_X0_makeNumber (qn := qn) hx8) gX3_readNumber_X0_makeNumber rfl ⟨rfl, rfl⟩ hdX0_makeNumber ⟨(Nat.le_of_ble_eq_true rfl), (Nat.le_of_ble_eq_true rfl)⟩ rfl hP (dd_TAN hD) hS rfl rfl pm_abc pm_abc2 hl.1 (Nat.le_of_ble_eq_true rfl) ⟨Nat.zero_le _, Nat.zero_le _⟩ rfl dX3_readNumber_66 (fun H locs hP hS => ?_)
      refine lv_goto (tgt := 73) hx hb dX3_readNumber_69 (by decide) ?_
      cases hf
      exact q_iret C hP hS rfl dX3_readNumber_73
  · have hf := if_t c6 hf
    refine lv_aload_n hx hb dX3_readNumber_45 rfl (lv_at hl 0 rfl) ?_
    refine lv_iload_n hx hb dX3_readNumber_46 rfl (lv_at hl 1 rfl) ?_
    refine lv_iconst (v := 5) hx hb dX3_readNumber_47 (by decide) ?_
    obtain ⟨x9, hx9, hf⟩ := bd_some hf
    refine q_Vv C (rc := (RX3, TX3, 14)) (q0 := 0) (ci := 3) (ws' := wT G qt da (qn 15) x9 ++ (wA G da ka sa ++ wN G qn sn)) (wr := []) (c_X3_refuse hx9) gX3_readNumber_X3_refuse rfl ⟨rfl, rfl⟩ hdX3_refuse ⟨(Nat.le_of_ble_eq_true rfl), (Nat.le_of_ble_eq_true rfl)⟩ rfl hP (dd_TAN hD) hS rfl rfl (List.Perm.refl _) (List.Perm.refl _) hl.1 (Nat.le_of_ble_eq_true rfl) ⟨Nat.zero_le _, Nat.zero_le _⟩ rfl dX3_readNumber_48 (fun H locs hP hS => ?_)
    refine lv_aload_n hx hb dX3_readNumber_51 rfl (lv_at hl 0 rfl) ?_
    refine q_get C hP (q0 := 0) rfl rfl hiX3_readNumber_X3 7 (by decide) wdX3_readNumber_4 rfl dX3_readNumber_52 ?_
    refine lv_if_ne (tgt := 72) hx hb dX3_readNumber_55 (by decide) (fun c10 => ?_) (fun c10 => ?_)
    · have hf := if_f c10 hf
      refine lv_iconst (v := (-1)) hx hb dX3_readNumber_72 (by decide) ?_
      cases hf
      exact q_iret C hP hS rfl dX3_readNumber_73
    · have hf := if_t c10 hf
      refine lv_aload_n hx hb dX3_readNumber_58 rfl (lv_at hl 0 rfl) ?_
      refine q_get C hP (q0 := 0) rfl rfl hiX3_readNumber_X3 0 (by decide) wdX3_readNumber_3 rfl dX3_readNumber_59 ?_
      refine lv_aload_n hx hb dX3_readNumber_62 rfl (lv_at hl 0 rfl) ?_
      refine q_get C hP (q0 := 0) rfl rfl hiX3_readNumber_X3 6 (by decide) wdX3_readNumber_2 rfl dX3_readNumber_63 ?_
      obtain ⟨x11, hx11, hf⟩ := bd_some hf
      refine q_Vi C (rc := (RX0, TX0, 15)) (q0 := 6) (ci := 0) (ws' := wT G qt da (qn 15) x9 ++ (wA G da ka sa ++ wN G qn x11.2)) (c_X0_makeNumber (qn := qn) hx11) gX3_readNumber_X0_makeNumber rfl ⟨rfl, rfl⟩ hdX0_makeNumber ⟨(Nat.le_of_ble_eq_true rfl), (Nat.le_of_ble_eq_true rfl)⟩ rfl hP (dd_TAN hD) hS rfl rfl pm_abc pm_abc2 hl.1 (Nat.le_of_ble_eq_true rfl) ⟨Nat.zero_le _, Nat.zero_le _⟩ rfl dX3_readNumber_66 (fun H locs hP hS => ?_)
      refine lv_goto (tgt := 73) hx hb dX3_readNumber_69 (by decide) ?_
      cases hf
      exact q_iret C hP hS rfl dX3_readNumber_73
set_option maxHeartbeats 4000000 in
set_option maxRecDepth 100000 in
theorem c_X3_readNumber {l : Launch} {G : Gx} {qt : Nat → Nat} {da ka : Nat} {qn : Nat → Nat} {tt : OSt} {sa : (Nat → Int32)} {sn : NSt}  {x : Int32 × OSt × NSt} (hf : t_readNumber tt ka sa sn = some x) : QM l G yX3_readNumber wsX3_readNumber rmX3_readNumber [.ref (qt 14)] (wT G qt da (qn 15) tt ++ (wA G da ka sa ++ wN G qn sn)) (wT G qt da (qn 15) x.2.1 ++ (wA G da ka sa ++ wN G qn x.2.2)) (some (.int x.1)) := by
  refine QM.of (cc := cX3_readNumber) (maxL := 2) (ret := (some .int)) (by decide) rfl (Nat.le_of_ble_eq_true rfl) ?_
  intro p e s m below meth c A ls C hD hP hS hl
  have hx := C.1
  have hb := C.2.1
  have hl : lv_has ls 2 [(0, .ref (qt 14))] := hl
  unfold t_readNumber at hf
  refine lv_aload_n hx hb dX3_readNumber_0 rfl (lv_at hl 0 rfl) ?_
  refine q_get C hP (q0 := 0) rfl rfl hiX3_readNumber_X3 5 (by decide) wdX3_readNumber_1 rfl dX3_readNumber_1 ?_
  refine lv_istore_n (lv' := [(1, .int (tt.1 5)), (0, .ref (qt 14))]) hx hb dX3_readNumber_4 rfl hl (by decide) rfl (fun ls hl => ?_)
  refine lv_aload_n hx hb dX3_readNumber_5 rfl (lv_at hl 1 rfl) ?_
  refine lv_iconst (v := 3) hx hb dX3_readNumber_6 (by decide) ?_
  obtain ⟨x1, hx1, hf⟩ := bd_some hf
  refine q_Vv C (rc := (RX3, TX3, 14)) (q0 := 0) (ci := 3) (ws' := wT G qt da (qn 15) x1 ++ (wA G da ka sa ++ wN G qn sn)) (wr := []) (c_X3_expect hx1) gX3_readNumber_X3_expect rfl ⟨rfl, rfl⟩ hdX3_expect ⟨(Nat.le_of_ble_eq_true rfl), (Nat.le_of_ble_eq_true rfl)⟩ rfl hP (dd_TAN hD) hS rfl rfl (List.Perm.refl _) (List.Perm.refl _) hl.1 (Nat.le_of_ble_eq_true rfl) ⟨Nat.zero_le _, Nat.zero_le _⟩ rfl dX3_readNumber_7 (fun H locs hP hS => ?_)
  refine lv_aload_n hx hb dX3_readNumber_10 rfl (lv_at hl 1 rfl) ?_
  refine q_get C hP (q0 := 0) rfl rfl hiX3_readNumber_X3 6 (by decide) wdX3_readNumber_2 rfl dX3_readNumber_11 ?_
  refine lv_bipush (v := 20) hx hb dX3_readNumber_14 (by decide) ?_
  refine lv_icmp_le (tgt := 28) hx hb dX3_readNumber_16 (by decide) (fun c2 => ?_) (fun c2 => ?_)
  · have hf := if_t c2 hf
    exact t_X3_readNumber_28 C hD hf hP hS (lv_sub hl [1, 0] rfl)
  · have hf := if_f c2 hf
    refine lv_aload_n hx hb dX3_readNumber_19 rfl (lv_at hl 1 rfl) ?_
    refine lv_aload_n hx hb dX3_readNumber_20 rfl (lv_at hl 1 rfl) ?_
    refine q_get C hP (q0 := 0) rfl rfl hiX3_readNumber_X3 5 (by decide) wdX3_readNumber_1 rfl dX3_readNumber_21 ?_
    refine lv_iconst (v := 3) hx hb dX3_readNumber_24 (by decide) ?_
    obtain ⟨x3, hx3, hf⟩ := bd_some hf
    refine q_Vv C (rc := (RX3, TX3, 14)) (q0 := 0) (ci := 3) (ws' := wT G qt da (qn 15) x3 ++ (wA G da ka sa ++ wN G qn sn)) (wr := []) (c_X3_refuse hx3) gX3_readNumber_X3_refuse rfl ⟨rfl, rfl⟩ hdX3_refuse ⟨(Nat.le_of_ble_eq_true rfl), (Nat.le_of_ble_eq_true rfl)⟩ rfl hP (dd_TAN hD) hS rfl rfl (List.Perm.refl _) (List.Perm.refl _) hl.1 (Nat.le_of_ble_eq_true rfl) ⟨Nat.zero_le _, Nat.zero_le _⟩ rfl dX3_readNumber_25 (fun H locs hP hS => ?_)
    exact t_X3_readNumber_28 C hD hf hP hS (lv_sub hl [1, 0] rfl)

-- X3_readList
theorem hiX3_readList_X3 : ∀ w ∈ u_ws RX3 TX3 14, w ∈ wsX3_readList := mem_run (i := 187) (by decide +kernel)
theorem wdX3_readList_1 : (Cond.fieldLink RX3 87 "CombinatorRing$TextReader" "start" "I") ∈ wsX3_readList := List.mem_of_getElem? (i := 1) rfl
theorem wdX3_readList_2 : (Cond.fieldLink RX3 64 "CombinatorRing$TextReader" "token" "I") ∈ wsX3_readList := List.mem_of_getElem? (i := 2) rfl
theorem wdX3_readList_3 : (Cond.fieldLink RX3 84 "CombinatorRing$TextReader" "value" "I") ∈ wsX3_readList := List.mem_of_getElem? (i := 3) rfl
theorem wdX3_readList_4 : (Cond.fieldLink RX3 33 "CombinatorRing$TextReader" "listed" "[I") ∈ wsX3_readList := List.mem_of_getElem? (i := 4) rfl
theorem wdX3_readList_5 : (Cond.fieldLink RX3 14 "CombinatorRing$TextReader" "net" "LCombinatorRing$Net;") ∈ wsX3_readList := List.mem_of_getElem? (i := 5) rfl
theorem wdX3_readList_6 : (Cond.fieldLink RX3 49 "CombinatorRing$TextReader" "fault" "I") ∈ wsX3_readList := List.mem_of_getElem? (i := 6) rfl
def t_readList_16 : Nat → OSt → Nat → (Nat → Int32) → NSt → Int32 → Int32 → Int32 → Int32 → Option (OSt × Int32 × Int32)
  | 0, _, _, _, _, _, _, _, _ => none
  | n + 1, tt, ka, sa, sn, v1, v2, v3, v4 => if 10 < v4 then some (tt, v2, v3) else if (tt.1 4) = 3 then if (tt.1 6) ≤ 9 then if v2 < 10 then gd v2 10 (nm (sA tt 13 (upd (tt.2 13) v2.toNatClampNeg (tt.1 6))) fun s7 => bd (n_numberSize (s7.1 6)) fun x8 => bd (t_advance s7 ka sa sn) fun x9 => t_readList_16 n x9 ka sa sn v1 (v2 + 1) (v3 + (1 + x8)) (v4 + 1)) else bd (t_refuse tt ka sa sn (tt.1 5) 4) fun x10 => bd (t_advance x10 ka sa sn) fun x11 => t_readList_16 n x11 ka sa sn v1 v2 v3 (v4 + 1) else bd (t_refuse tt ka sa sn (tt.1 5) 3) fun x12 => bd (t_advance x12 ka sa sn) fun x13 => t_readList_16 n x13 ka sa sn v1 v2 v3 (v4 + 1) else some (tt, v2, v3)
def t_readList_123 (tt : OSt) (ka : Nat) (sa : (Nat → Int32)) (sn : NSt) (v1 : Int32) (v2 : Int32) (v3 : Int32) : Option (Int32 × OSt × NSt) := bd (n_hasRoom sn v3) fun x16 => if x16 = 0 then bd (t_refuse tt ka sa sn v1 5) fun x20 => if (x20.1 7) = 0 then bd (n_makeList sn 10 (x20.2 13) v2) fun x22 => some (x22.1, x20, x22.2) else some ((-1), x20, sn) else if (tt.1 7) = 0 then bd (n_makeList sn 10 (tt.2 13) v2) fun x19 => some (x19.1, tt, x19.2) else some ((-1), tt, sn)
def t_readList_105 (tt : OSt) (ka : Nat) (sa : (Nat → Int32)) (sn : NSt) (v1 : Int32) (v2 : Int32) (v3 : Int32) : Option (Int32 × OSt × NSt) := if (tt.1 4) = 62 then t_readList_123 tt ka sa sn v1 v2 v3 else bd (t_refuse tt ka sa sn (tt.1 5) 1) fun x15 => t_readList_123 x15 ka sa sn v1 v2 v3
def t_readList (tt : OSt) (ka : Nat) (sa : (Nat → Int32)) (sn : NSt)  : Option (Int32 × OSt × NSt) := bd (t_advance tt ka sa sn) fun x1 => bd (t_readList_16 20000 x1 ka sa sn (tt.1 5) 0 1 0) fun x2 => t_readList_105 x2.1 ka sa sn (tt.1 5) x2.2.1 x2.2.2
abbrev rmX3_readList : Room := { frames := 6, cells := 0, slots := 0, locals := 128 }
theorem hdX3_readList : yX3_readList.cls = RX3 ∧ yX3_readList.cls ≠ "java/lang/invoke/MethodHandle" ∧ yX3_readList.cls ≠ "java/lang/invoke/VarHandle" ∧ (parseMethodDescriptor yX3_readList.desc).map (fun d => d.parameters.length) = some 0 := by decide +kernel
set_option maxHeartbeats 4000000 in
set_option maxRecDepth 100000 in
theorem t_X3_readList_16 {p : Program} {l : Launch} {e : Env} {s : State} {m : MethodId} {args : Array Value} {below : List Frame} {meth : Method} {c : Code} {Q : State → Prop} {A : Nat → Prop} {G : Gx} {qt : Nat → Nat} {da ka : Nat} {qn : Nat → Nat} {tt0 : OSt} {sa0 : (Nat → Int32)} {sn0 : NSt} (C : Cx p s m args meth c G cX3_readList wsX3_readList RX3 (some .int) 5 A) (hD : va_D A (wT G qt da (qn 15) tt0 ++ (wA G da ka sa0 ++ wN G qn sn0))) :
    ∀ {n : Nat} {tt : OSt} {sa : (Nat → Int32)} {sn : NSt} {v1 : Int32} {v2 : Int32} {v3 : Int32} {v4 : Int32} {x : OSt × Int32 × Int32}, t_readList_16 n tt ka sa sn v1 v2 v3 v4 = some x → ∀ {H : Heap} {locs : List Loc} {ls : Array Slot}, va_P G.1 vwCl (wT G qt da (qn 15) tt ++ (wA G da ka sa ++ wN G qn sn)) H → va_S A s.heap H locs → lv_has ls 5 [(0, .ref (qt 14)), (1, .int v1), (2, .int v2), (3, .int v3), (4, .int v4)] → (∀ {H : Heap} {locs : List Loc} {ls : Array Slot}, va_P G.1 vwCl (wT G qt da (qn 15) x.1 ++ (wA G da ka sa ++ wN G qn sn)) H → va_S A s.heap H locs → lv_has ls 5 [(0, .ref (qt 14)), (1, .int v1), (2, .int x.2.1), (3, .int x.2.2)] → W p l e rmX3_readList s m args below meth c H locs 0 0 Q (F0 m 105 ls [])) → W p l e rmX3_readList s m args below meth c H locs 0 0 Q (F0 m 16 ls []) := by
  have hx := C.1
  have hb := C.2.1
  intro n
  induction n with
  | zero => intro tt sa sn v1 v2 v3 v4 x hf; cases hf
  | succ n ih =>
    intro tt sa sn v1 v2 v3 v4 x hf H locs ls hP hS hl kk
    rw [t_readList_16] at hf
    refine lv_iload hx hb dX3_readList_16 (lv_at hl 4 rfl) ?_
    refine lv_bipush (v := 10) hx hb dX3_readList_18 (by decide) ?_
    refine lv_icmp_gt (tgt := 105) hx hb dX3_readList_20 (by decide) (fun c3 => ?_) (fun c3 => ?_)
    · have hf := if_t c3 hf
      cases hf
      exact kk hP hS (lv_sub hl [0, 1, 2, 3] rfl)
    · have hf := if_f c3 hf
      refine lv_aload_n hx hb dX3_readList_23 rfl (lv_at hl 0 rfl) ?_
      refine q_get C hP (q0 := 0) rfl rfl hiX3_readList_X3 4 (by decide) wdX3_readList_2 rfl dX3_readList_24 ?_
      refine lv_iconst (v := 3) hx hb dX3_readList_27 (by decide) ?_
      refine lv_icmp_ne (tgt := 105) hx hb dX3_readList_28 (by decide) (fun c4 => ?_) (fun c4 => ?_)
      · have hf := if_f c4 hf
        cases hf
        exact kk hP hS (lv_sub hl [0, 1, 2, 3] rfl)
      · have hf := if_t c4 hf
        refine lv_aload_n hx hb dX3_readList_31 rfl (lv_at hl 0 rfl) ?_
        refine q_get C hP (q0 := 0) rfl rfl hiX3_readList_X3 6 (by decide) wdX3_readList_3 rfl dX3_readList_32 ?_
        refine lv_bipush (v := 9) hx hb dX3_readList_35 (by decide) ?_
        refine lv_icmp_le (tgt := 52) hx hb dX3_readList_37 (by decide) (fun c5 => ?_) (fun c5 => ?_)
        · have hf := if_t c5 hf
          refine lv_iload_n hx hb dX3_readList_52 rfl (lv_at hl 2 rfl) ?_
          refine lv_bipush (v := 10) hx hb dX3_readList_53 (by decide) ?_
          refine lv_icmp_lt (tgt := 70) hx hb dX3_readList_55 (by decide) (fun c6 => ?_) (fun c6 => ?_)
          · have hf := if_t c6 hf
            refine lv_aload_n hx hb dX3_readList_70 rfl (lv_at hl 0 rfl) ?_
            refine q_get C hP (q0 := 0) rfl rfl hiX3_readList_X3 13 (by decide) wdX3_readList_4 rfl dX3_readList_71 ?_
            refine lv_iload_n hx hb dX3_readList_74 rfl (lv_at hl 2 rfl) ?_
            refine lv_aload_n hx hb dX3_readList_75 rfl (lv_at hl 0 rfl) ?_
            refine q_get C hP (q0 := 0) rfl rfl hiX3_readList_X3 6 (by decide) wdX3_readList_3 rfl dX3_readList_76 ?_
            obtain ⟨hin, hf⟩ := gd_some hf
            obtain ⟨s7, es7, hf⟩ := nm_ex hf
            refine q_iast C hP (dd_TAN hD) hS (q0 := 4) rfl rfl rfl hin dX3_readList_79 (fun H locs hP hS => ?_)
            have hP : va_P G.1 vwCl (wT G qt da (qn 15) s7 ++ (wA G da ka sa ++ wN G qn sn)) H := by rw [← es7]; exact hP
            refine lv_iinc (v := (v2 + 1)) (lv' := [(2, .int (v2 + 1)), (0, .ref (qt 14)), (1, .int v1), (3, .int v3), (4, .int v4)]) hx hb dX3_readList_80 hl (k := 2) rfl rfl (by decide) rfl (fun ls hl => ?_)
            refine lv_iload_n hx hb dX3_readList_83 rfl (lv_at hl 3 rfl) ?_
            refine lv_iconst (v := 1) hx hb dX3_readList_84 (by decide) ?_
            refine lv_aload_n hx hb dX3_readList_85 rfl (lv_at hl 1 rfl) ?_
            refine q_get C hP (q0 := 0) rfl rfl hiX3_readList_X3 6 (by decide) wdX3_readList_3 rfl dX3_readList_86 ?_
            obtain ⟨x8, hx8, hf⟩ := bd_some hf
            refine q_Si C (ws' := wT G qt da (qn 15) s7 ++ (wA G da ka sa ++ wN G qn sn)) (wr := []) (c_X0_numberSize (w := wT G qt da (qn 15) s7 ++ (wA G da ka sa ++ wN G qn sn)) hx8) gX3_readList_X0_numberSize rfl ⟨rfl, rfl⟩ hdX0_numberSize ⟨(Nat.le_of_ble_eq_true rfl), (Nat.le_of_ble_eq_true rfl)⟩ rfl hP (dd_TAN hD) hS (List.Perm.refl _) (List.Perm.refl _) hl.1 (Nat.le_of_ble_eq_true rfl) ⟨Nat.zero_le _, Nat.zero_le _⟩ rfl dX3_readList_89 (fun H locs hP hS => ?_)
            refine lv_iadd hx hb dX3_readList_92 ?_
            refine lv_iadd hx hb dX3_readList_93 ?_
            refine lv_istore_n (lv' := [(3, .int (v3 + (1 + x8))), (2, .int (v2 + 1)), (0, .ref (qt 14)), (1, .int v1), (4, .int v4)]) hx hb dX3_readList_94 rfl hl (by decide) rfl (fun ls hl => ?_)
            refine lv_aload_n hx hb dX3_readList_95 rfl (lv_at hl 2 rfl) ?_
            obtain ⟨x9, hx9, hf⟩ := bd_some hf
            refine q_Vv C (rc := (RX3, TX3, 14)) (q0 := 0) (ci := 3) (ws' := wT G qt da (qn 15) x9 ++ (wA G da ka sa ++ wN G qn sn)) (wr := []) (c_X3_advance hx9) gX3_readList_X3_advance rfl ⟨rfl, rfl⟩ hdX3_advance ⟨(Nat.le_of_ble_eq_true rfl), (Nat.le_of_ble_eq_true rfl)⟩ rfl hP (dd_TAN hD) hS rfl rfl (List.Perm.refl _) (List.Perm.refl _) hl.1 (Nat.le_of_ble_eq_true rfl) ⟨Nat.zero_le _, Nat.zero_le _⟩ rfl dX3_readList_96 (fun H locs hP hS => ?_)
            refine lv_iinc (v := (v4 + 1)) (lv' := [(4, .int (v4 + 1)), (3, .int (v3 + (1 + x8))), (2, .int (v2 + 1)), (0, .ref (qt 14)), (1, .int v1)]) hx hb dX3_readList_99 hl (k := 4) rfl rfl (by decide) rfl (fun ls hl => ?_)
            refine lv_goto (tgt := 16) hx hb dX3_readList_102 (by decide) ?_
            exact ih hf hP hS (lv_sub hl [3, 4, 2, 1, 0] rfl) kk
          · have hf := if_f c6 hf
            refine lv_aload_n hx hb dX3_readList_58 rfl (lv_at hl 0 rfl) ?_
            refine lv_aload_n hx hb dX3_readList_59 rfl (lv_at hl 0 rfl) ?_
            refine q_get C hP (q0 := 0) rfl rfl hiX3_readList_X3 5 (by decide) wdX3_readList_1 rfl dX3_readList_60 ?_
            refine lv_iconst (v := 4) hx hb dX3_readList_63 (by decide) ?_
            obtain ⟨x10, hx10, hf⟩ := bd_some hf
            refine q_Vv C (rc := (RX3, TX3, 14)) (q0 := 0) (ci := 3) (ws' := wT G qt da (qn 15) x10 ++ (wA G da ka sa ++ wN G qn sn)) (wr := []) (c_X3_refuse hx10) gX3_readList_X3_refuse rfl ⟨rfl, rfl⟩ hdX3_refuse ⟨(Nat.le_of_ble_eq_true rfl), (Nat.le_of_ble_eq_true rfl)⟩ rfl hP (dd_TAN hD) hS rfl rfl (List.Perm.refl _) (List.Perm.refl _) hl.1 (Nat.le_of_ble_eq_true rfl) ⟨Nat.zero_le _, Nat.zero_le _⟩ rfl dX3_readList_64 (fun H locs hP hS => ?_)
            refine lv_goto (tgt := 95) hx hb dX3_readList_67 (by decide) ?_
            refine lv_aload_n hx hb dX3_readList_95 rfl (lv_at hl 0 rfl) ?_
            obtain ⟨x11, hx11, hf⟩ := bd_some hf
            refine q_Vv C (rc := (RX3, TX3, 14)) (q0 := 0) (ci := 3) (ws' := wT G qt da (qn 15) x11 ++ (wA G da ka sa ++ wN G qn sn)) (wr := []) (c_X3_advance hx11) gX3_readList_X3_advance rfl ⟨rfl, rfl⟩ hdX3_advance ⟨(Nat.le_of_ble_eq_true rfl), (Nat.le_of_ble_eq_true rfl)⟩ rfl hP (dd_TAN hD) hS rfl rfl (List.Perm.refl _) (List.Perm.refl _) hl.1 (Nat.le_of_ble_eq_true rfl) ⟨Nat.zero_le _, Nat.zero_le _⟩ rfl dX3_readList_96 (fun H locs hP hS => ?_)
            refine lv_iinc (v := (v4 + 1)) (lv' := [(4, .int (v4 + 1)), (0, .ref (qt 14)), (1, .int v1), (2, .int v2), (3, .int v3)]) hx hb dX3_readList_99 hl (k := 4) rfl rfl (by decide) rfl (fun ls hl => ?_)
            refine lv_goto (tgt := 16) hx hb dX3_readList_102 (by decide) ?_
            exact ih hf hP hS (lv_sub hl [1, 2, 3, 4, 0] rfl) kk
        · have hf := if_f c5 hf
          refine lv_aload_n hx hb dX3_readList_40 rfl (lv_at hl 0 rfl) ?_
          refine lv_aload_n hx hb dX3_readList_41 rfl (lv_at hl 0 rfl) ?_
          refine q_get C hP (q0 := 0) rfl rfl hiX3_readList_X3 5 (by decide) wdX3_readList_1 rfl dX3_readList_42 ?_
          refine lv_iconst (v := 3) hx hb dX3_readList_45 (by decide) ?_
          obtain ⟨x12, hx12, hf⟩ := bd_some hf
          refine q_Vv C (rc := (RX3, TX3, 14)) (q0 := 0) (ci := 3) (ws' := wT G qt da (qn 15) x12 ++ (wA G da ka sa ++ wN G qn sn)) (wr := []) (c_X3_refuse hx12) gX3_readList_X3_refuse rfl ⟨rfl, rfl⟩ hdX3_refuse ⟨(Nat.le_of_ble_eq_true rfl), (Nat.le_of_ble_eq_true rfl)⟩ rfl hP (dd_TAN hD) hS rfl rfl (List.Perm.refl _) (List.Perm.refl _) hl.1 (Nat.le_of_ble_eq_true rfl) ⟨Nat.zero_le _, Nat.zero_le _⟩ rfl dX3_readList_46 (fun H locs hP hS => ?_)
          refine lv_goto (tgt := 95) hx hb dX3_readList_49 (by decide) ?_
          refine lv_aload_n hx hb dX3_readList_95 rfl (lv_at hl 0 rfl) ?_
          obtain ⟨x13, hx13, hf⟩ := bd_some hf
          refine q_Vv C (rc := (RX3, TX3, 14)) (q0 := 0) (ci := 3) (ws' := wT G qt da (qn 15) x13 ++ (wA G da ka sa ++ wN G qn sn)) (wr := []) (c_X3_advance hx13) gX3_readList_X3_advance rfl ⟨rfl, rfl⟩ hdX3_advance ⟨(Nat.le_of_ble_eq_true rfl), (Nat.le_of_ble_eq_true rfl)⟩ rfl hP (dd_TAN hD) hS rfl rfl (List.Perm.refl _) (List.Perm.refl _) hl.1 (Nat.le_of_ble_eq_true rfl) ⟨Nat.zero_le _, Nat.zero_le _⟩ rfl dX3_readList_96 (fun H locs hP hS => ?_)
          refine lv_iinc (v := (v4 + 1)) (lv' := [(4, .int (v4 + 1)), (0, .ref (qt 14)), (1, .int v1), (2, .int v2), (3, .int v3)]) hx hb dX3_readList_99 hl (k := 4) rfl rfl (by decide) rfl (fun ls hl => ?_)
          refine lv_goto (tgt := 16) hx hb dX3_readList_102 (by decide) ?_
          exact ih hf hP hS (lv_sub hl [1, 2, 3, 4, 0] rfl) kk
set_option maxHeartbeats 4000000 in
set_option maxRecDepth 100000 in
theorem t_X3_readList_123 {p : Program} {l : Launch} {e : Env} {s : State} {m : MethodId} {args : Array Value} {below : List Frame} {meth : Method} {c : Code} {A : Nat → Prop} {G : Gx} {qt : Nat → Nat} {da ka : Nat} {qn : Nat → Nat} {tt0 : OSt} {sa0 : (Nat → Int32)} {sn0 : NSt} (C : Cx p s m args meth c G cX3_readList wsX3_readList RX3 (some .int) 5 A) (hD : va_D A (wT G qt da (qn 15) tt0 ++ (wA G da ka sa0 ++ wN G qn sn0))) :
    ∀ {tt : OSt} {sa : (Nat → Int32)} {sn : NSt} {v1 : Int32} {v2 : Int32} {v3 : Int32} {x : Int32 × OSt × NSt}, t_readList_123 tt ka sa sn v1 v2 v3 = some x → ∀ {H : Heap} {locs : List Loc} {ls : Array Slot}, va_P G.1 vwCl (wT G qt da (qn 15) tt ++ (wA G da ka sa ++ wN G qn sn)) H → va_S A s.heap H locs → lv_has ls 5 [(0, .ref (qt 14)), (1, .int v1), (2, .int v2), (3, .int v3)] → W p l e rmX3_readList s m args below meth c H locs 0 0 (MQ below (qE G A (wT G qt da (qn 15) x.2.1 ++ (wA G da ka sa ++ wN G qn x.2.2)) (some (.int x.1))) args s 0 0 A) (F0 m 123 ls []) := by
  have hx := C.1
  have hb := C.2.1
  intro tt sa sn v1 v2 v3 x hf H locs ls hP hS hl
  unfold t_readList_123 at hf
  refine lv_aload_n hx hb dX3_readList_123 rfl (lv_at hl 0 rfl) ?_
  refine q_get C hP (q0 := 0) rfl rfl hiX3_readList_X3 0 (by decide) wdX3_readList_5 rfl dX3_readList_124 ?_
  refine lv_iload_n hx hb dX3_readList_127 rfl (lv_at hl 3 rfl) ?_
  obtain ⟨x16, hx16, hf⟩ := bd_some hf
  refine q_Vi C (rc := (RX0, TX0, 15)) (q0 := 6) (ci := 0) (ws' := wT G qt da (qn 15) tt ++ (wA G da ka sa ++ wN G qn sn)) (c_X0_hasRoom (qn := qn) hx16) gX3_readList_X0_hasRoom rfl ⟨rfl, rfl⟩ hdX0_hasRoom ⟨(Nat.le_of_ble_eq_true rfl), (Nat.le_of_ble_eq_true rfl)⟩ rfl hP (dd_TAN hD) hS rfl rfl pm_abc pm_abc2 hl.1 (Nat.le_of_ble_eq_true rfl) ⟨Nat.zero_le _, Nat.zero_le _⟩ rfl dX3_readList_128 (fun H locs hP hS => ?_)
  refine lv_if_ne (tgt := 140) hx hb dX3_readList_131 (by decide) (fun c17 => ?_) (fun c17 => ?_)
  · have hf := if_f c17 hf
    refine lv_aload_n hx hb dX3_readList_140 rfl (lv_at hl 0 rfl) ?_
    refine q_get C hP (q0 := 0) rfl rfl hiX3_readList_X3 7 (by decide) wdX3_readList_6 rfl dX3_readList_141 ?_
    refine lv_if_ne (tgt := 162) hx hb dX3_readList_144 (by decide) (fun c18 => ?_) (fun c18 => ?_)
    · have hf := if_f c18 hf
      refine lv_iconst (v := (-1)) hx hb dX3_readList_162 (by decide) ?_
      cases hf
      exact q_iret C hP hS rfl dX3_readList_163
    · have hf := if_t c18 hf
      refine lv_aload_n hx hb dX3_readList_147 rfl (lv_at hl 0 rfl) ?_
      refine q_get C hP (q0 := 0) rfl rfl hiX3_readList_X3 0 (by decide) wdX3_readList_5 rfl dX3_readList_148 ?_
      refine lv_aload_n hx hb dX3_readList_151 rfl (lv_at hl 0 rfl) ?_
      refine q_get C hP (q0 := 0) rfl rfl hiX3_readList_X3 13 (by decide) wdX3_readList_4 rfl dX3_readList_152 ?_
      refine lv_iload_n hx hb dX3_readList_155 rfl (lv_at hl 2 rfl) ?_
      obtain ⟨x19, hx19, hf⟩ := bd_some hf
      refine q_Vi C (rc := (RX0, TX0, 15)) (q0 := 6) (ci := 0) (ws' := wT G qt da (qn 15) tt ++ (wA G da ka sa ++ wN G qn x19.2)) (c_X0_makeList (qn := qn) (da := qt 13) (ka := 10) hx19) gX3_readList_X0_makeList rfl ⟨rfl, rfl⟩ hdX0_makeList ⟨(Nat.le_of_ble_eq_true rfl), (Nat.le_of_ble_eq_true rfl)⟩ rfl hP (dd_TAN hD) hS rfl rfl pm_TL pm_TL2 hl.1 (Nat.le_of_ble_eq_true rfl) ⟨Nat.zero_le _, Nat.zero_le _⟩ rfl dX3_readList_156 (fun H locs hP hS => ?_)
      refine lv_goto (tgt := 163) hx hb dX3_readList_159 (by decide) ?_
      cases hf
      exact q_iret C hP hS rfl dX3_readList_163
  · have hf := if_t c17 hf
    refine lv_aload_n hx hb dX3_readList_134 rfl (lv_at hl 0 rfl) ?_
    refine lv_iload_n hx hb dX3_readList_135 rfl (lv_at hl 1 rfl) ?_
    refine lv_iconst (v := 5) hx hb dX3_readList_136 (by decide) ?_
    obtain ⟨x20, hx20, hf⟩ := bd_some hf
    refine q_Vv C (rc := (RX3, TX3, 14)) (q0 := 0) (ci := 3) (ws' := wT G qt da (qn 15) x20 ++ (wA G da ka sa ++ wN G qn sn)) (wr := []) (c_X3_refuse hx20) gX3_readList_X3_refuse rfl ⟨rfl, rfl⟩ hdX3_refuse ⟨(Nat.le_of_ble_eq_true rfl), (Nat.le_of_ble_eq_true rfl)⟩ rfl hP (dd_TAN hD) hS rfl rfl (List.Perm.refl _) (List.Perm.refl _) hl.1 (Nat.le_of_ble_eq_true rfl) ⟨Nat.zero_le _, Nat.zero_le _⟩ rfl dX3_readList_137 (fun H locs hP hS => ?_)
    refine lv_aload_n hx hb dX3_readList_140 rfl (lv_at hl 0 rfl) ?_
    refine q_get C hP (q0 := 0) rfl rfl hiX3_readList_X3 7 (by decide) wdX3_readList_6 rfl dX3_readList_141 ?_
    refine lv_if_ne (tgt := 162) hx hb dX3_readList_144 (by decide) (fun c21 => ?_) (fun c21 => ?_)
    · have hf := if_f c21 hf
      refine lv_iconst (v := (-1)) hx hb dX3_readList_162 (by decide) ?_
      cases hf
      exact q_iret C hP hS rfl dX3_readList_163
    · have hf := if_t c21 hf
      refine lv_aload_n hx hb dX3_readList_147 rfl (lv_at hl 0 rfl) ?_
      refine q_get C hP (q0 := 0) rfl rfl hiX3_readList_X3 0 (by decide) wdX3_readList_5 rfl dX3_readList_148 ?_
      refine lv_aload_n hx hb dX3_readList_151 rfl (lv_at hl 0 rfl) ?_
      refine q_get C hP (q0 := 0) rfl rfl hiX3_readList_X3 13 (by decide) wdX3_readList_4 rfl dX3_readList_152 ?_
      refine lv_iload_n hx hb dX3_readList_155 rfl (lv_at hl 2 rfl) ?_
      obtain ⟨x22, hx22, hf⟩ := bd_some hf
      refine q_Vi C (rc := (RX0, TX0, 15)) (q0 := 6) (ci := 0) (ws' := wT G qt da (qn 15) x20 ++ (wA G da ka sa ++ wN G qn x22.2)) (c_X0_makeList (qn := qn) (da := qt 13) (ka := 10) hx22) gX3_readList_X0_makeList rfl ⟨rfl, rfl⟩ hdX0_makeList ⟨(Nat.le_of_ble_eq_true rfl), (Nat.le_of_ble_eq_true rfl)⟩ rfl hP (dd_TAN hD) hS rfl rfl pm_TL pm_TL2 hl.1 (Nat.le_of_ble_eq_true rfl) ⟨Nat.zero_le _, Nat.zero_le _⟩ rfl dX3_readList_156 (fun H locs hP hS => ?_)
      refine lv_goto (tgt := 163) hx hb dX3_readList_159 (by decide) ?_
      cases hf
      exact q_iret C hP hS rfl dX3_readList_163
set_option maxHeartbeats 4000000 in
set_option maxRecDepth 100000 in
theorem t_X3_readList_105 {p : Program} {l : Launch} {e : Env} {s : State} {m : MethodId} {args : Array Value} {below : List Frame} {meth : Method} {c : Code} {A : Nat → Prop} {G : Gx} {qt : Nat → Nat} {da ka : Nat} {qn : Nat → Nat} {tt0 : OSt} {sa0 : (Nat → Int32)} {sn0 : NSt} (C : Cx p s m args meth c G cX3_readList wsX3_readList RX3 (some .int) 5 A) (hD : va_D A (wT G qt da (qn 15) tt0 ++ (wA G da ka sa0 ++ wN G qn sn0))) :
    ∀ {tt : OSt} {sa : (Nat → Int32)} {sn : NSt} {v1 : Int32} {v2 : Int32} {v3 : Int32} {x : Int32 × OSt × NSt}, t_readList_105 tt ka sa sn v1 v2 v3 = some x → ∀ {H : Heap} {locs : List Loc} {ls : Array Slot}, va_P G.1 vwCl (wT G qt da (qn 15) tt ++ (wA G da ka sa ++ wN G qn sn)) H → va_S A s.heap H locs → lv_has ls 5 [(0, .ref (qt 14)), (1, .int v1), (2, .int v2), (3, .int v3)] → W p l e rmX3_readList s m args below meth c H locs 0 0 (MQ below (qE G A (wT G qt da (qn 15) x.2.1 ++ (wA G da ka sa ++ wN G qn x.2.2)) (some (.int x.1))) args s 0 0 A) (F0 m 105 ls []) := by
  have hx := C.1
  have hb := C.2.1
  intro tt sa sn v1 v2 v3 x hf H locs ls hP hS hl
  unfold t_readList_105 at hf
  refine lv_aload_n hx hb dX3_readList_105 rfl (lv_at hl 0 rfl) ?_
  refine q_get C hP (q0 := 0) rfl rfl hiX3_readList_X3 4 (by decide) wdX3_readList_2 rfl dX3_readList_106 ?_
  refine lv_bipush (v := 62) hx hb dX3_readList_109 (by decide) ?_
  refine lv_icmp_eq (tgt := 123) hx hb dX3_readList_111 (by decide) (fun c14 => ?_) (fun c14 => ?_)
  · have hf := if_t c14 hf
    exact t_X3_readList_123 C hD hf hP hS (lv_sub hl [0, 1, 2, 3] rfl)
  · have hf := if_f c14 hf
    refine lv_aload_n hx hb dX3_readList_114 rfl (lv_at hl 0 rfl) ?_
    refine lv_aload_n hx hb dX3_readList_115 rfl (lv_at hl 0 rfl) ?_
    refine q_get C hP (q0 := 0) rfl rfl hiX3_readList_X3 5 (by decide) wdX3_readList_1 rfl dX3_readList_116 ?_
    refine lv_iconst (v := 1) hx hb dX3_readList_119 (by decide) ?_
    obtain ⟨x15, hx15, hf⟩ := bd_some hf
    refine q_Vv C (rc := (RX3, TX3, 14)) (q0 := 0) (ci := 3) (ws' := wT G qt da (qn 15) x15 ++ (wA G da ka sa ++ wN G qn sn)) (wr := []) (c_X3_refuse hx15) gX3_readList_X3_refuse rfl ⟨rfl, rfl⟩ hdX3_refuse ⟨(Nat.le_of_ble_eq_true rfl), (Nat.le_of_ble_eq_true rfl)⟩ rfl hP (dd_TAN hD) hS rfl rfl (List.Perm.refl _) (List.Perm.refl _) hl.1 (Nat.le_of_ble_eq_true rfl) ⟨Nat.zero_le _, Nat.zero_le _⟩ rfl dX3_readList_120 (fun H locs hP hS => ?_)
    exact t_X3_readList_123 C hD hf hP hS (lv_sub hl [0, 1, 2, 3] rfl)
set_option maxHeartbeats 4000000 in
set_option maxRecDepth 100000 in
theorem c_X3_readList {l : Launch} {G : Gx} {qt : Nat → Nat} {da ka : Nat} {qn : Nat → Nat} {tt : OSt} {sa : (Nat → Int32)} {sn : NSt}  {x : Int32 × OSt × NSt} (hf : t_readList tt ka sa sn = some x) : QM l G yX3_readList wsX3_readList rmX3_readList [.ref (qt 14)] (wT G qt da (qn 15) tt ++ (wA G da ka sa ++ wN G qn sn)) (wT G qt da (qn 15) x.2.1 ++ (wA G da ka sa ++ wN G qn x.2.2)) (some (.int x.1)) := by
  refine QM.of (cc := cX3_readList) (maxL := 5) (ret := (some .int)) (by decide) rfl (Nat.le_of_ble_eq_true rfl) ?_
  intro p e s m below meth c A ls C hD hP hS hl
  have hx := C.1
  have hb := C.2.1
  have hl : lv_has ls 5 [(0, .ref (qt 14))] := hl
  unfold t_readList at hf
  refine lv_aload_n hx hb dX3_readList_0 rfl (lv_at hl 0 rfl) ?_
  refine q_get C hP (q0 := 0) rfl rfl hiX3_readList_X3 5 (by decide) wdX3_readList_1 rfl dX3_readList_1 ?_
  refine lv_istore_n (lv' := [(1, .int (tt.1 5)), (0, .ref (qt 14))]) hx hb dX3_readList_4 rfl hl (by decide) rfl (fun ls hl => ?_)
  refine lv_iconst (v := 0) hx hb dX3_readList_5 (by decide) ?_
  refine lv_istore_n (lv' := [(2, .int 0), (1, .int (tt.1 5)), (0, .ref (qt 14))]) hx hb dX3_readList_6 rfl hl (by decide) rfl (fun ls hl => ?_)
  refine lv_iconst (v := 1) hx hb dX3_readList_7 (by decide) ?_
  refine lv_istore_n (lv' := [(3, .int 1), (2, .int 0), (1, .int (tt.1 5)), (0, .ref (qt 14))]) hx hb dX3_readList_8 rfl hl (by decide) rfl (fun ls hl => ?_)
  refine lv_aload_n hx hb dX3_readList_9 rfl (lv_at hl 3 rfl) ?_
  obtain ⟨x1, hx1, hf⟩ := bd_some hf
  refine q_Vv C (rc := (RX3, TX3, 14)) (q0 := 0) (ci := 3) (ws' := wT G qt da (qn 15) x1 ++ (wA G da ka sa ++ wN G qn sn)) (wr := []) (c_X3_advance hx1) gX3_readList_X3_advance rfl ⟨rfl, rfl⟩ hdX3_advance ⟨(Nat.le_of_ble_eq_true rfl), (Nat.le_of_ble_eq_true rfl)⟩ rfl hP (dd_TAN hD) hS rfl rfl (List.Perm.refl _) (List.Perm.refl _) hl.1 (Nat.le_of_ble_eq_true rfl) ⟨Nat.zero_le _, Nat.zero_le _⟩ rfl dX3_readList_10 (fun H locs hP hS => ?_)
  refine lv_iconst (v := 0) hx hb dX3_readList_13 (by decide) ?_
  refine lv_istore (lv' := [(4, .int 0), (3, .int 1), (2, .int 0), (1, .int (tt.1 5)), (0, .ref (qt 14))]) hx hb dX3_readList_14 hl (by decide) rfl (fun ls hl => ?_)
  obtain ⟨x2, hx2, hf⟩ := bd_some hf
  refine t_X3_readList_16 C hD hx2 hP hS (lv_sub hl [4, 3, 2, 1, 0] rfl) (fun {H locs ls} hP hS hl => ?_)
  exact t_X3_readList_105 C hD hf hP hS (lv_sub hl [0, 1, 2, 3] rfl)
