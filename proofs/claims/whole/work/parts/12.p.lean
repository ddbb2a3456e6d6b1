-- J13_bitCount_95d88
theorem wdJ13_bitCount_95d88_1 : (Cond.constantLong RJ13 314 (6148914691236517205)) ∈ wsJ13_bitCount_95d88 := List.mem_of_getElem? (i := 1) rfl
theorem wdJ13_bitCount_95d88_2 : (Cond.constantLong RJ13 316 (3689348814741910323)) ∈ wsJ13_bitCount_95d88 := List.mem_of_getElem? (i := 2) rfl
theorem wdJ13_bitCount_95d88_3 : (Cond.constantLong RJ13 318 (1085102592571150095)) ∈ wsJ13_bitCount_95d88 := List.mem_of_getElem? (i := 3) rfl
def j_bitCount  (a1 : Int64) : Option (Int32) := nm ((a1 - (((a1).toUInt64 >>> ((1 : Int32).toInt64.toUInt64 &&& Int64.toUInt64 63)).toInt64 &&& 6148914691236517205))) fun y1 => nm (((y1 &&& 3689348814741910323) + (((y1).toUInt64 >>> ((2 : Int32).toInt64.toUInt64 &&& Int64.toUInt64 63)).toInt64 &&& 3689348814741910323))) fun y2 => nm (((y2 + ((y2).toUInt64 >>> ((4 : Int32).toInt64.toUInt64 &&& Int64.toUInt64 63)).toInt64) &&& 1085102592571150095)) fun y3 => nm ((y3 + ((y3).toUInt64 >>> ((8 : Int32).toInt64.toUInt64 &&& Int64.toUInt64 63)).toInt64)) fun y4 => nm ((y4 + ((y4).toUInt64 >>> ((16 : Int32).toInt64.toUInt64 &&& Int64.toUInt64 63)).toInt64)) fun y5 => nm ((y5 + ((y5).toUInt64 >>> ((32 : Int32).toInt64.toUInt64 &&& Int64.toUInt64 63)).toInt64)) fun y6 => some (y6.toInt32 &&& 127)
abbrev rmJ13_bitCount_95d88 : Room := { frames := 0, cells := 0, slots := 0, locals := 0 }
theorem hdJ13_bitCount_95d88 : yJ13_bitCount_95d88.cls ≠ "java/lang/invoke/MethodHandle" ∧ yJ13_bitCount_95d88.cls ≠ "java/lang/invoke/VarHandle" ∧ (parseMethodDescriptor yJ13_bitCount_95d88.desc).map (fun d => d.parameters.length) = some 1 := by decide +kernel
set_option maxHeartbeats 4000000 in
set_option maxRecDepth 100000 in
theorem c_J13_bitCount_95d88 {l : Launch} {G : Gx} {w : va_W}  {a1 : Int64} {x : Int32} (hf : j_bitCount a1 = some x) : QM l G yJ13_bitCount_95d88 wsJ13_bitCount_95d88 rmJ13_bitCount_95d88 [.long a1] (w) (w) (some (.int x)) := by
  refine QM.of (cc := cJ13_bitCount_95d88) (maxL := 2) (ret := (some .int)) (by decide) rfl (Nat.le_of_ble_eq_true rfl) ?_
  intro p e s m below meth c A ls C hD hP hS hl
  have hx := C.1
  have hb := C.2.1
  have hl : lv_has ls 2 [(0, .long a1)] := hl
  unfold j_bitCount at hf
  refine lv_lload_n hx hb dJ13_bitCount_95d88_0 rfl (lv_at hl 0 rfl) ?_
  refine lv_lload_n hx hb dJ13_bitCount_95d88_1 rfl (lv_at hl 0 rfl) ?_
  refine lv_iconst (v := 1) hx hb dJ13_bitCount_95d88_2 (by decide) ?_
  refine lv_lushr hx hb dJ13_bitCount_95d88_3 rfl ?_
  refine lv_ldc2 (v := 6148914691236517205) hx hb C.2.2.2.1 (C.2.2.2.2.1 _ wdJ13_bitCount_95d88_1) dJ13_bitCount_95d88_4 ?_
  refine lv_land hx hb dJ13_bitCount_95d88_7 ?_
  refine lv_lsub hx hb dJ13_bitCount_95d88_8 ?_
  obtain ⟨y1, ey1, hf⟩ := nm_ex hf
  refine lv_tL ey1 ?_
  refine lv_lstore_n (lv' := [(0, .long y1)]) hx hb dJ13_bitCount_95d88_9 rfl hl (by decide) rfl (fun ls hl => ?_)
  refine lv_lload_n hx hb dJ13_bitCount_95d88_10 rfl (lv_at hl 0 rfl) ?_
  refine lv_ldc2 (v := 3689348814741910323) hx hb C.2.2.2.1 (C.2.2.2.2.1 _ wdJ13_bitCount_95d88_2) dJ13_bitCount_95d88_11 ?_
  refine lv_land hx hb dJ13_bitCount_95d88_14 ?_
  refine lv_lload_n hx hb dJ13_bitCount_95d88_15 rfl (lv_at hl 0 rfl) ?_
  refine lv_iconst (v := 2) hx hb dJ13_bitCount_95d88_16 (by decide) ?_
  refine lv_lushr hx hb dJ13_bitCount_95d88_17 rfl ?_
  refine lv_ldc2 (v := 3689348814741910323) hx hb C.2.2.2.1 (C.2.2.2.2.1 _ wdJ13_bitCount_95d88_2) dJ13_bitCount_95d88_18 ?_
  refine lv_land hx hb dJ13_bitCount_95d88_21 ?_
  refine lv_ladd hx hb dJ13_bitCount_95d88_22 ?_
  obtain ⟨y2, ey2, hf⟩ := nm_ex hf
  refine lv_tL ey2 ?_
  refine lv_lstore_n (lv' := [(0, .long y2)]) hx hb dJ13_bitCount_95d88_23 rfl hl (by decide) rfl (fun ls hl => ?_)
  refine lv_lload_n hx hb dJ13_bitCount_95d88_24 rfl (lv_at hl 0 rfl) ?_
  refine lv_lload_n hx hb dJ13_bitCount_95d88_25 rfl (lv_at hl 0 rfl) ?_
  refine lv_iconst (v := 4) hx hb dJ13_bitCount_95d88_26 (by decide) ?_
  refine lv_lushr hx hb dJ13_bitCount_95d88_27 rfl ?_
  refine lv_ladd hx hb dJ13_bitCount_95d88_28 ?_
  refine lv_ldc2 (v := 1085102592571150095) hx hb C.2.2.2.1 (C.2.2.2.2.1 _ wdJ13_bitCount_95d88_3) dJ13_bitCount_95d88_29 ?_
  refine lv_land hx hb dJ13_bitCount_95d88_32 ?_
  obtain ⟨y3, ey3, hf⟩ := nm_ex hf
  refine lv_tL ey3 ?_
  refine lv_lstore_n (lv' := [(0, .long y3)]) hx hb dJ13_bitCount_95d88_33 rfl hl (by decide) rfl (fun ls hl => ?_)
  refine lv_lload_n hx hb dJ13_bitCount_95d88_34 rfl (lv_at hl 0 rfl) ?_
  refine lv_lload_n hx hb dJ13_bitCount_95d88_35 rfl (lv_at hl 0 rfl) ?_
  refine lv_bipush (v := 8) hx hb dJ13_bitCount_95d88_36 (by decide) ?_
  refine lv_lushr hx hb dJ13_bitCount_95d88_38 rfl ?_
  refine lv_ladd hx hb dJ13_bitCount_95d88_39 ?_
  obtain ⟨y4, ey4, hf⟩ := nm_ex hf
  refine lv_tL ey4 ?_
  refine lv_lstore_n (lv' := [(0, .long y4)]) hx hb dJ13_bitCount_95d88_40 rfl hl (by decide) rfl (fun ls hl => ?_)
  refine lv_lload_n hx hb dJ13_bitCount_95d88_41 rfl (lv_at hl 0 rfl) ?_
  refine lv_lload_n hx hb dJ13_bitCount_95d88_42 rfl (lv_at hl 0 rfl) ?_
  refine lv_bipush (v := 16) hx hb dJ13_bitCount_95d88_43 (by decide) ?_
  refine lv_lushr hx hb dJ13_bitCount_95d88_45 rfl ?_
  refine lv_ladd hx hb dJ13_bitCount_95d88_46 ?_
  obtain ⟨y5, ey5, hf⟩ := nm_ex hf
  refine lv_tL ey5 ?_
  refine lv_lstore_n (lv' := [(0, .long y5)]) hx hb dJ13_bitCount_95d88_47 rfl hl (by decide) rfl (fun ls hl => ?_)
  refine lv_lload_n hx hb dJ13_bitCount_95d88_48 rfl (lv_at hl 0 rfl) ?_
  refine lv_lload_n hx hb dJ13_bitCount_95d88_49 rfl (lv_at hl 0 rfl) ?_
  refine lv_bipush (v := 32) hx hb dJ13_bitCount_95d88_50 (by decide) ?_
  refine lv_lushr hx hb dJ13_bitCount_95d88_52 rfl ?_
  refine lv_ladd hx hb dJ13_bitCount_95d88_53 ?_
  obtain ⟨y6, ey6, hf⟩ := nm_ex hf
  refine lv_tL ey6 ?_
  refine lv_lstore_n (lv' := [(0, .long y6)]) hx hb dJ13_bitCount_95d88_54 rfl hl (by decide) rfl (fun ls hl => ?_)
  refine lv_lload_n hx hb dJ13_bitCount_95d88_55 rfl (lv_at hl 0 rfl) ?_
  refine lv_l2i hx hb dJ13_bitCount_95d88_56 rfl ?_
  refine lv_bipush (v := 127) hx hb dJ13_bitCount_95d88_57 (by decide) ?_
  refine lv_iand hx hb dJ13_bitCount_95d88_59 ?_
  cases hf
  exact q_iret C hP hS rfl dJ13_bitCount_95d88_60

-- J7_fill_53178
def j_fill_53_5 : Nat → Nat → (Nat → Int32) → Int32 → Int32 → Int32 → Option ((Nat → Int32))
  | 0, _, _, _, _, _ => none
  | n + 1, ka, sa, v1, v2, v3 => if v3 ≤ v2 then some sa else gd v2 ka (nm (upd sa v2.toNatClampNeg v1) fun s3 => j_fill_53_5 n ka s3 v1 (v2 + 1) v3)
def j_fill_53 (ka : Nat) (sa : (Nat → Int32)) (a2 : Int32) : Option ((Nat → Int32)) := bd (j_fill_53_5 20000 ka sa a2 0 (nI ka)) fun x1 => some x1
abbrev rmJ7_fill_53178 : Room := { frames := 0, cells := 0, slots := 0, locals := 0 }
theorem hdJ7_fill_53178 : yJ7_fill_53178.cls ≠ "java/lang/invoke/MethodHandle" ∧ yJ7_fill_53178.cls ≠ "java/lang/invoke/VarHandle" ∧ (parseMethodDescriptor yJ7_fill_53178.desc).map (fun d => d.parameters.length) = some 2 := by decide +kernel
set_option maxHeartbeats 4000000 in
set_option maxRecDepth 100000 in
theorem t_J7_fill_53178_5 {p : Program} {l : Launch} {e : Env} {s : State} {m : MethodId} {args : Array Value} {below : List Frame} {meth : Method} {c : Code} {Q : State → Prop} {A : Nat → Prop} {G : Gx} {da ka : Nat} {sa0 : (Nat → Int32)} (C : Cx p s m args meth c G cJ7_fill_53178 wsJ7_fill_53178 RJ7 none 4 A) (hD : va_D A (wA G da ka sa0)) :
    ∀ {n : Nat} {sa : (Nat → Int32)} {v1 : Int32} {v2 : Int32} {v3 : Int32} {x : (Nat → Int32)}, j_fill_53_5 n ka sa v1 v2 v3 = some x → ∀ {H : Heap} {locs : List Loc} {ls : Array Slot}, va_P G.1 vwCl (wA G da ka sa) H → va_S A s.heap H locs → lv_has ls 4 [(0, .ref da), (1, .int v1), (2, .int v2), (3, .int v3)] → (∀ {H : Heap} {locs : List Loc} {ls : Array Slot}, va_P G.1 vwCl (wA G da ka x) H → va_S A s.heap H locs → lv_has ls 4 [] → W p l e rmJ7_fill_53178 s m args below meth c H locs 0 0 Q (F0 m 20 ls [])) → W p l e rmJ7_fill_53178 s m args below meth c H locs 0 0 Q (F0 m 5 ls []) := by
  have hx := C.1
  have hb := C.2.1
  intro n
  induction n with
  | zero => intro sa v1 v2 v3 x hf; cases hf
  | succ n ih =>
    intro sa v1 v2 v3 x hf H locs ls hP hS hl kk
    rw [j_fill_53_5] at hf
    refine lv_iload_n hx hb dJ7_fill_53178_5 rfl (lv_at hl 2 rfl) ?_
    refine lv_iload_n hx hb dJ7_fill_53178_6 rfl (lv_at hl 3 rfl) ?_
    refine lv_icmp_ge (tgt := 20) hx hb dJ7_fill_53178_7 (by decide) (fun c2 => ?_) (fun c2 => ?_)
    · have hf := if_t c2 hf
      cases hf
      exact kk hP hS (lv_sub hl [] rfl)
    · have hf := if_f c2 hf
      refine lv_aload_n hx hb dJ7_fill_53178_10 rfl (lv_at hl 0 rfl) ?_
      refine lv_iload_n hx hb dJ7_fill_53178_11 rfl (lv_at hl 2 rfl) ?_
      refine lv_iload_n hx hb dJ7_fill_53178_12 rfl (lv_at hl 1 rfl) ?_
      obtain ⟨hin, hf⟩ := gd_some hf
      obtain ⟨s3, es3, hf⟩ := nm_ex hf
      refine q_iast C hP (dd_A hD) hS (q0 := 0) rfl rfl rfl hin dJ7_fill_53178_13 (fun H locs hP hS => ?_)
      have hP : va_P G.1 vwCl (wA G da ka s3) H := by rw [← es3]; exact hP
      refine lv_iinc (v := (v2 + 1)) (lv' := [(2, .int (v2 + 1)), (0, .ref da), (1, .int v1), (3, .int v3)]) hx hb dJ7_fill_53178_14 hl (k := 2) rfl rfl (by decide) rfl (fun ls hl => ?_)
      refine lv_goto (tgt := 5) hx hb dJ7_fill_53178_17 (by decide) ?_
      exact ih hf hP hS (lv_sub hl [1, 2, 0, 3] rfl) kk
set_option maxHeartbeats 4000000 in
set_option maxRecDepth 100000 in
theorem c_J7_fill_53178 {l : Launch} {G : Gx} {da ka : Nat} {sa : (Nat → Int32)} {a2 : Int32} {x : (Nat → Int32)} (hf : j_fill_53 ka sa a2 = some x) : QM l G yJ7_fill_53178 wsJ7_fill_53178 rmJ7_fill_53178 [.ref da, .int a2] (wA G da ka sa) (wA G da ka x) none := by
  refine QM.of (cc := cJ7_fill_53178) (maxL := 4) (ret := none) (by decide) rfl (Nat.le_of_ble_eq_true rfl) ?_
  intro p e s m below meth c A ls C hD hP hS hl
  have hx := C.1
  have hb := C.2.1
  have hl : lv_has ls 4 [(0, .ref da), (1, .int a2)] := hl
  unfold j_fill_53 at hf
  refine lv_iconst (v := 0) hx hb dJ7_fill_53178_0 (by decide) ?_
  refine lv_istore_n (lv' := [(2, .int 0), (0, .ref da), (1, .int a2)]) hx hb dJ7_fill_53178_1 rfl hl (by decide) rfl (fun ls hl => ?_)
  refine lv_aload_n hx hb dJ7_fill_53178_2 rfl (lv_at hl 1 rfl) ?_
  refine q_alen C hP (q0 := 0) rfl (t0 := 0) rfl dJ7_fill_53178_3 ?_
  refine lv_istore_n (lv' := [(3, .int (nI ka)), (2, .int 0), (0, .ref da), (1, .int a2)]) hx hb dJ7_fill_53178_4 rfl hl (by decide) rfl (fun ls hl => ?_)
  obtain ⟨x1, hx1, hf⟩ := bd_some hf
  refine t_J7_fill_53178_5 C hD hx1 hP hS (lv_sub hl [2, 3, 1, 0] rfl) (fun {H locs ls} hP hS hl => ?_)
  cases hf
  exact q_vret C hP hS rfl dJ7_fill_53178_20

-- J7_fill_d0a16
def j_fill_d0_6 : Nat → Nat → (Nat → Int64) → Int64 → Int32 → Int32 → Option ((Nat → Int64))
  | 0, _, _, _, _, _ => none
  | n + 1, ka, sa, v1, v3, v4 => if v4 ≤ v3 then some sa else gd v3 ka (nm (vp_updL sa v3.toNatClampNeg v1) fun s3 => j_fill_d0_6 n ka s3 v1 (v3 + 1) v4)
def j_fill_d0 (ka : Nat) (sa : (Nat → Int64)) (a2 : Int64) : Option ((Nat → Int64)) := bd (j_fill_d0_6 20000 ka sa a2 0 (nI ka)) fun x1 => some x1
abbrev rmJ7_fill_d0a16 : Room := { frames := 0, cells := 0, slots := 0, locals := 0 }
theorem hdJ7_fill_d0a16 : yJ7_fill_d0a16.cls ≠ "java/lang/invoke/MethodHandle" ∧ yJ7_fill_d0a16.cls ≠ "java/lang/invoke/VarHandle" ∧ (parseMethodDescriptor yJ7_fill_d0a16.desc).map (fun d => d.parameters.length) = some 2 := by decide +kernel
set_option maxHeartbeats 4000000 in
set_option maxRecDepth 100000 in
theorem t_J7_fill_d0a16_6 {p : Program} {l : Launch} {e : Env} {s : State} {m : MethodId} {args : Array Value} {below : List Frame} {meth : Method} {c : Code} {Q : State → Prop} {A : Nat → Prop} {G : Gx} {da ka : Nat} {sa0 : (Nat → Int64)} (C : Cx p s m args meth c G cJ7_fill_d0a16 wsJ7_fill_d0a16 RJ7 none 5 A) (hD : va_D A (wL G da ka sa0)) :
    ∀ {n : Nat} {sa : (Nat → Int64)} {v1 : Int64} {v3 : Int32} {v4 : Int32} {x : (Nat → Int64)}, j_fill_d0_6 n ka sa v1 v3 v4 = some x → ∀ {H : Heap} {locs : List Loc} {ls : Array Slot}, va_P G.1 vwCl (wL G da ka sa) H → va_S A s.heap H locs → lv_has ls 5 [(0, .ref da), (1, .long v1), (3, .int v3), (4, .int v4)] → (∀ {H : Heap} {locs : List Loc} {ls : Array Slot}, va_P G.1 vwCl (wL G da ka x) H → va_S A s.heap H locs → lv_has ls 5 [] → W p l e rmJ7_fill_d0a16 s m args below meth c H locs 0 0 Q (F0 m 22 ls [])) → W p l e rmJ7_fill_d0a16 s m args below meth c H locs 0 0 Q (F0 m 6 ls []) := by
  have hx := C.1
  have hb := C.2.1
  intro n
  induction n with
  | zero => intro sa v1 v3 v4 x hf; cases hf
  | succ n ih =>
    intro sa v1 v3 v4 x hf H locs ls hP hS hl kk
    rw [j_fill_d0_6] at hf
    refine lv_iload_n hx hb dJ7_fill_d0a16_6 rfl (lv_at hl 2 rfl) ?_
    refine lv_iload hx hb dJ7_fill_d0a16_7 (lv_at hl 3 rfl) ?_
    refine lv_icmp_ge (tgt := 22) hx hb dJ7_fill_d0a16_9 (by decide) (fun c2 => ?_) (fun c2 => ?_)
    · have hf := if_t c2 hf
      cases hf
      exact kk hP hS (lv_sub hl [] rfl)
    · have hf := if_f c2 hf
      refine lv_aload_n hx hb dJ7_fill_d0a16_12 rfl (lv_at hl 0 rfl) ?_
      refine lv_iload_n hx hb dJ7_fill_d0a16_13 rfl (lv_at hl 2 rfl) ?_
      refine lv_lload_n hx hb dJ7_fill_d0a16_14 rfl (lv_at hl 1 rfl) ?_
      obtain ⟨hin, hf⟩ := gd_some hf
      obtain ⟨s3, es3, hf⟩ := nm_ex hf
      refine q_last C hP (dd_L hD) hS (q0 := 0) rfl rfl rfl hin dJ7_fill_d0a16_15 (fun H locs hP hS => ?_)
      have hP : va_P G.1 vwCl (wL G da ka s3) H := by rw [← es3]; exact hP
      refine lv_iinc (v := (v3 + 1)) (lv' := [(3, .int (v3 + 1)), (0, .ref da), (1, .long v1), (4, .int v4)]) hx hb dJ7_fill_d0a16_16 hl (k := 2) rfl rfl (by decide) rfl (fun ls hl => ?_)
      refine lv_goto (tgt := 6) hx hb dJ7_fill_d0a16_19 (by decide) ?_
      exact ih hf hP hS (lv_sub hl [1, 2, 0, 3] rfl) kk
set_option maxHeartbeats 4000000 in
set_option maxRecDepth 100000 in
theorem c_J7_fill_d0a16 {l : Launch} {G : Gx} {da ka : Nat} {sa : (Nat → Int64)} {a2 : Int64} {x : (Nat → Int64)} (hf : j_fill_d0 ka sa a2 = some x) : QM l G yJ7_fill_d0a16 wsJ7_fill_d0a16 rmJ7_fill_d0a16 [.ref da, .long a2] (wL G da ka sa) (wL G da ka x) none := by
  refine QM.of (cc := cJ7_fill_d0a16) (maxL := 5) (ret := none) (by decide) rfl (Nat.le_of_ble_eq_true rfl) ?_
  intro p e s m below meth c A ls C hD hP hS hl
  have hx := C.1
  have hb := C.2.1
  have hl : lv_has ls 5 [(0, .ref da), (1, .long a2)] := hl
  unfold j_fill_d0 at hf
  refine lv_iconst (v := 0) hx hb dJ7_fill_d0a16_0 (by decide) ?_
  refine lv_istore_n (lv' := [(3, .int 0), (0, .ref da), (1, .long a2)]) hx hb dJ7_fill_d0a16_1 rfl hl (by decide) rfl (fun ls hl => ?_)
  refine lv_aload_n hx hb dJ7_fill_d0a16_2 rfl (lv_at hl 1 rfl) ?_
  refine q_alen C hP (q0 := 0) rfl (t0 := 1) rfl dJ7_fill_d0a16_3 ?_
  refine lv_istore (lv' := [(4, .int (nI ka)), (3, .int 0), (0, .ref da), (1, .long a2)]) hx hb dJ7_fill_d0a16_4 hl (by decide) rfl (fun ls hl => ?_)
  obtain ⟨x1, hx1, hf⟩ := bd_some hf
  refine t_J7_fill_d0a16_6 C hD hx1 hP hS (lv_sub hl [2, 3, 1, 0] rfl) (fun {H locs ls} hP hS hl => ?_)
  cases hf
  exact q_vret C hP hS rfl dJ7_fill_d0a16_22

-- X1_placeOfBit
def p_placeOfBit_5 : Nat → Int32 → Int64 → Int32 → Option (Int64)
  | 0, _, _, _ => none
  | n + 1, v2, v3, v5 => if v2 ≤ v5 then some v3 else p_placeOfBit_5 n  v2 (v3 &&& (v3 - 1)) (v5 + 1)
def p_placeOfBit  (a1 : Int64) (a2 : Int32) : Option (Int32) := bd (p_placeOfBit_5 20000  a2 a1 0) fun x1 => bd (j_bitCount ((x1 &&& (-x1)) - 1)) fun x2 => some x2
abbrev rmX1_placeOfBit : Room := { frames := 1, cells := 0, slots := 0, locals := 21 }
theorem hdX1_placeOfBit : yX1_placeOfBit.cls ≠ "java/lang/invoke/MethodHandle" ∧ yX1_placeOfBit.cls ≠ "java/lang/invoke/VarHandle" ∧ (parseMethodDescriptor yX1_placeOfBit.desc).map (fun d => d.parameters.length) = some 2 := by decide +kernel
set_option maxHeartbeats 4000000 in
set_option maxRecDepth 100000 in
theorem t_X1_placeOfBit_5 {p : Program} {l : Launch} {e : Env} {s : State} {m : MethodId} {args : Array Value} {below : List Frame} {meth : Method} {c : Code} {Q : State → Prop} {A : Nat → Prop} {G : Gx} {w : va_W}  (C : Cx p s m args meth c G cX1_placeOfBit wsX1_placeOfBit RX1 (some .int) 6 A) (hD : va_D A (w)) :
    ∀ {n : Nat}  {v2 : Int32} {v3 : Int64} {v5 : Int32} {x : Int64}, p_placeOfBit_5 n v2 v3 v5 = some x → ∀ {H : Heap} {locs : List Loc} {ls : Array Slot}, va_P G.1 vwCl (w) H → va_S A s.heap H locs → lv_has ls 6 [(2, .int v2), (3, .long v3), (5, .int v5)] → (∀ {H : Heap} {locs : List Loc} {ls : Array Slot}, va_P G.1 vwCl (w) H → va_S A s.heap H locs → lv_has ls 6 [(3, .long x)] → W p l e rmX1_placeOfBit s m args below meth c H locs 0 0 Q (F0 m 23 ls [])) → W p l e rmX1_placeOfBit s m args below meth c H locs 0 0 Q (F0 m 5 ls []) := by
  have hx := C.1
  have hb := C.2.1
  intro n
  induction n with
  | zero => intro v2 v3 v5 x hf; cases hf
  | succ n ih =>
    intro v2 v3 v5 x hf H locs ls hP hS hl kk
    rw [p_placeOfBit_5] at hf
    refine lv_iload hx hb dX1_placeOfBit_5 (lv_at hl 2 rfl) ?_
    refine lv_iload_n hx hb dX1_placeOfBit_7 rfl (lv_at hl 0 rfl) ?_
    refine lv_icmp_ge (tgt := 23) hx hb dX1_placeOfBit_8 (by decide) (fun c3 => ?_) (fun c3 => ?_)
    · have hf := if_t c3 hf
      cases hf
      exact kk hP hS (lv_sub hl [1] rfl)
    · have hf := if_f c3 hf
      refine lv_lload_n hx hb dX1_placeOfBit_11 rfl (lv_at hl 1 rfl) ?_
      refine lv_lload_n hx hb dX1_placeOfBit_12 rfl (lv_at hl 1 rfl) ?_
      refine lv_lconst (v := 1) hx hb dX1_placeOfBit_13 (by decide) ?_
      refine lv_lsub hx hb dX1_placeOfBit_14 ?_
      refine lv_land hx hb dX1_placeOfBit_15 ?_
      refine lv_lstore_n (lv' := [(3, .long (v3 &&& (v3 - 1))), (2, .int v2), (5, .int v5)]) hx hb dX1_placeOfBit_16 rfl hl (by decide) rfl (fun ls hl => ?_)
      refine lv_iinc (v := (v5 + 1)) (lv' := [(5, .int (v5 + 1)), (3, .long (v3 &&& (v3 - 1))), (2, .int v2)]) hx hb dX1_placeOfBit_17 hl (k := 2) rfl rfl (by decide) rfl (fun ls hl => ?_)
      refine lv_goto (tgt := 5) hx hb dX1_placeOfBit_20 (by decide) ?_
      exact ih hf hP hS (lv_sub hl [2, 1, 0] rfl) kk
set_option maxHeartbeats 4000000 in
set_option maxRecDepth 100000 in
theorem c_X1_placeOfBit {l : Launch} {G : Gx} {w : va_W}  {a1 : Int64} {a2 : Int32} {x : Int32} (hf : p_placeOfBit a1 a2 = some x) : QM l G yX1_placeOfBit wsX1_placeOfBit rmX1_placeOfBit [.long a1, .int a2] (w) (w) (some (.int x)) := by
  refine QM.of (cc := cX1_placeOfBit) (maxL := 6) (ret := (some .int)) (by decide) rfl (Nat.le_of_ble_eq_true rfl) ?_
  intro p e s m below meth c A ls C hD hP hS hl
  have hx := C.1
  have hb := C.2.1
  have hl : lv_has ls 6 [(0, .long a1), (2, .int a2)] := hl
  unfold p_placeOfBit at hf
  refine lv_lload_n hx hb dX1_placeOfBit_0 rfl (lv_at hl 0 rfl) ?_
  refine lv_lstore_n (lv' := [(3, .long a1), (0, .long a1), (2, .int a2)]) hx hb dX1_placeOfBit_1 rfl hl (by decide) rfl (fun ls hl => ?_)
  refine lv_iconst (v := 0) hx hb dX1_placeOfBit_2 (by decide) ?_
  refine lv_istore (lv' := [(5, .int 0), (3, .long a1), (0, .long a1), (2, .int a2)]) hx hb dX1_placeOfBit_3 hl (by decide) rfl (fun ls hl => ?_)
  obtain ⟨x1, hx1, hf⟩ := bd_some hf
  refine t_X1_placeOfBit_5 C hD hx1 hP hS (lv_sub hl [3, 1, 0] rfl) (fun {H locs ls} hP hS hl => ?_)
  refine lv_lload_n hx hb dX1_placeOfBit_23 rfl (lv_at hl 0 rfl) ?_
  refine lv_lload_n hx hb dX1_placeOfBit_24 rfl (lv_at hl 0 rfl) ?_
  refine lv_lneg hx hb dX1_placeOfBit_25 ?_
  refine lv_land hx hb dX1_placeOfBit_26 ?_
  refine lv_lconst (v := 1) hx hb dX1_placeOfBit_27 (by decide) ?_
  refine lv_lsub hx hb dX1_placeOfBit_28 ?_
  obtain ⟨x2, hx2, hf⟩ := bd_some hf
  refine q_Si C (ws' := w) (wr := []) (c_J13_bitCount_95d88 (w := w) hx2) gX1_placeOfBit_J13_bitCount_95d88 rfl ⟨rfl, rfl⟩ hdJ13_bitCount_95d88 ⟨(Nat.le_of_ble_eq_true rfl), (Nat.le_of_ble_eq_true rfl)⟩ rfl hP hD hS (List.Perm.refl _) (List.Perm.refl _) hl.1 (Nat.le_of_ble_eq_true rfl) ⟨Nat.zero_le _, Nat.zero_le _⟩ rfl dX1_placeOfBit_29 (fun H locs hP hS => ?_)
  cases hf
  exact q_iret C hP hS rfl dX1_placeOfBit_32

-- X1_word
theorem hiX1_word_X1 : ∀ w ∈ u_ws RX1 TX1 2, w ∈ wsX1_word := mem_run (i := 3) (by decide +kernel)
theorem wdX1_word_1 : (Cond.fieldLink RX1 11 "CombinatorRing$Pairs" "steady" "[J") ∈ wsX1_word := List.mem_of_getElem? (i := 1) rfl
theorem wdX1_word_2 : (Cond.fieldLink RX1 15 "CombinatorRing$Pairs" "growing" "[J") ∈ wsX1_word := List.mem_of_getElem? (i := 2) rfl
def p_word (sp : PSt) (a1 : Int32) (a2 : Int32) : Option (Int64) := if a2 = 0 then gd a1 5 (some (sp.1 a1.toNatClampNeg)) else gd a1 5 (gd a1 5 (some ((sp.1 a1.toNatClampNeg) ||| (sp.2 a1.toNatClampNeg))))
abbrev rmX1_word : Room := { frames := 0, cells := 0, slots := 0, locals := 0 }
theorem hdX1_word : yX1_word.cls = RX1 ∧ yX1_word.cls ≠ "java/lang/invoke/MethodHandle" ∧ yX1_word.cls ≠ "java/lang/invoke/VarHandle" ∧ (parseMethodDescriptor yX1_word.desc).map (fun d => d.parameters.length) = some 2 := by decide +kernel
set_option maxHeartbeats 4000000 in
set_option maxRecDepth 100000 in
theorem c_X1_word {l : Launch} {G : Gx} {qp : Nat → Nat} {sp : PSt} {a1 : Int32} {a2 : Int32} {x : Int64} (hf : p_word sp a1 a2 = some x) : QM l G yX1_word wsX1_word rmX1_word [.ref (qp 2), .int a1, .int a2] (wP G qp sp) (wP G qp sp) (some (.long x)) := by
  refine QM.of (cc := cX1_word) (maxL := 3) (ret := (some .long)) (by decide) rfl (Nat.le_of_ble_eq_true rfl) ?_
  intro p e s m below meth c A ls C hD hP hS hl
  have hx := C.1
  have hb := C.2.1
  have hl : lv_has ls 3 [(0, .ref (qp 2)), (1, .int a1), (2, .int a2)] := hl
  unfold p_word at hf
  refine lv_iload_n hx hb dX1_word_0 rfl (lv_at hl 2 rfl) ?_
  refine lv_if_eq (tgt := 20) hx hb dX1_word_1 (by decide) (fun c1 => ?_) (fun c1 => ?_)
  · have hf := if_t c1 hf
    refine lv_aload_n hx hb dX1_word_20 rfl (lv_at hl 0 rfl) ?_
    refine q_get C hP (q0 := 0) rfl rfl hiX1_word_X1 0 (by decide) wdX1_word_1 rfl dX1_word_21 ?_
    refine lv_iload_n hx hb dX1_word_24 rfl (lv_at hl 1 rfl) ?_
    obtain ⟨hin, hf⟩ := gd_some hf
    refine q_lald C hP (q0 := 1) rfl rfl hin dX1_word_25 ?_
    cases hf
    exact q_lret C hP hS rfl dX1_word_26
  · have hf := if_f c1 hf
    refine lv_aload_n hx hb dX1_word_4 rfl (lv_at hl 0 rfl) ?_
    refine q_get C hP (q0 := 0) rfl rfl hiX1_word_X1 0 (by decide) wdX1_word_1 rfl dX1_word_5 ?_
    refine lv_iload_n hx hb dX1_word_8 rfl (lv_at hl 1 rfl) ?_
    obtain ⟨hin, hf⟩ := gd_some hf
    refine q_lald C hP (q0 := 1) rfl rfl hin dX1_word_9 ?_
    refine lv_aload_n hx hb dX1_word_10 rfl (lv_at hl 0 rfl) ?_
    refine q_get C hP (q0 := 0) rfl rfl hiX1_word_X1 1 (by decide) wdX1_word_2 rfl dX1_word_11 ?_
    refine lv_iload_n hx hb dX1_word_14 rfl (lv_at hl 1 rfl) ?_
    obtain ⟨hin, hf⟩ := gd_some hf
    refine q_lald C hP (q0 := 2) rfl rfl hin dX1_word_15 ?_
    refine lv_lor hx hb dX1_word_16 ?_
    refine lv_goto (tgt := 26) hx hb dX1_word_17 (by decide) ?_
    cases hf
    exact q_lret C hP hS rfl dX1_word_26

-- X1_clear
theorem hiX1_clear_X1 : ∀ w ∈ u_ws RX1 TX1 2, w ∈ wsX1_clear := mem_run (i := 7) (by decide +kernel)
theorem wdX1_clear_1 : (Cond.fieldLink RX1 11 "CombinatorRing$Pairs" "steady" "[J") ∈ wsX1_clear := List.mem_of_getElem? (i := 1) rfl
theorem wdX1_clear_2 : (Cond.fieldLink RX1 15 "CombinatorRing$Pairs" "growing" "[J") ∈ wsX1_clear := List.mem_of_getElem? (i := 2) rfl
def p_clear (sp : PSt)  : Option (PSt) := bd (j_fill_d0 5 sp.1 0) fun x1 => bd (j_fill_d0 5 (((x1, sp.2)).2) 0) fun x2 => some ((((x1, sp.2)).1, x2))
abbrev rmX1_clear : Room := { frames := 1, cells := 0, slots := 0, locals := 24 }
theorem hdX1_clear : yX1_clear.cls = RX1 ∧ yX1_clear.cls ≠ "java/lang/invoke/MethodHandle" ∧ yX1_clear.cls ≠ "java/lang/invoke/VarHandle" ∧ (parseMethodDescriptor yX1_clear.desc).map (fun d => d.parameters.length) = some 0 := by decide +kernel
set_option maxHeartbeats 4000000 in
set_option maxRecDepth 100000 in
theorem c_X1_clear {l : Launch} {G : Gx} {qp : Nat → Nat} {sp : PSt}  {x : PSt} (hf : p_clear sp = some x) : QM l G yX1_clear wsX1_clear rmX1_clear [.ref (qp 2)] (wP G qp sp) (wP G qp x) none := by
  refine QM.of (cc := cX1_clear) (maxL := 1) (ret := none) (by decide) rfl (Nat.le_of_ble_eq_true rfl) ?_
  intro p e s m below meth c A ls C hD hP hS hl
  have hx := C.1
  have hb := C.2.1
  have hl : lv_has ls 1 [(0, .ref (qp 2))] := hl
  unfold p_clear at hf
  refine lv_aload_n hx hb dX1_clear_0 rfl (lv_at hl 0 rfl) ?_
  refine q_get C hP (q0 := 0) rfl rfl hiX1_clear_X1 0 (by decide) wdX1_clear_1 rfl dX1_clear_1 ?_
  refine lv_lconst (v := 0) hx hb dX1_clear_4 (by decide) ?_
  obtain ⟨x1, hx1, hf⟩ := bd_some hf
  refine q_Sv C (ws' := wP G qp ((x1, sp.2))) (c_J7_fill_d0a16 (da := (qp 0)) (ka := 5) hx1) gX1_clear_J7_fill_d0a16 rfl ⟨rfl, rfl⟩ hdJ7_fill_d0a16 ⟨(Nat.le_of_ble_eq_true rfl), (Nat.le_of_ble_eq_true rfl)⟩ rfl hP (dd_P hD) hS (pm_at (p := 1) rfl) (pm_at' (p := 1) rfl rfl) hl.1 (Nat.le_of_ble_eq_true rfl) ⟨Nat.zero_le _, Nat.zero_le _⟩ rfl dX1_clear_5 (fun H locs hP hS => ?_)
  refine lv_aload_n hx hb dX1_clear_8 rfl (lv_at hl 0 rfl) ?_
  refine q_get C hP (q0 := 0) rfl rfl hiX1_clear_X1 1 (by decide) wdX1_clear_2 rfl dX1_clear_9 ?_
  refine lv_lconst (v := 0) hx hb dX1_clear_12 (by decide) ?_
  obtain ⟨x2, hx2, hf⟩ := bd_some hf
  refine q_Sv C (ws' := wP G qp ((((x1, sp.2)).1, x2))) (c_J7_fill_d0a16 (da := (qp 1)) (ka := 5) hx2) gX1_clear_J7_fill_d0a16 rfl ⟨rfl, rfl⟩ hdJ7_fill_d0a16 ⟨(Nat.le_of_ble_eq_true rfl), (Nat.le_of_ble_eq_true rfl)⟩ rfl hP (dd_P hD) hS (pm_at (p := 2) rfl) (pm_at' (p := 2) rfl rfl) hl.1 (Nat.le_of_ble_eq_true rfl) ⟨Nat.zero_le _, Nat.zero_le _⟩ rfl dX1_clear_13 (fun H locs hP hS => ?_)
  cases hf
  exact q_vret C hP hS rfl dX1_clear_16

-- X1_add
theorem hiX1_add_X1 : ∀ w ∈ u_ws RX1 TX1 2, w ∈ wsX1_add := mem_run (i := 3) (by decide +kernel)
theorem wdX1_add_2 : (Cond.fieldLink RX1 11 "CombinatorRing$Pairs" "steady" "[J") ∈ wsX1_add := List.mem_of_getElem? (i := 2) rfl
theorem wdX1_add_1 : (Cond.fieldLink RX1 15 "CombinatorRing$Pairs" "growing" "[J") ∈ wsX1_add := List.mem_of_getElem? (i := 1) rfl
def p_add (sp : PSt) (a1 : Int32) (a2 : Int32) : Option (PSt) := if a1 < 0 then some sp else if a1 < 300 then nm ((1 <<< (((a1 &&& 63) : Int32).toInt64 &&& 63))) fun y3 => if a2 = 0 then gd (a1 >>> (6 &&& 31)) 5 (gd (a1 >>> (6 &&& 31)) 5 (nm ((vp_updL sp.1 (a1 >>> (6 &&& 31)).toNatClampNeg ((sp.1 (a1 >>> (6 &&& 31)).toNatClampNeg) ||| y3), sp.2)) fun s5 => some s5)) else gd (a1 >>> (6 &&& 31)) 5 (gd (a1 >>> (6 &&& 31)) 5 (nm ((sp.1, vp_updL sp.2 (a1 >>> (6 &&& 31)).toNatClampNeg ((sp.2 (a1 >>> (6 &&& 31)).toNatClampNeg) ||| y3))) fun s6 => some s6)) else some sp
abbrev rmX1_add : Room := { frames := 0, cells := 0, slots := 0, locals := 0 }
theorem hdX1_add : yX1_add.cls = RX1 ∧ yX1_add.cls ≠ "java/lang/invoke/MethodHandle" ∧ yX1_add.cls ≠ "java/lang/invoke/VarHandle" ∧ (parseMethodDescriptor yX1_add.desc).map (fun d => d.parameters.length) = some 2 := by decide +kernel
set_option maxHeartbeats 4000000 in
set_option maxRecDepth 100000 in
theorem c_X1_add {l : Launch} {G : Gx} {qp : Nat → Nat} {sp : PSt} {a1 : Int32} {a2 : Int32} {x : PSt} (hf : p_add sp a1 a2 = some x) : QM l G yX1_add wsX1_add rmX1_add [.ref (qp 2), .int a1, .int a2] (wP G qp sp) (wP G qp x) none := by
  refine QM.of (cc := cX1_add) (maxL := 5) (ret := none) (by decide) rfl (Nat.le_of_ble_eq_true rfl) ?_
  intro p e s m below meth c A ls C hD hP hS hl
  have hx := C.1
  have hb := C.2.1
  have hl : lv_has ls 5 [(0, .ref (qp 2)), (1, .int a1), (2, .int a2)] := hl
  unfold p_add at hf
  refine lv_iload_n hx hb dX1_add_0 rfl (lv_at hl 1 rfl) ?_
  refine lv_if_lt (tgt := 11) hx hb dX1_add_1 (by decide) (fun c1 => ?_) (fun c1 => ?_)
  · have hf := if_t c1 hf
    cases hf
    exact q_vret C hP hS rfl dX1_add_11
  · have hf := if_f c1 hf
    refine lv_iload_n hx hb dX1_add_4 rfl (lv_at hl 1 rfl) ?_
    refine lv_sipush (v := 300) hx hb dX1_add_5 (by decide) ?_
    refine lv_icmp_lt (tgt := 12) hx hb dX1_add_8 (by decide) (fun c2 => ?_) (fun c2 => ?_)
    · have hf := if_t c2 hf
      refine lv_lconst (v := 1) hx hb dX1_add_12 (by decide) ?_
      refine lv_iload_n hx hb dX1_add_13 rfl (lv_at hl 1 rfl) ?_
      refine lv_bipush (v := 63) hx hb dX1_add_14 (by decide) ?_
      refine lv_iand hx hb dX1_add_16 ?_
      refine lv_lshl hx hb dX1_add_17 rfl ?_
      obtain ⟨y3, ey3, hf⟩ := nm_ex hf
      refine lv_tL ey3 ?_
      refine lv_lstore_n (lv' := [(3, .long y3), (0, .ref (qp 2)), (1, .int a1), (2, .int a2)]) hx hb dX1_add_18 rfl hl (by decide) rfl (fun ls hl => ?_)
      refine lv_iload_n hx hb dX1_add_19 rfl (lv_at hl 3 rfl) ?_
      refine lv_if_eq (tgt := 39) hx hb dX1_add_20 (by decide) (fun c4 => ?_) (fun c4 => ?_)
      · have hf := if_t c4 hf
        refine lv_aload_n hx hb dX1_add_39 rfl (lv_at hl 1 rfl) ?_
        refine q_get C hP (q0 := 0) rfl rfl hiX1_add_X1 0 (by decide) wdX1_add_2 rfl dX1_add_40 ?_
        refine lv_iload_n hx hb dX1_add_43 rfl (lv_at hl 2 rfl) ?_
        refine lv_bipush (v := 6) hx hb dX1_add_44 (by decide) ?_
        refine lv_ishr hx hb dX1_add_46 ?_
        refine lv_dup2_11 hx hb dX1_add_47 rfl rfl ?_
        obtain ⟨hin, hf⟩ := gd_some hf
        refine q_lald C hP (q0 := 1) rfl rfl hin dX1_add_48 ?_
        refine lv_lload_n hx hb dX1_add_49 rfl (lv_at hl 0 rfl) ?_
        refine lv_lor hx hb dX1_add_50 ?_
        obtain ⟨hin, hf⟩ := gd_some hf
        obtain ⟨s5, es5, hf⟩ := nm_ex hf
        refine q_last C hP (dd_P hD) hS (q0 := 1) rfl rfl rfl hin dX1_add_51 (fun H locs hP hS => ?_)
        have hP : va_P G.1 vwCl (wP G qp s5) H := by rw [← es5]; exact hP
        cases hf
        exact q_vret C hP hS rfl dX1_add_52
      · have hf := if_f c4 hf
        refine lv_aload_n hx hb dX1_add_23 rfl (lv_at hl 1 rfl) ?_
        refine q_get C hP (q0 := 0) rfl rfl hiX1_add_X1 1 (by decide) wdX1_add_1 rfl dX1_add_24 ?_
        refine lv_iload_n hx hb dX1_add_27 rfl (lv_at hl 2 rfl) ?_
        refine lv_bipush (v := 6) hx hb dX1_add_28 (by decide) ?_
        refine lv_ishr hx hb dX1_add_30 ?_
        refine lv_dup2_11 hx hb dX1_add_31 rfl rfl ?_
        obtain ⟨hin, hf⟩ := gd_some hf
        refine q_lald C hP (q0 := 2) rfl rfl hin dX1_add_32 ?_
        refine lv_lload_n hx hb dX1_add_33 rfl (lv_at hl 0 rfl) ?_
        refine lv_lor hx hb dX1_add_34 ?_
        obtain ⟨hin, hf⟩ := gd_some hf
        obtain ⟨s6, es6, hf⟩ := nm_ex hf
        refine q_last C hP (dd_P hD) hS (q0 := 2) rfl rfl rfl hin dX1_add_35 (fun H locs hP hS => ?_)
        have hP : va_P G.1 vwCl (wP G qp s6) H := by rw [← es6]; exact hP
        refine lv_goto (tgt := 52) hx hb dX1_add_36 (by decide) ?_
        cases hf
        exact q_vret C hP hS rfl dX1_add_52
    · have hf := if_f c2 hf
      cases hf
      exact q_vret C hP hS rfl dX1_add_11

-- X1_remove
theorem wdX1_remove_1 : (Cond.constantLong RX1 30 (-1)) ∈ wsX1_remove := List.mem_of_getElem? (i := 1) rfl
theorem hiX1_remove_X1 : ∀ w ∈ u_ws RX1 TX1 2, w ∈ wsX1_remove := mem_run (i := 4) (by decide +kernel)
theorem wdX1_remove_2 : (Cond.fieldLink RX1 11 "CombinatorRing$Pairs" "steady" "[J") ∈ wsX1_remove := List.mem_of_getElem? (i := 2) rfl
theorem wdX1_remove_3 : (Cond.fieldLink RX1 15 "CombinatorRing$Pairs" "growing" "[J") ∈ wsX1_remove := List.mem_of_getElem? (i := 3) rfl
def p_remove (sp : PSt) (a1 : Int32) : Option (PSt) := if a1 < 0 then some sp else if a1 < 300 then nm (((1 <<< (((a1 &&& 63) : Int32).toInt64 &&& 63)) ^^^ (-1))) fun y3 => gd (a1 >>> (6 &&& 31)) 5 (gd (a1 >>> (6 &&& 31)) 5 (nm ((vp_updL sp.1 (a1 >>> (6 &&& 31)).toNatClampNeg ((sp.1 (a1 >>> (6 &&& 31)).toNatClampNeg) &&& y3), sp.2)) fun s4 => gd (a1 >>> (6 &&& 31)) 5 (gd (a1 >>> (6 &&& 31)) 5 (nm ((s4.1, vp_updL s4.2 (a1 >>> (6 &&& 31)).toNatClampNeg ((s4.2 (a1 >>> (6 &&& 31)).toNatClampNeg) &&& y3))) fun s5 => some s5)))) else some sp
abbrev rmX1_remove : Room := { frames := 0, cells := 0, slots := 0, locals := 0 }
theorem hdX1_remove : yX1_remove.cls = RX1 ∧ yX1_remove.cls ≠ "java/lang/invoke/MethodHandle" ∧ yX1_remove.cls ≠ "java/lang/invoke/VarHandle" ∧ (parseMethodDescriptor yX1_remove.desc).map (fun d => d.parameters.length) = some 1 := by decide +kernel
set_option maxHeartbeats 4000000 in
set_option maxRecDepth 100000 in
theorem c_X1_remove {l : Launch} {G : Gx} {qp : Nat → Nat} {sp : PSt} {a1 : Int32} {x : PSt} (hf : p_remove sp a1 = some x) : QM l G yX1_remove wsX1_remove rmX1_remove [.ref (qp 2), .int a1] (wP G qp sp) (wP G qp x) none := by
  refine QM.of (cc := cX1_remove) (maxL := 4) (ret := none) (by decide) rfl (Nat.le_of_ble_eq_true rfl) ?_
  intro p e s m below meth c A ls C hD hP hS hl
  have hx := C.1
  have hb := C.2.1
  have hl : lv_has ls 4 [(0, .ref (qp 2)), (1, .int a1)] := hl
  unfold p_remove at hf
  refine lv_iload_n hx hb dX1_remove_0 rfl (lv_at hl 1 rfl) ?_
  refine lv_if_lt (tgt := 11) hx hb dX1_remove_1 (by decide) (fun c1 => ?_) (fun c1 => ?_)
  · have hf := if_t c1 hf
    cases hf
    exact q_vret C hP hS rfl dX1_remove_11
  · have hf := if_f c1 hf
    refine lv_iload_n hx hb dX1_remove_4 rfl (lv_at hl 1 rfl) ?_
    refine lv_sipush (v := 300) hx hb dX1_remove_5 (by decide) ?_
    refine lv_icmp_lt (tgt := 12) hx hb dX1_remove_8 (by decide) (fun c2 => ?_) (fun c2 => ?_)
    · have hf := if_t c2 hf
      refine lv_lconst (v := 1) hx hb dX1_remove_12 (by decide) ?_
      refine lv_iload_n hx hb dX1_remove_13 rfl (lv_at hl 1 rfl) ?_
      refine lv_bipush (v := 63) hx hb dX1_remove_14 (by decide) ?_
      refine lv_iand hx hb dX1_remove_16 ?_
      refine lv_lshl hx hb dX1_remove_17 rfl ?_
      refine lv_ldc2 (v := (-1)) hx hb C.2.2.2.1 (C.2.2.2.2.1 _ wdX1_remove_1) dX1_remove_18 ?_
      refine lv_lxor hx hb dX1_remove_21 ?_
      obtain ⟨y3, ey3, hf⟩ := nm_ex hf
      refine lv_tL ey3 ?_
      refine lv_lstore_n (lv' := [(2, .long y3), (0, .ref (qp 2)), (1, .int a1)]) hx hb dX1_remove_22 rfl hl (by decide) rfl (fun ls hl => ?_)
      refine lv_aload_n hx hb dX1_remove_23 rfl (lv_at hl 1 rfl) ?_
      refine q_get C hP (q0 := 0) rfl rfl hiX1_remove_X1 0 (by decide) wdX1_remove_2 rfl dX1_remove_24 ?_
      refine lv_iload_n hx hb dX1_remove_27 rfl (lv_at hl 2 rfl) ?_
      refine lv_bipush (v := 6) hx hb dX1_remove_28 (by decide) ?_
      refine lv_ishr hx hb dX1_remove_30 ?_
      refine lv_dup2_11 hx hb dX1_remove_31 rfl rfl ?_
      obtain ⟨hin, hf⟩ := gd_some hf
      refine q_lald C hP (q0 := 1) rfl rfl hin dX1_remove_32 ?_
      refine lv_lload_n hx hb dX1_remove_33 rfl (lv_at hl 0 rfl) ?_
      refine lv_land hx hb dX1_remove_34 ?_
      obtain ⟨hin, hf⟩ := gd_some hf
      obtain ⟨s4, es4, hf⟩ := nm_ex hf
      refine q_last C hP (dd_P hD) hS (q0 := 1) rfl rfl rfl hin dX1_remove_35 (fun H locs hP hS => ?_)
      have hP : va_P G.1 vwCl (wP G qp s4) H := by rw [← es4]; exact hP
      refine lv_aload_n hx hb dX1_remove_36 rfl (lv_at hl 1 rfl) ?_
      refine q_get C hP (q0 := 0) rfl rfl hiX1_remove_X1 1 (by decide) wdX1_remove_3 rfl dX1_remove_37 ?_
      refine lv_iload_n hx hb dX1_remove_40 rfl (lv_at hl 2 rfl) ?_
      refine lv_bipush (v := 6) hx hb dX1_remove_41 (by decide) ?_
      refine lv_ishr hx hb dX1_remove_43 ?_
      refine lv_dup2_11 hx hb dX1_remove_44 rfl rfl ?_
      obtain ⟨hin, hf⟩ := gd_some hf
      refine q_lald C hP (q0 := 2) rfl rfl hin dX1_remove_45 ?_
      refine lv_lload_n hx hb dX1_remove_46 rfl (lv_at hl 0 rfl) ?_
      refine lv_land hx hb dX1_remove_47 ?_
      obtain ⟨hin, hf⟩ := gd_some hf
      obtain ⟨s5, es5, hf⟩ := nm_ex hf
      refine q_last C hP (dd_P hD) hS (q0 := 2) rfl rfl rfl hin dX1_remove_48 (fun H locs hP hS => ?_)
      have hP : va_P G.1 vwCl (wP G qp s5) H := by rw [← es5]; exact hP
      cases hf
      exact q_vret C hP hS rfl dX1_remove_49
    · have hf := if_f c2 hf
      cases hf
      exact q_vret C hP hS rfl dX1_remove_11

-- X1_has
def p_has (sp : PSt) (a1 : Int32) : Option (Int32) := if a1 < 0 then some 0 else if 300 ≤ a1 then some 0 else bd (p_word sp (a1 >>> (6 &&& 31)) 1) fun x3 => if (lg_cmp (((x3).toUInt64 >>> (((a1 &&& 63) : Int32).toInt64.toUInt64 &&& Int64.toUInt64 63)).toInt64 &&& 1) 0) = 0 then some 0 else some 1
abbrev rmX1_has : Room := { frames := 1, cells := 0, slots := 0, locals := 22 }
theorem hdX1_has : yX1_has.cls = RX1 ∧ yX1_has.cls ≠ "java/lang/invoke/MethodHandle" ∧ yX1_has.cls ≠ "java/lang/invoke/VarHandle" ∧ (parseMethodDescriptor yX1_has.desc).map (fun d => d.parameters.length) = some 1 := by decide +kernel
set_option maxHeartbeats 4000000 in
set_option maxRecDepth 100000 in
theorem c_X1_has {l : Launch} {G : Gx} {qp : Nat → Nat} {sp : PSt} {a1 : Int32} {x : Int32} (hf : p_has sp a1 = some x) : QM l G yX1_has wsX1_has rmX1_has [.ref (qp 2), .int a1] (wP G qp sp) (wP G qp sp) (some (.int x)) := by
  refine QM.of (cc := cX1_has) (maxL := 2) (ret := (some .boolean)) (by decide) rfl (Nat.le_of_ble_eq_true rfl) ?_
  intro p e s m below meth c A ls C hD hP hS hl
  have hx := C.1
  have hb := C.2.1
  have hl : lv_has ls 2 [(0, .ref (qp 2)), (1, .int a1)] := hl
  unfold p_has at hf
  refine lv_iload_n hx hb dX1_has_0 rfl (lv_at hl 1 rfl) ?_
  refine lv_if_lt (tgt := 36) hx hb dX1_has_1 (by decide) (fun c1 => ?_) (fun c1 => ?_)
  · have hf := if_t c1 hf
    refine lv_iconst (v := 0) hx hb dX1_has_36 (by decide) ?_
    cases hf
    exact q_zret C hP hS rfl (gb_nar (Or.inl rfl)) dX1_has_37
  · have hf := if_f c1 hf
    refine lv_iload_n hx hb dX1_has_4 rfl (lv_at hl 1 rfl) ?_
    refine lv_sipush (v := 300) hx hb dX1_has_5 (by decide) ?_
    refine lv_icmp_ge (tgt := 36) hx hb dX1_has_8 (by decide) (fun c2 => ?_) (fun c2 => ?_)
    · have hf := if_t c2 hf
      refine lv_iconst (v := 0) hx hb dX1_has_36 (by decide) ?_
      cases hf
      exact q_zret C hP hS rfl (gb_nar (Or.inl rfl)) dX1_has_37
    · have hf := if_f c2 hf
      refine lv_aload_n hx hb dX1_has_11 rfl (lv_at hl 0 rfl) ?_
      refine lv_iload_n hx hb dX1_has_12 rfl (lv_at hl 1 rfl) ?_
      refine lv_bipush (v := 6) hx hb dX1_has_13 (by decide) ?_
      refine lv_ishr hx hb dX1_has_15 ?_
      refine lv_iconst (v := 1) hx hb dX1_has_16 (by decide) ?_
      obtain ⟨x3, hx3, hf⟩ := bd_some hf
      refine q_Vl C (rc := (RX1, TX1, 2)) (q0 := 0) (ci := 1) (ws' := wP G qp sp) (wr := []) (c_X1_word hx3) gX1_has_X1_word rfl ⟨rfl, rfl⟩ hdX1_word ⟨(Nat.le_of_ble_eq_true rfl), (Nat.le_of_ble_eq_true rfl)⟩ rfl hP (dd_P hD) hS rfl rfl (List.Perm.refl _) (List.Perm.refl _) hl.1 (Nat.le_of_ble_eq_true rfl) ⟨Nat.zero_le _, Nat.zero_le _⟩ rfl dX1_has_17 (fun H locs hP hS => ?_)
      refine lv_iload_n hx hb dX1_has_20 rfl (lv_at hl 1 rfl) ?_
      refine lv_bipush (v := 63) hx hb dX1_has_21 (by decide) ?_
      refine lv_iand hx hb dX1_has_23 ?_
      refine lv_lushr hx hb dX1_has_24 rfl ?_
      refine lv_lconst (v := 1) hx hb dX1_has_25 (by decide) ?_
      refine lv_land hx hb dX1_has_26 ?_
      refine lv_lconst (v := 0) hx hb dX1_has_27 (by decide) ?_
      refine W.lcmp hx hb dX1_has_28 ?_
      refine lv_if_eq (tgt := 36) hx hb dX1_has_29 (by decide) (fun c4 => ?_) (fun c4 => ?_)
      · have hf := if_t c4 hf
        refine lv_iconst (v := 0) hx hb dX1_has_36 (by decide) ?_
        cases hf
        exact q_zret C hP hS rfl (gb_nar (Or.inl rfl)) dX1_has_37
      · have hf := if_f c4 hf
        refine lv_iconst (v := 1) hx hb dX1_has_32 (by decide) ?_
        refine lv_goto (tgt := 37) hx hb dX1_has_33 (by decide) ?_
        cases hf
        exact q_zret C hP hS rfl (gb_nar (Or.inr rfl)) dX1_has_37

-- X1_size
def p_size_4 : Nat → PSt → Int32 → Int32 → Int32 → Option (Int32)
  | 0, _, _, _, _ => none
  | n + 1, sp, v1, v2, v3 => if 5 ≤ v3 then some v2 else bd (p_word sp v3 v1) fun x3 => bd (j_bitCount x3) fun x4 => p_size_4 n sp v1 (v2 + x4) (v3 + 1)
def p_size (sp : PSt) (a1 : Int32) : Option (Int32) := bd (p_size_4 20000 sp a1 0 0) fun x1 => some x1
abbrev rmX1_size : Room := { frames := 1, cells := 0, slots := 0, locals := 22 }
theorem hdX1_size : yX1_size.cls = RX1 ∧ yX1_size.cls ≠ "java/lang/invoke/MethodHandle" ∧ yX1_size.cls ≠ "java/lang/invoke/VarHandle" ∧ (parseMethodDescriptor yX1_size.desc).map (fun d => d.parameters.length) = some 1 := by decide +kernel
set_option maxHeartbeats 4000000 in
set_option maxRecDepth 100000 in
theorem t_X1_size_4 {p : Program} {l : Launch} {e : Env} {s : State} {m : MethodId} {args : Array Value} {below : List Frame} {meth : Method} {c : Code} {Q : State → Prop} {A : Nat → Prop} {G : Gx} {qp : Nat → Nat} {sp0 : PSt} (C : Cx p s m args meth c G cX1_size wsX1_size RX1 (some .int) 4 A) (hD : va_D A (wP G qp sp0)) :
    ∀ {n : Nat} {sp : PSt} {v1 : Int32} {v2 : Int32} {v3 : Int32} {x : Int32}, p_size_4 n sp v1 v2 v3 = some x → ∀ {H : Heap} {locs : List Loc} {ls : Array Slot}, va_P G.1 vwCl (wP G qp sp) H → va_S A s.heap H locs → lv_has ls 4 [(0, .ref (qp 2)), (1, .int v1), (2, .int v2), (3, .int v3)] → (∀ {H : Heap} {locs : List Loc} {ls : Array Slot}, va_P G.1 vwCl (wP G qp sp) H → va_S A s.heap H locs → lv_has ls 4 [(2, .int x)] → W p l e rmX1_size s m args below meth c H locs 0 0 Q (F0 m 27 ls [])) → W p l e rmX1_size s m args below meth c H locs 0 0 Q (F0 m 4 ls []) := by
  have hx := C.1
  have hb := C.2.1
  intro n
  induction n with
  | zero => intro sp v1 v2 v3 x hf; cases hf
  | succ n ih =>
    intro sp v1 v2 v3 x hf H locs ls hP hS hl kk
    rw [p_size_4] at hf
    refine lv_iload_n hx hb dX1_size_4 rfl (lv_at hl 3 rfl) ?_
    refine lv_iconst (v := 5) hx hb dX1_size_5 (by decide) ?_
    refine lv_icmp_ge (tgt := 27) hx hb dX1_size_6 (by decide) (fun c2 => ?_) (fun c2 => ?_)
    · have hf := if_t c2 hf
      cases hf
      exact kk hP hS (lv_sub hl [2] rfl)
    · have hf := if_f c2 hf
      refine lv_iload_n hx hb dX1_size_9 rfl (lv_at hl 2 rfl) ?_
      refine lv_aload_n hx hb dX1_size_10 rfl (lv_at hl 0 rfl) ?_
      refine lv_iload_n hx hb dX1_size_11 rfl (lv_at hl 3 rfl) ?_
      refine lv_iload_n hx hb dX1_size_12 rfl (lv_at hl 1 rfl) ?_
      obtain ⟨x3, hx3, hf⟩ := bd_some hf
      refine q_Vl C (rc := (RX1, TX1, 2)) (q0 := 0) (ci := 1) (ws' := wP G qp sp) (wr := []) (c_X1_word hx3) gX1_size_X1_word rfl ⟨rfl, rfl⟩ hdX1_word ⟨(Nat.le_of_ble_eq_true rfl), (Nat.le_of_ble_eq_true rfl)⟩ rfl hP (dd_P hD) hS rfl rfl (List.Perm.refl _) (List.Perm.refl _) hl.1 (Nat.le_of_ble_eq_true rfl) ⟨Nat.zero_le _, Nat.zero_le _⟩ rfl dX1_size_13 (fun H locs hP hS => ?_)
      obtain ⟨x4, hx4, hf⟩ := bd_some hf
      refine q_Si C (ws' := wP G qp sp) (wr := []) (c_J13_bitCount_95d88 (w := wP G qp sp) hx4) gX1_size_J13_bitCount_95d88 rfl ⟨rfl, rfl⟩ hdJ13_bitCount_95d88 ⟨(Nat.le_of_ble_eq_true rfl), (Nat.le_of_ble_eq_true rfl)⟩ rfl hP (dd_P hD) hS (List.Perm.refl _) (List.Perm.refl _) hl.1 (Nat.le_of_ble_eq_true rfl) ⟨Nat.zero_le _, Nat.zero_le _⟩ rfl dX1_size_16 (fun H locs hP hS => ?_)
      refine lv_iadd hx hb dX1_size_19 ?_
      refine lv_istore_n (lv' := [(2, .int (v2 + x4)), (0, .ref (qp 2)), (1, .int v1), (3, .int v3)]) hx hb dX1_size_20 rfl hl (by decide) rfl (fun ls hl => ?_)
      refine lv_iinc (v := (v3 + 1)) (lv' := [(3, .int (v3 + 1)), (2, .int (v2 + x4)), (0, .ref (qp 2)), (1, .int v1)]) hx hb dX1_size_21 hl (k := 3) rfl rfl (by decide) rfl (fun ls hl => ?_)
      refine lv_goto (tgt := 4) hx hb dX1_size_24 (by decide) ?_
      exact ih hf hP hS (lv_sub hl [2, 3, 1, 0] rfl) kk
set_option maxHeartbeats 4000000 in
set_option maxRecDepth 100000 in
theorem c_X1_size {l : Launch} {G : Gx} {qp : Nat → Nat} {sp : PSt} {a1 : Int32} {x : Int32} (hf : p_size sp a1 = some x) : QM l G yX1_size wsX1_size rmX1_size [.ref (qp 2), .int a1] (wP G qp sp) (wP G qp sp) (some (.int x)) := by
  refine QM.of (cc := cX1_size) (maxL := 4) (ret := (some .int)) (by decide) rfl (Nat.le_of_ble_eq_true rfl) ?_
  intro p e s m below meth c A ls C hD hP hS hl
  have hx := C.1
  have hb := C.2.1
  have hl : lv_has ls 4 [(0, .ref (qp 2)), (1, .int a1)] := hl
  unfold p_size at hf
  refine lv_iconst (v := 0) hx hb dX1_size_0 (by decide) ?_
  refine lv_istore_n (lv' := [(2, .int 0), (0, .ref (qp 2)), (1, .int a1)]) hx hb dX1_size_1 rfl hl (by decide) rfl (fun ls hl => ?_)
  refine lv_iconst (v := 0) hx hb dX1_size_2 (by decide) ?_
  refine lv_istore_n (lv' := [(3, .int 0), (2, .int 0), (0, .ref (qp 2)), (1, .int a1)]) hx hb dX1_size_3 rfl hl (by decide) rfl (fun ls hl => ?_)
  obtain ⟨x1, hx1, hf⟩ := bd_some hf
  refine t_X1_size_4 C hD hx1 hP hS (lv_sub hl [2, 3, 1, 0] rfl) (fun {H locs ls} hP hS hl => ?_)
  refine lv_iload_n hx hb dX1_size_27 rfl (lv_at hl 0 rfl) ?_
  cases hf
  exact q_iret C hP hS rfl dX1_size_28

-- X1_at
def p_at_5 : Nat → PSt → Int32 → Int32 → Int32 → Option (Int32)
  | 0, _, _, _, _ => none
  | n + 1, sp, v2, v3, v4 => if 5 ≤ v4 then some (-1) else if v3 < 0 then some (-1) else bd (p_word sp v4 v2) fun x3 => bd (j_bitCount x3) fun x4 => if x4 ≤ v3 then p_at_5 n sp v2 (v3 - x4) (v4 + 1) else bd (p_placeOfBit x3 v3) fun x6 => some ((64 * v4) + x6)
def p_at (sp : PSt) (a1 : Int32) (a2 : Int32) : Option (Int32) := p_at_5 20000 sp a2 a1 0
abbrev rmX1_at : Room := { frames := 2, cells := 0, slots := 0, locals := 46 }
theorem hdX1_at : yX1_at.cls = RX1 ∧ yX1_at.cls ≠ "java/lang/invoke/MethodHandle" ∧ yX1_at.cls ≠ "java/lang/invoke/VarHandle" ∧ (parseMethodDescriptor yX1_at.desc).map (fun d => d.parameters.length) = some 2 := by decide +kernel
set_option maxHeartbeats 4000000 in
set_option maxRecDepth 100000 in
theorem t_X1_at_5 {p : Program} {l : Launch} {e : Env} {s : State} {m : MethodId} {args : Array Value} {below : List Frame} {meth : Method} {c : Code} {A : Nat → Prop} {G : Gx} {qp : Nat → Nat} {sp0 : PSt} (C : Cx p s m args meth c G cX1_at wsX1_at RX1 (some .int) 8 A) (hD : va_D A (wP G qp sp0)) :
    ∀ {n : Nat} {sp : PSt} {v2 : Int32} {v3 : Int32} {v4 : Int32} {x : Int32}, p_at_5 n sp v2 v3 v4 = some x → ∀ {H : Heap} {locs : List Loc} {ls : Array Slot}, va_P G.1 vwCl (wP G qp sp) H → va_S A s.heap H locs → lv_has ls 8 [(0, .ref (qp 2)), (2, .int v2), (3, .int v3), (4, .int v4)] → W p l e rmX1_at s m args below meth c H locs 0 0 (MQ below (qE G A (wP G qp sp) (some (.int x))) args s 0 0 A) (F0 m 5 ls []) := by
  have hx := C.1
  have hb := C.2.1
  intro n
  induction n with
  | zero => intro sp v2 v3 v4 x hf; cases hf
  | succ n ih =>
    intro sp v2 v3 v4 x hf H locs ls hP hS hl
    rw [p_at_5] at hf
    refine lv_iload hx hb dX1_at_5 (lv_at hl 3 rfl) ?_
    refine lv_iconst (v := 5) hx hb dX1_at_7 (by decide) ?_
    refine lv_icmp_ge (tgt := 61) hx hb dX1_at_8 (by decide) (fun c1 => ?_) (fun c1 => ?_)
    · have hf := if_t c1 hf
      refine lv_iconst (v := (-1)) hx hb dX1_at_61 (by decide) ?_
      cases hf
      exact q_iret C hP hS rfl dX1_at_62
    · have hf := if_f c1 hf
      refine lv_iload_n hx hb dX1_at_11 rfl (lv_at hl 2 rfl) ?_
      refine lv_if_lt (tgt := 61) hx hb dX1_at_12 (by decide) (fun c2 => ?_) (fun c2 => ?_)
      · have hf := if_t c2 hf
        refine lv_iconst (v := (-1)) hx hb dX1_at_61 (by decide) ?_
        cases hf
        exact q_iret C hP hS rfl dX1_at_62
      · have hf := if_f c2 hf
        refine lv_aload_n hx hb dX1_at_15 rfl (lv_at hl 0 rfl) ?_
        refine lv_iload hx hb dX1_at_16 (lv_at hl 3 rfl) ?_
        refine lv_iload_n hx hb dX1_at_18 rfl (lv_at hl 1 rfl) ?_
        obtain ⟨x3, hx3, hf⟩ := bd_some hf
        refine q_Vl C (rc := (RX1, TX1, 2)) (q0 := 0) (ci := 1) (ws' := wP G qp sp) (wr := []) (c_X1_word hx3) gX1_at_X1_word rfl ⟨rfl, rfl⟩ hdX1_word ⟨(Nat.le_of_ble_eq_true rfl), (Nat.le_of_ble_eq_true rfl)⟩ rfl hP (dd_P hD) hS rfl rfl (List.Perm.refl _) (List.Perm.refl _) hl.1 (Nat.le_of_ble_eq_true rfl) ⟨Nat.zero_le _, Nat.zero_le _⟩ rfl dX1_at_19 (fun H locs hP hS => ?_)
        refine lv_lstore (lv' := [(5, .long x3), (0, .ref (qp 2)), (2, .int v2), (3, .int v3), (4, .int v4)]) hx hb dX1_at_22 hl (by decide) rfl (fun ls hl => ?_)
        refine lv_lload hx hb dX1_at_24 (lv_at hl 0 rfl) ?_
        obtain ⟨x4, hx4, hf⟩ := bd_some hf
        refine q_Si C (ws' := wP G qp sp) (wr := []) (c_J13_bitCount_95d88 (w := wP G qp sp) hx4) gX1_at_J13_bitCount_95d88 rfl ⟨rfl, rfl⟩ hdJ13_bitCount_95d88 ⟨(Nat.le_of_ble_eq_true rfl), (Nat.le_of_ble_eq_true rfl)⟩ rfl hP (dd_P hD) hS (List.Perm.refl _) (List.Perm.refl _) hl.1 (Nat.le_of_ble_eq_true rfl) ⟨Nat.zero_le _, Nat.zero_le _⟩ rfl dX1_at_26 (fun H locs hP hS => ?_)
        refine lv_istore (lv' := [(7, .int x4), (5, .long x3), (0, .ref (qp 2)), (2, .int v2), (3, .int v3), (4, .int v4)]) hx hb dX1_at_29 hl (by decide) rfl (fun ls hl => ?_)
        refine lv_iload_n hx hb dX1_at_31 rfl (lv_at hl 4 rfl) ?_
        refine lv_iload hx hb dX1_at_32 (lv_at hl 0 rfl) ?_
        refine lv_icmp_ge (tgt := 50) hx hb dX1_at_34 (by decide) (fun c5 => ?_) (fun c5 => ?_)
        · have hf := if_t c5 hf
          refine lv_iload_n hx hb dX1_at_50 rfl (lv_at hl 4 rfl) ?_
          refine lv_iload hx hb dX1_at_51 (lv_at hl 0 rfl) ?_
          refine lv_isub hx hb dX1_at_53 ?_
          refine lv_istore_n (lv' := [(3, .int (v3 - x4)), (7, .int x4), (5, .long x3), (0, .ref (qp 2)), (2, .int v2), (4, .int v4)]) hx hb dX1_at_54 rfl hl (by decide) rfl (fun ls hl => ?_)
          refine lv_iinc (v := (v4 + 1)) (lv' := [(4, .int (v4 + 1)), (3, .int (v3 - x4)), (7, .int x4), (5, .long x3), (0, .ref (qp 2)), (2, .int v2)]) hx hb dX1_at_55 hl (k := 5) rfl rfl (by decide) rfl (fun ls hl => ?_)
          refine lv_goto (tgt := 5) hx hb dX1_at_58 (by decide) ?_
          exact ih hf hP hS (lv_sub hl [4, 5, 1, 0] rfl)
        · have hf := if_f c5 hf
          refine lv_bipush (v := 64) hx hb dX1_at_37 (by decide) ?_
          refine lv_iload hx hb dX1_at_39 (lv_at hl 5 rfl) ?_
          refine lv_imul hx hb dX1_at_41 ?_
          refine lv_lload hx hb dX1_at_42 (lv_at hl 1 rfl) ?_
          refine lv_iload_n hx hb dX1_at_44 rfl (lv_at hl 4 rfl) ?_
          obtain ⟨x6, hx6, hf⟩ := bd_some hf
          refine q_Si C (ws' := wP G qp sp) (wr := []) (c_X1_placeOfBit (w := wP G qp sp) hx6) gX1_at_X1_placeOfBit rfl ⟨rfl, rfl⟩ hdX1_placeOfBit ⟨(Nat.le_of_ble_eq_true rfl), (Nat.le_of_ble_eq_true rfl)⟩ rfl hP (dd_P hD) hS (List.Perm.refl _) (List.Perm.refl _) hl.1 (Nat.le_of_ble_eq_true rfl) ⟨Nat.zero_le _, Nat.zero_le _⟩ rfl dX1_at_45 (fun H locs hP hS => ?_)
          refine lv_iadd hx hb dX1_at_48 ?_
          cases hf
          exact q_iret C hP hS rfl dX1_at_49
set_option maxHeartbeats 4000000 in
set_option maxRecDepth 100000 in
theorem c_X1_at {l : Launch} {G : Gx} {qp : Nat → Nat} {sp : PSt} {a1 : Int32} {a2 : Int32} {x : Int32} (hf : p_at sp a1 a2 = some x) : QM l G yX1_at wsX1_at rmX1_at [.ref (qp 2), .int a1, .int a2] (wP G qp sp) (wP G qp sp) (some (.int x)) := by
  refine QM.of (cc := cX1_at) (maxL := 8) (ret := (some .int)) (by decide) rfl (Nat.le_of_ble_eq_true rfl) ?_
  intro p e s m below meth c A ls C hD hP hS hl
  have hx := C.1
  have hb := C.2.1
  have hl : lv_has ls 8 [(0, .ref (qp 2)), (1, .int a1), (2, .int a2)] := hl
  unfold p_at at hf
  refine lv_iload_n hx hb dX1_at_0 rfl (lv_at hl 1 rfl) ?_
  refine lv_istore_n (lv' := [(3, .int a1), (0, .ref (qp 2)), (1, .int a1), (2, .int a2)]) hx hb dX1_at_1 rfl hl (by decide) rfl (fun ls hl => ?_)
  refine lv_iconst (v := 0) hx hb dX1_at_2 (by decide) ?_
  refine lv_istore (lv' := [(4, .int 0), (3, .int a1), (0, .ref (qp 2)), (1, .int a1), (2, .int a2)]) hx hb dX1_at_3 hl (by decide) rfl (fun ls hl => ?_)
  exact t_X1_at_5 C hD hf hP hS (lv_sub hl [2, 4, 1, 0] rfl)

-- X1_become
theorem hiX1_become_X1 : ∀ w ∈ u_ws RX1 TX1 2, w ∈ wsX1_become := mem_run (i := 7) (by decide +kernel)
theorem wdX1_become_1 : (Cond.fieldLink RX1 11 "CombinatorRing$Pairs" "steady" "[J") ∈ wsX1_become := List.mem_of_getElem? (i := 1) rfl
theorem wdX1_become_6 : (Cond.fieldLink RX1 15 "CombinatorRing$Pairs" "growing" "[J") ∈ wsX1_become := List.mem_of_getElem? (i := 6) rfl
theorem wdX1_become_2 : (Cond.methodLink RX1 24 arraycopyName) ∈ wsX1_become := List.mem_of_getElem? (i := 2) rfl
theorem wdX1_become_3 : (Cond.native arraycopyName) ∈ wsX1_become := List.mem_of_getElem? (i := 3) rfl
theorem wdX1_become_4 : (Cond.static arraycopyName) ∈ wsX1_become := List.mem_of_getElem? (i := 4) rfl
theorem wdX1_become_5 : (Cond.initialized "java/lang/System") ∈ wsX1_become := List.mem_of_getElem? (i := 5) rfl
def p_become (sp : PSt) (sp2 : PSt)  : Option (PSt) := nm ((va_cpy sp2.1 sp.1 0 0 5, sp.2)) fun s1 => nm ((s1.1, va_cpy sp2.2 s1.2 0 0 5)) fun s2 => some s2
abbrev rmX1_become : Room := { frames := 1, cells := 0, slots := 0, locals := 26 }
theorem hdX1_become : yX1_become.cls = RX1 ∧ yX1_become.cls ≠ "java/lang/invoke/MethodHandle" ∧ yX1_become.cls ≠ "java/lang/invoke/VarHandle" ∧ (parseMethodDescriptor yX1_become.desc).map (fun d => d.parameters.length) = some 1 := by decide +kernel
set_option maxHeartbeats 4000000 in
set_option maxRecDepth 100000 in
theorem c_X1_become {l : Launch} {G : Gx} {qp : Nat → Nat} {qp2 : Nat → Nat} {sp : PSt} {sp2 : PSt}  {x : PSt} (hf : p_become sp sp2 = some x) : QM l G yX1_become wsX1_become rmX1_become [.ref (qp 2), .ref (qp2 2)] (wP G qp sp ++ wP G qp2 sp2) (wP G qp x ++ wP G qp2 sp2) none := by
  refine QM.of (cc := cX1_become) (maxL := 2) (ret := none) (by decide) rfl (Nat.le_of_ble_eq_true rfl) ?_
  intro p e s m below meth c A ls C hD hP hS hl
  have hx := C.1
  have hb := C.2.1
  have hl : lv_has ls 2 [(0, .ref (qp 2)), (1, .ref (qp2 2))] := hl
  unfold p_become at hf
  refine lv_aload_n hx hb dX1_become_0 rfl (lv_at hl 1 rfl) ?_
  refine q_get C hP (q0 := 3) rfl rfl hiX1_become_X1 0 (by decide) wdX1_become_1 rfl dX1_become_1 ?_
  refine lv_iconst (v := 0) hx hb dX1_become_4 (by decide) ?_
  refine lv_aload_n hx hb dX1_become_5 rfl (lv_at hl 0 rfl) ?_
  refine q_get C hP (q0 := 0) rfl rfl hiX1_become_X1 0 (by decide) wdX1_become_1 rfl dX1_become_6 ?_
  refine lv_iconst (v := 0) hx hb dX1_become_9 (by decide) ?_
  refine lv_iconst (v := 5) hx hb dX1_become_10 (by decide) ?_
  obtain ⟨s1, es1, hf⟩ := nm_ex hf
  refine q_copyl C hP (dd_PP hD) hS (q0 := 4) rfl (q1 := 1) rfl (N := 5) (by decide) (by decide) (by decide) (by decide) (C.2.2.2.2.1 _ wdX1_become_2) (C.2.2.2.2.1 _ wdX1_become_3) (C.2.2.2.2.1 _ wdX1_become_4) (C.2.2.2.2.1 _ wdX1_become_5) rfl hl.1 (Nat.le_of_ble_eq_true rfl) (Nat.le_of_ble_eq_true rfl) dX1_become_11 (fun H locs hP hS => ?_)
  have hP : va_P G.1 vwCl (wP G qp s1 ++ wP G qp2 sp2) H := by rw [← es1]; exact hP
  refine lv_aload_n hx hb dX1_become_14 rfl (lv_at hl 1 rfl) ?_
  refine q_get C hP (q0 := 3) rfl rfl hiX1_become_X1 1 (by decide) wdX1_become_6 rfl dX1_become_15 ?_
  refine lv_iconst (v := 0) hx hb dX1_become_18 (by decide) ?_
  refine lv_aload_n hx hb dX1_become_19 rfl (lv_at hl 0 rfl) ?_
  refine q_get C hP (q0 := 0) rfl rfl hiX1_become_X1 1 (by decide) wdX1_become_6 rfl dX1_become_20 ?_
  refine lv_iconst (v := 0) hx hb dX1_become_23 (by decide) ?_
  refine lv_iconst (v := 5) hx hb dX1_become_24 (by decide) ?_
  obtain ⟨s2, es2, hf⟩ := nm_ex hf
  refine q_copyl C hP (dd_PP hD) hS (q0 := 5) rfl (q1 := 2) rfl (N := 5) (by decide) (by decide) (by decide) (by decide) (C.2.2.2.2.1 _ wdX1_become_2) (C.2.2.2.2.1 _ wdX1_become_3) (C.2.2.2.2.1 _ wdX1_become_4) (C.2.2.2.2.1 _ wdX1_become_5) rfl hl.1 (Nat.le_of_ble_eq_true rfl) (Nat.le_of_ble_eq_true rfl) dX1_become_25 (fun H locs hP hS => ?_)
  have hP : va_P G.1 vwCl (wP G qp s2 ++ wP G qp2 sp2) H := by rw [← es2]; exact hP
  cases hf
  exact q_vret C hP hS rfl dX1_become_28
