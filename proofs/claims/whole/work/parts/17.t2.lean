theorem hdX3_readTree : yX3_readTree.cls = RX3 ∧ yX3_readTree.cls ≠ "java/lang/invoke/MethodHandle" ∧ yX3_readTree.cls ≠ "java/lang/invoke/VarHandle" ∧ (parseMethodDescriptor yX3_readTree.desc).map (fun d => d.parameters.length) = some 1 := by decide +kernel
def rmR (d : Nat) : Room := { frames := d + 10, cells := 0, slots := 0, locals := 60 * d + 190 }
theorem rmR1_f (d : Nat) : 10 ≤ (rmR (d + 1)).frames := by show 10 ≤ d + 1 + 10; omega
theorem rmR1_l (d : Nat) : 190 ≤ (rmR (d + 1)).locals := by show 190 ≤ 60 * (d + 1) + 190; omega
theorem rmRR_f (d : Nat) : (rmR d).frames + 1 ≤ (rmR (d + 1)).frames := by show d + 10 + 1 ≤ d + 1 + 10; omega
theorem rmRR_l (d : Nat) : 8 + (5 + 11) + (rmR d).locals ≤ (rmR (d + 1)).locals := by show 8 + (5 + 11) + (60 * d + 190) ≤ 60 * (d + 1) + 190; omega
theorem hiX3_readTree_X3 : ∀ w ∈ u_ws RX3 TX3 14, w ∈ wsX3_readTree := mem_run (i := 237) (by decide +kernel)
theorem wdX3_readTree_1 : (Cond.fieldLink RX3 64 "CombinatorRing$TextReader" "token" "I") ∈ wsX3_readTree := List.mem_of_getElem? (i := 1) rfl
theorem wdX3_readTree_2 : (Cond.fieldLink RX3 87 "CombinatorRing$TextReader" "start" "I") ∈ wsX3_readTree := List.mem_of_getElem? (i := 2) rfl
theorem wdX3_readTree_3 : (Cond.fieldLink RX3 49 "CombinatorRing$TextReader" "fault" "I") ∈ wsX3_readTree := List.mem_of_getElem? (i := 3) rfl
theorem wdX3_readTree_4 : (Cond.fieldLink RX3 14 "CombinatorRing$TextReader" "net" "LCombinatorRing$Net;") ∈ wsX3_readTree := List.mem_of_getElem? (i := 4) rfl
def t_readTreeB_155 (rt : OSt → Nat → (Nat → Int32) → NSt → Int32 → Option (Int32 × OSt × NSt)) : Nat → OSt → Nat → (Nat → Int32) → NSt → Int32 → Int32 → Int32 → Int32 → Option (OSt × NSt)
  | 0, _, _, _, _, _, _, _, _ => none
  | n + 1, tt, ka, sa, sn, v1, v2, v3, v4 => if 2 < v4 then some (tt, sn) else if (tt.1 7) = 0 then bd (t_advance tt ka sa sn) fun x24 => bd (rt x24 ka sa sn (v1 + 1)) fun x25 => bd (n_connect x25.2.2 (v3 + v4) x25.1) fun x26 => t_readTreeB_155 rt n x25.2.1 ka sa x26 v1 v2 v3 (v4 + 1) else some (tt, sn)
def t_readTreeB_148 (rt : OSt → Nat → (Nat → Int32) → NSt → Int32 → Option (Int32 × OSt × NSt)) (tt : OSt) (ka : Nat) (sa : (Nat → Int32)) (sn : NSt) (v1 : Int32) (v2 : Int32) (k0 : Int32) : Option (Int32 × OSt × NSt) := bd (t_makeNode tt ka sa sn k0) fun x19 => bd (t_readTreeB_155 rt 20000 x19.2.1 ka sa x19.2.2 v1 v2 x19.1 1) fun x20 => bd (t_expect x20.1 ka sa x20.2 v2) fun x21 => some (x19.1, x21, x20.2)
def t_readTreeB_132 (rt : OSt → Nat → (Nat → Int32) → NSt → Int32 → Option (Int32 × OSt × NSt)) (tt : OSt) (ka : Nat) (sa : (Nat → Int32)) (sn : NSt) (v1 : Int32) (k0 : Int32) : Option (Int32 × OSt × NSt) := if (tt.1 4) = 40 then t_readTreeB_148 rt tt ka sa sn v1 k0 1 else t_readTreeB_148 rt tt ka sa sn v1 k0 2
def t_readTreeB (rt : OSt → Nat → (Nat → Int32) → NSt → Int32 → Option (Int32 × OSt × NSt)) (tt : OSt) (ka : Nat) (sa : (Nat → Int32)) (sn : NSt) (a1 : Int32) : Option (Int32 × OSt × NSt) := if (tt.1 4) = 2 then bd (t_readName tt ka sa sn) fun x1 => some (x1.1, x1.2, sn) else if (tt.1 4) = 35 then bd (t_readNumber tt ka sa sn) fun x2 => some (x2.1, x2.2.1, x2.2.2) else if (tt.1 4) = 40 then if a1 < 20 then if (tt.1 4) = 40 then t_readTreeB_132 rt tt ka sa sn a1 41 else t_readTreeB_132 rt tt ka sa sn a1 93 else bd (t_refuse tt ka sa sn (tt.1 5) 4) fun x5 => some ((-1), x5, sn) else if (tt.1 4) = 42 then bd (t_makeNode tt ka sa sn 0) fun x6 => some (x6.1, x6.2.1, x6.2.2) else if (tt.1 4) = 60 then bd (t_readList tt ka sa sn) fun x7 => some (x7.1, x7.2.1, x7.2.2) else if (tt.1 4) = 91 then if a1 < 20 then if (tt.1 4) = 40 then t_readTreeB_132 rt tt ka sa sn a1 41 else t_readTreeB_132 rt tt ka sa sn a1 93 else bd (t_refuse tt ka sa sn (tt.1 5) 4) fun x10 => some ((-1), x10, sn) else bd (t_refuse tt ka sa sn (tt.1 5) 1) fun x11 => some ((-1), x11, sn)
-- room: frames 8 locals 170
set_option maxHeartbeats 4000000 in
set_option maxRecDepth 100000 in
theorem t_X3_readTree_155 {p : Program} {l : Launch} {e : Env} {s : State} {m : MethodId} {args : Array Value} {below : List Frame} {meth : Method} {c : Code} {Q : State → Prop} {A : Nat → Prop} {G : Gx} {d : Nat} {rt : OSt → Nat → (Nat → Int32) → NSt → Int32 → Option (Int32 × OSt × NSt)} {qt : Nat → Nat} {da ka : Nat} {qn : Nat → Nat} (hrt : ∀ {tt : OSt} {sa : Nat → Int32} {sn : NSt} {a1 : Int32} {x : Int32 × OSt × NSt}, rt tt ka sa sn a1 = some x → QM l G yX3_readTree wsX3_readTree (rmR d) [.ref (qt 14), .int a1] (wT G qt da (qn 15) tt ++ (wA G da ka sa ++ wN G qn sn)) (wT G qt da (qn 15) x.2.1 ++ (wA G da ka sa ++ wN G qn x.2.2)) (some (.int x.1))) {tt0 : OSt} {sa0 : (Nat → Int32)} {sn0 : NSt} (C : Cx p s m args meth c G cX3_readTree wsX3_readTree RX3 (some .int) 5 A) (hD : va_D A (wT G qt da (qn 15) tt0 ++ (wA G da ka sa0 ++ wN G qn sn0))) :
    ∀ {n : Nat} {tt : OSt} {sa : (Nat → Int32)} {sn : NSt} {v1 : Int32} {v2 : Int32} {v3 : Int32} {v4 : Int32} {x : OSt × NSt}, t_readTreeB_155 rt n tt ka sa sn v1 v2 v3 v4 = some x → ∀ {H : Heap} {locs : List Loc} {ls : Array Slot}, va_P G.1 vwCl (wT G qt da (qn 15) tt ++ (wA G da ka sa ++ wN G qn sn)) H → va_S A s.heap H locs → lv_has ls 5 [(0, .ref (qt 14)), (1, .int v1), (2, .int v2), (3, .int v3), (4, .int v4)] → (∀ {H : Heap} {locs : List Loc} {ls : Array Slot}, va_P G.1 vwCl (wT G qt da (qn 15) x.1 ++ (wA G da ka sa ++ wN G qn x.2)) H → va_S A s.heap H locs → lv_has ls 5 [(0, .ref (qt 14)), (2, .int v2), (3, .int v3)] → W p l e (rmR (d + 1)) s m args below meth c H locs 0 0 Q (F0 m 196 ls [])) → W p l e (rmR (d + 1)) s m args below meth c H locs 0 0 Q (F0 m 155 ls []) := by
  have hx := C.1
  have hb := C.2.1
  intro n
  induction n with
  | zero => intro tt sa sn v1 v2 v3 v4 x hf; cases hf
  | succ n ih =>
    intro tt sa sn v1 v2 v3 v4 x hf H locs ls hP hS hl kk
    rw [t_readTreeB_155] at hf
    refine lv_iload hx hb dX3_readTree_155 (lv_at hl 4 rfl) ?_
    refine lv_iconst (v := 2) hx hb dX3_readTree_157 (by decide) ?_
    refine lv_icmp_gt (tgt := 196) hx hb dX3_readTree_158 (by decide) (fun c22 => ?_) (fun c22 => ?_)
    · have hf := if_t c22 hf
      cases hf
      exact kk hP hS (lv_sub hl [0, 2, 3] rfl)
    · have hf := if_f c22 hf
      refine lv_aload_n hx hb dX3_readTree_161 rfl (lv_at hl 0 rfl) ?_
      refine q_get C hP (q0 := 0) rfl rfl hiX3_readTree_X3 7 (by decide) wdX3_readTree_3 rfl dX3_readTree_162 ?_
      refine lv_if_ne (tgt := 196) hx hb dX3_readTree_165 (by decide) (fun c23 => ?_) (fun c23 => ?_)
      · have hf := if_f c23 hf
        cases hf
        exact kk hP hS (lv_sub hl [0, 2, 3] rfl)
      · have hf := if_t c23 hf
        refine lv_aload_n hx hb dX3_readTree_168 rfl (lv_at hl 0 rfl) ?_
        obtain ⟨x24, hx24, hf⟩ := bd_some hf
        refine q_Vv C (rc := (RX3, TX3, 14)) (q0 := 0) (ci := 3) (ws' := wT G qt da (qn 15) x24 ++ (wA G da ka sa ++ wN G qn sn)) (wr := []) (c_X3_advance hx24) gX3_readTree_X3_advance rfl ⟨rfl, rfl⟩ hdX3_advance ⟨Nat.le_trans (Nat.le_of_ble_eq_true rfl) (rmR1_f d), Nat.le_trans (Nat.le_of_ble_eq_true rfl) (rmR1_l d)⟩ rfl hP (dd_TAN hD) hS rfl rfl (List.Perm.refl _) (List.Perm.refl _) hl.1 (Nat.le_of_ble_eq_true rfl) ⟨Nat.zero_le _, Nat.zero_le _⟩ rfl dX3_readTree_169 (fun H locs hP hS => ?_)
        refine lv_aload_n hx hb dX3_readTree_172 rfl (lv_at hl 0 rfl) ?_
        refine q_get C hP (q0 := 0) rfl rfl hiX3_readTree_X3 0 (by decide) wdX3_readTree_4 rfl dX3_readTree_173 ?_
        refine lv_iload_n hx hb dX3_readTree_176 rfl (lv_at hl 3 rfl) ?_
        refine lv_iload hx hb dX3_readTree_177 (lv_at hl 4 rfl) ?_
        refine lv_iadd hx hb dX3_readTree_179 ?_
        refine lv_aload_n hx hb dX3_readTree_180 rfl (lv_at hl 0 rfl) ?_
        refine lv_iload_n hx hb dX3_readTree_181 rfl (lv_at hl 1 rfl) ?_
        refine lv_iconst (v := 1) hx hb dX3_readTree_182 (by decide) ?_
        refine lv_iadd hx hb dX3_readTree_183 ?_
        obtain ⟨x25, hx25, hf⟩ := bd_some hf
        refine q_Vi C (rc := (RX3, TX3, 14)) (q0 := 0) (ci := 3) (ws' := wT G qt da (qn 15) x25.2.1 ++ (wA G da ka sa ++ wN G qn x25.2.2)) (wr := []) (hrt hx25) gX3_readTree_X3_readTree rfl ⟨rfl, rfl⟩ hdX3_readTree ⟨rmRR_f d, rmRR_l d⟩ rfl hP (dd_TAN hD) hS rfl rfl (List.Perm.refl _) (List.Perm.refl _) hl.1 (Nat.le_of_ble_eq_true rfl) ⟨Nat.zero_le _, Nat.zero_le _⟩ rfl dX3_readTree_184 (fun H locs hP hS => ?_)
        obtain ⟨x26, hx26, hf⟩ := bd_some hf
        refine q_Vv C (rc := (RX0, TX0, 15)) (q0 := 6) (ci := 0) (ws' := wT G qt da (qn 15) x25.2.1 ++ (wA G da ka sa ++ wN G qn x26)) (c_X0_connect (qn := qn) hx26) gX3_readTree_X0_connect rfl ⟨rfl, rfl⟩ hdX0_connect ⟨Nat.le_trans (Nat.le_of_ble_eq_true rfl) (rmR1_f d), Nat.le_trans (Nat.le_of_ble_eq_true rfl) (rmR1_l d)⟩ rfl hP (dd_TAN hD) hS rfl rfl pm_abc pm_abc2 hl.1 (Nat.le_of_ble_eq_true rfl) ⟨Nat.zero_le _, Nat.zero_le _⟩ rfl dX3_readTree_187 (fun H locs hP hS => ?_)
        refine lv_iinc (v := (v4 + 1)) (lv' := [(4, .int (v4 + 1)), (0, .ref (qt 14)), (1, .int v1), (2, .int v2), (3, .int v3)]) hx hb dX3_readTree_190 hl (k := 4) rfl rfl (by decide) rfl (fun ls hl => ?_)
        refine lv_goto (tgt := 155) hx hb dX3_readTree_193 (by decide) ?_
        exact ih hf hP hS (lv_sub hl [1, 2, 3, 4, 0] rfl) kk
set_option maxHeartbeats 4000000 in
set_option maxRecDepth 100000 in
theorem t_X3_readTree_148 {p : Program} {l : Launch} {e : Env} {s : State} {m : MethodId} {args : Array Value} {below : List Frame} {meth : Method} {c : Code} {A : Nat → Prop} {G : Gx} {d : Nat} {rt : OSt → Nat → (Nat → Int32) → NSt → Int32 → Option (Int32 × OSt × NSt)} {qt : Nat → Nat} {da ka : Nat} {qn : Nat → Nat} (hrt : ∀ {tt : OSt} {sa : Nat → Int32} {sn : NSt} {a1 : Int32} {x : Int32 × OSt × NSt}, rt tt ka sa sn a1 = some x → QM l G yX3_readTree wsX3_readTree (rmR d) [.ref (qt 14), .int a1] (wT G qt da (qn 15) tt ++ (wA G da ka sa ++ wN G qn sn)) (wT G qt da (qn 15) x.2.1 ++ (wA G da ka sa ++ wN G qn x.2.2)) (some (.int x.1))) {tt0 : OSt} {sa0 : (Nat → Int32)} {sn0 : NSt} (C : Cx p s m args meth c G cX3_readTree wsX3_readTree RX3 (some .int) 5 A) (hD : va_D A (wT G qt da (qn 15) tt0 ++ (wA G da ka sa0 ++ wN G qn sn0))) :
    ∀ {tt : OSt} {sa : (Nat → Int32)} {sn : NSt} {v1 : Int32} {v2 : Int32} {k0 : Int32} {x : Int32 × OSt × NSt}, t_readTreeB_148 rt tt ka sa sn v1 v2 k0 = some x → ∀ {H : Heap} {locs : List Loc} {ls : Array Slot}, va_P G.1 vwCl (wT G qt da (qn 15) tt ++ (wA G da ka sa ++ wN G qn sn)) H → va_S A s.heap H locs → lv_has ls 5 [(0, .ref (qt 14)), (1, .int v1), (2, .int v2)] → W p l e (rmR (d + 1)) s m args below meth c H locs 0 0 (MQ below (qE G A (wT G qt da (qn 15) x.2.1 ++ (wA G da ka sa ++ wN G qn x.2.2)) (some (.int x.1))) args s 0 0 A) (F0 m 148 ls [.int k0, .ref (qt 14)]) := by
  have hx := C.1
  have hb := C.2.1
  intro tt sa sn v1 v2 k0 x hf H locs ls hP hS hl
  unfold t_readTreeB_148 at hf
  obtain ⟨x19, hx19, hf⟩ := bd_some hf
  refine q_Vi C (rc := (RX3, TX3, 14)) (q0 := 0) (ci := 3) (ws' := wT G qt da (qn 15) x19.2.1 ++ (wA G da ka sa ++ wN G qn x19.2.2)) (wr := []) (c_X3_makeNode hx19) gX3_readTree_X3_makeNode rfl ⟨rfl, rfl⟩ hdX3_makeNode ⟨Nat.le_trans (Nat.le_of_ble_eq_true rfl) (rmR1_f d), Nat.le_trans (Nat.le_of_ble_eq_true rfl) (rmR1_l d)⟩ rfl hP (dd_TAN hD) hS rfl rfl (List.Perm.refl _) (List.Perm.refl _) hl.1 (Nat.le_of_ble_eq_true rfl) ⟨Nat.zero_le _, Nat.zero_le _⟩ rfl dX3_readTree_148 (fun H locs hP hS => ?_)
  refine lv_istore_n (lv' := [(3, .int x19.1), (0, .ref (qt 14)), (1, .int v1), (2, .int v2)]) hx hb dX3_readTree_151 rfl hl (by decide) rfl (fun ls hl => ?_)
  refine lv_iconst (v := 1) hx hb dX3_readTree_152 (by decide) ?_
  refine lv_istore (lv' := [(4, .int 1), (3, .int x19.1), (0, .ref (qt 14)), (1, .int v1), (2, .int v2)]) hx hb dX3_readTree_153 hl (by decide) rfl (fun ls hl => ?_)
  obtain ⟨x20, hx20, hf⟩ := bd_some hf
  refine t_X3_readTree_155 hrt C hD hx20 hP hS (lv_sub hl [2, 3, 4, 1, 0] rfl) (fun {H locs ls} hP hS hl => ?_)
  refine lv_aload_n hx hb dX3_readTree_196 rfl (lv_at hl 0 rfl) ?_
  refine lv_iload_n hx hb dX3_readTree_197 rfl (lv_at hl 1 rfl) ?_
  obtain ⟨x21, hx21, hf⟩ := bd_some hf
  refine q_Vv C (rc := (RX3, TX3, 14)) (q0 := 0) (ci := 3) (ws' := wT G qt da (qn 15) x21 ++ (wA G da ka sa ++ wN G qn x20.2)) (wr := []) (c_X3_expect hx21) gX3_readTree_X3_expect rfl ⟨rfl, rfl⟩ hdX3_expect ⟨Nat.le_trans (Nat.le_of_ble_eq_true rfl) (rmR1_f d), Nat.le_trans (Nat.le_of_ble_eq_true rfl) (rmR1_l d)⟩ rfl hP (dd_TAN hD) hS rfl rfl (List.Perm.refl _) (List.Perm.refl _) hl.1 (Nat.le_of_ble_eq_true rfl) ⟨Nat.zero_le _, Nat.zero_le _⟩ rfl dX3_readTree_198 (fun H locs hP hS => ?_)
  refine lv_iload_n hx hb dX3_readTree_201 rfl (lv_at hl 2 rfl) ?_
  cases hf
  exact q_iret C hP hS rfl dX3_readTree_202
set_option maxHeartbeats 4000000 in
set_option maxRecDepth 100000 in
theorem t_X3_readTree_132 {p : Program} {l : Launch} {e : Env} {s : State} {m : MethodId} {args : Array Value} {below : List Frame} {meth : Method} {c : Code} {A : Nat → Prop} {G : Gx} {d : Nat} {rt : OSt → Nat → (Nat → Int32) → NSt → Int32 → Option (Int32 × OSt × NSt)} {qt : Nat → Nat} {da ka : Nat} {qn : Nat → Nat} (hrt : ∀ {tt : OSt} {sa : Nat → Int32} {sn : NSt} {a1 : Int32} {x : Int32 × OSt × NSt}, rt tt ka sa sn a1 = some x → QM l G yX3_readTree wsX3_readTree (rmR d) [.ref (qt 14), .int a1] (wT G qt da (qn 15) tt ++ (wA G da ka sa ++ wN G qn sn)) (wT G qt da (qn 15) x.2.1 ++ (wA G da ka sa ++ wN G qn x.2.2)) (some (.int x.1))) {tt0 : OSt} {sa0 : (Nat → Int32)} {sn0 : NSt} (C : Cx p s m args meth c G cX3_readTree wsX3_readTree RX3 (some .int) 5 A) (hD : va_D A (wT G qt da (qn 15) tt0 ++ (wA G da ka sa0 ++ wN G qn sn0))) :
    ∀ {tt : OSt} {sa : (Nat → Int32)} {sn : NSt} {v1 : Int32} {k0 : Int32} {x : Int32 × OSt × NSt}, t_readTreeB_132 rt tt ka sa sn v1 k0 = some x → ∀ {H : Heap} {locs : List Loc} {ls : Array Slot}, va_P G.1 vwCl (wT G qt da (qn 15) tt ++ (wA G da ka sa ++ wN G qn sn)) H → va_S A s.heap H locs → lv_has ls 5 [(0, .ref (qt 14)), (1, .int v1)] → W p l e (rmR (d + 1)) s m args below meth c H locs 0 0 (MQ below (qE G A (wT G qt da (qn 15) x.2.1 ++ (wA G da ka sa ++ wN G qn x.2.2)) (some (.int x.1))) args s 0 0 A) (F0 m 132 ls [.int k0]) := by
  have hx := C.1
  have hb := C.2.1
  intro tt sa sn v1 k0 x hf H locs ls hP hS hl
  unfold t_readTreeB_132 at hf
  refine lv_istore_n (lv' := [(2, .int k0), (0, .ref (qt 14)), (1, .int v1)]) hx hb dX3_readTree_132 rfl hl (by decide) rfl (fun ls hl => ?_)
  refine lv_aload_n hx hb dX3_readTree_133 rfl (lv_at hl 1 rfl) ?_
  refine lv_aload_n hx hb dX3_readTree_134 rfl (lv_at hl 1 rfl) ?_
  refine q_get C hP (q0 := 0) rfl rfl hiX3_readTree_X3 4 (by decide) wdX3_readTree_1 rfl dX3_readTree_135 ?_
  refine lv_bipush (v := 40) hx hb dX3_readTree_138 (by decide) ?_
  refine lv_icmp_ne (tgt := 147) hx hb dX3_readTree_140 (by decide) (fun c18 => ?_) (fun c18 => ?_)
  · have hf := if_f c18 hf
    refine lv_iconst (v := 2) hx hb dX3_readTree_147 (by decide) ?_
    exact t_X3_readTree_148 hrt C hD hf hP hS (lv_sub hl [1, 2, 0] rfl)
  · have hf := if_t c18 hf
    refine lv_iconst (v := 1) hx hb dX3_readTree_143 (by decide) ?_
    refine lv_goto (tgt := 148) hx hb dX3_readTree_144 (by decide) ?_
    exact t_X3_readTree_148 hrt C hD hf hP hS (lv_sub hl [1, 2, 0] rfl)
set_option maxHeartbeats 4000000 in
set_option maxRecDepth 100000 in
theorem c_X3_readTreeB {l : Launch} {G : Gx} {d : Nat} {rt : OSt → Nat → (Nat → Int32) → NSt → Int32 → Option (Int32 × OSt × NSt)} {qt : Nat → Nat} {da ka : Nat} {qn : Nat → Nat} (hrt : ∀ {tt : OSt} {sa : Nat → Int32} {sn : NSt} {a1 : Int32} {x : Int32 × OSt × NSt}, rt tt ka sa sn a1 = some x → QM l G yX3_readTree wsX3_readTree (rmR d) [.ref (qt 14), .int a1] (wT G qt da (qn 15) tt ++ (wA G da ka sa ++ wN G qn sn)) (wT G qt da (qn 15) x.2.1 ++ (wA G da ka sa ++ wN G qn x.2.2)) (some (.int x.1))) {tt : OSt} {sa : (Nat → Int32)} {sn : NSt} {a1 : Int32} {x : Int32 × OSt × NSt} (hf : t_readTreeB rt tt ka sa sn a1 = some x) : QM l G yX3_readTree wsX3_readTree (rmR (d + 1)) [.ref (qt 14), .int a1] (wT G qt da (qn 15) tt ++ (wA G da ka sa ++ wN G qn sn)) (wT G qt da (qn 15) x.2.1 ++ (wA G da ka sa ++ wN G qn x.2.2)) (some (.int x.1)) := by
  refine QM.of (cc := cX3_readTree) (maxL := 5) (ret := (some .int)) (by decide) rfl (Nat.le_of_ble_eq_true rfl) ?_
  intro p e s m below meth c A ls C hD hP hS hl
  have hx := C.1
  have hb := C.2.1
  have hl : lv_has ls 5 [(0, .ref (qt 14)), (1, .int a1)] := hl
  unfold t_readTreeB at hf
  refine lv_aload_n hx hb dX3_readTree_0 rfl (lv_at hl 0 rfl) ?_
  refine q_get C hP (q0 := 0) rfl rfl hiX3_readTree_X3 4 (by decide) wdX3_readTree_1 rfl dX3_readTree_1 ?_
  by_cases c12 : (tt.1 4) = 2
  · have hf := if_t c12 hf
    refine lv_lookup (off := 60) (tgt := 64) hx hb dX3_readTree_4 (by decide) (by rw [c12]; rfl) (by decide) ?_
    refine lv_aload_n hx hb dX3_readTree_64 rfl (lv_at hl 0 rfl) ?_
    obtain ⟨x1, hx1, hf⟩ := bd_some hf
    refine q_Vi C (rc := (RX3, TX3, 14)) (q0 := 0) (ci := 3) (ws' := wT G qt da (qn 15) x1.2 ++ (wA G da ka sa ++ wN G qn sn)) (wr := []) (c_X3_readName hx1) gX3_readTree_X3_readName rfl ⟨rfl, rfl⟩ hdX3_readName ⟨Nat.le_trans (Nat.le_of_ble_eq_true rfl) (rmR1_f d), Nat.le_trans (Nat.le_of_ble_eq_true rfl) (rmR1_l d)⟩ rfl hP (dd_TAN hD) hS rfl rfl (List.Perm.refl _) (List.Perm.refl _) hl.1 (Nat.le_of_ble_eq_true rfl) ⟨Nat.zero_le _, Nat.zero_le _⟩ rfl dX3_readTree_65 (fun H locs hP hS => ?_)
    cases hf
    exact q_iret C hP hS rfl dX3_readTree_68
  have hf := if_f c12 hf
  by_cases c13 : (tt.1 4) = 35
  · have hf := if_t c13 hf
    refine lv_lookup (off := 71) (tgt := 75) hx hb dX3_readTree_4 (by decide) (by rw [c13]; rfl) (by decide) ?_
    refine lv_aload_n hx hb dX3_readTree_75 rfl (lv_at hl 0 rfl) ?_
    obtain ⟨x2, hx2, hf⟩ := bd_some hf
    refine q_Vi C (rc := (RX3, TX3, 14)) (q0 := 0) (ci := 3) (ws' := wT G qt da (qn 15) x2.2.1 ++ (wA G da ka sa ++ wN G qn x2.2.2)) (wr := []) (c_X3_readNumber hx2) gX3_readTree_X3_readNumber rfl ⟨rfl, rfl⟩ hdX3_readNumber ⟨Nat.le_trans (Nat.le_of_ble_eq_true rfl) (rmR1_f d), Nat.le_trans (Nat.le_of_ble_eq_true rfl) (rmR1_l d)⟩ rfl hP (dd_TAN hD) hS rfl rfl (List.Perm.refl _) (List.Perm.refl _) hl.1 (Nat.le_of_ble_eq_true rfl) ⟨Nat.zero_le _, Nat.zero_le _⟩ rfl dX3_readTree_76 (fun H locs hP hS => ?_)
    cases hf
    exact q_iret C hP hS rfl dX3_readTree_79
  have hf := if_f c13 hf
  by_cases c14 : (tt.1 4) = 40
  · have hf := if_t c14 hf
    refine lv_lookup (off := 81) (tgt := 85) hx hb dX3_readTree_4 (by decide) (by rw [c14]; rfl) (by decide) ?_
    refine lv_goto (tgt := 99) hx hb dX3_readTree_85 (by decide) ?_
    refine lv_iload_n hx hb dX3_readTree_99 rfl (lv_at hl 1 rfl) ?_
    refine lv_bipush (v := 20) hx hb dX3_readTree_100 (by decide) ?_
    refine lv_icmp_lt (tgt := 116) hx hb dX3_readTree_102 (by decide) (fun c3 => ?_) (fun c3 => ?_)
    · have hf := if_t c3 hf
      refine lv_aload_n hx hb dX3_readTree_116 rfl (lv_at hl 0 rfl) ?_
      refine q_get C hP (q0 := 0) rfl rfl hiX3_readTree_X3 4 (by decide) wdX3_readTree_1 rfl dX3_readTree_117 ?_
      refine lv_bipush (v := 40) hx hb dX3_readTree_120 (by decide) ?_
      refine lv_icmp_ne (tgt := 130) hx hb dX3_readTree_122 (by decide) (fun c4 => ?_) (fun c4 => ?_)
      · have hf := if_f c4 hf
        refine lv_bipush (v := 93) hx hb dX3_readTree_130 (by decide) ?_
        exact t_X3_readTree_132 hrt C hD hf hP hS (lv_sub hl [0, 1] rfl)
      · have hf := if_t c4 hf
        refine lv_bipush (v := 41) hx hb dX3_readTree_125 (by decide) ?_
        refine lv_goto (tgt := 132) hx hb dX3_readTree_127 (by decide) ?_
        exact t_X3_readTree_132 hrt C hD hf hP hS (lv_sub hl [0, 1] rfl)
    · have hf := if_f c3 hf
      refine lv_aload_n hx hb dX3_readTree_105 rfl (lv_at hl 0 rfl) ?_
      refine lv_aload_n hx hb dX3_readTree_106 rfl (lv_at hl 0 rfl) ?_
      refine q_get C hP (q0 := 0) rfl rfl hiX3_readTree_X3 5 (by decide) wdX3_readTree_2 rfl dX3_readTree_107 ?_
      refine lv_iconst (v := 4) hx hb dX3_readTree_110 (by decide) ?_
      obtain ⟨x5, hx5, hf⟩ := bd_some hf
      refine q_Vv C (rc := (RX3, TX3, 14)) (q0 := 0) (ci := 3) (ws' := wT G qt da (qn 15) x5 ++ (wA G da ka sa ++ wN G qn sn)) (wr := []) (c_X3_refuse hx5) gX3_readTree_X3_refuse rfl ⟨rfl, rfl⟩ hdX3_refuse ⟨Nat.le_trans (Nat.le_of_ble_eq_true rfl) (rmR1_f d), Nat.le_trans (Nat.le_of_ble_eq_true rfl) (rmR1_l d)⟩ rfl hP (dd_TAN hD) hS rfl rfl (List.Perm.refl _) (List.Perm.refl _) hl.1 (Nat.le_of_ble_eq_true rfl) ⟨Nat.zero_le _, Nat.zero_le _⟩ rfl dX3_readTree_111 (fun H locs hP hS => ?_)
      refine lv_iconst (v := (-1)) hx hb dX3_readTree_114 (by decide) ?_
      cases hf
      exact q_iret C hP hS rfl dX3_readTree_115
  have hf := if_f c14 hf
  by_cases c15 : (tt.1 4) = 42
  · have hf := if_t c15 hf
    refine lv_lookup (off := 65) (tgt := 69) hx hb dX3_readTree_4 (by decide) (by rw [c15]; rfl) (by decide) ?_
    refine lv_aload_n hx hb dX3_readTree_69 rfl (lv_at hl 0 rfl) ?_
    refine lv_iconst (v := 0) hx hb dX3_readTree_70 (by decide) ?_
    obtain ⟨x6, hx6, hf⟩ := bd_some hf
    refine q_Vi C (rc := (RX3, TX3, 14)) (q0 := 0) (ci := 3) (ws' := wT G qt da (qn 15) x6.2.1 ++ (wA G da ka sa ++ wN G qn x6.2.2)) (wr := []) (c_X3_makeNode hx6) gX3_readTree_X3_makeNode rfl ⟨rfl, rfl⟩ hdX3_makeNode ⟨Nat.le_trans (Nat.le_of_ble_eq_true rfl) (rmR1_f d), Nat.le_trans (Nat.le_of_ble_eq_true rfl) (rmR1_l d)⟩ rfl hP (dd_TAN hD) hS rfl rfl (List.Perm.refl _) (List.Perm.refl _) hl.1 (Nat.le_of_ble_eq_true rfl) ⟨Nat.zero_le _, Nat.zero_le _⟩ rfl dX3_readTree_71 (fun H locs hP hS => ?_)
    cases hf
    exact q_iret C hP hS rfl dX3_readTree_74
  have hf := if_f c15 hf
  by_cases c16 : (tt.1 4) = 60
  · have hf := if_t c16 hf
    refine lv_lookup (off := 76) (tgt := 80) hx hb dX3_readTree_4 (by decide) (by rw [c16]; rfl) (by decide) ?_
    refine lv_aload_n hx hb dX3_readTree_80 rfl (lv_at hl 0 rfl) ?_
    obtain ⟨x7, hx7, hf⟩ := bd_some hf
    refine q_Vi C (rc := (RX3, TX3, 14)) (q0 := 0) (ci := 3) (ws' := wT G qt da (qn 15) x7.2.1 ++ (wA G da ka sa ++ wN G qn x7.2.2)) (wr := []) (c_X3_readList hx7) gX3_readTree_X3_readList rfl ⟨rfl, rfl⟩ hdX3_readList ⟨Nat.le_trans (Nat.le_of_ble_eq_true rfl) (rmR1_f d), Nat.le_trans (Nat.le_of_ble_eq_true rfl) (rmR1_l d)⟩ rfl hP (dd_TAN hD) hS rfl rfl (List.Perm.refl _) (List.Perm.refl _) hl.1 (Nat.le_of_ble_eq_true rfl) ⟨Nat.zero_le _, Nat.zero_le _⟩ rfl dX3_readTree_81 (fun H locs hP hS => ?_)
    cases hf
    exact q_iret C hP hS rfl dX3_readTree_84
  have hf := if_f c16 hf
  by_cases c17 : (tt.1 4) = 91
  · have hf := if_t c17 hf
    refine lv_lookup (off := 81) (tgt := 85) hx hb dX3_readTree_4 (by decide) (by rw [c17]; rfl) (by decide) ?_
    refine lv_goto (tgt := 99) hx hb dX3_readTree_85 (by decide) ?_
    refine lv_iload_n hx hb dX3_readTree_99 rfl (lv_at hl 1 rfl) ?_
    refine lv_bipush (v := 20) hx hb dX3_readTree_100 (by decide) ?_
    refine lv_icmp_lt (tgt := 116) hx hb dX3_readTree_102 (by decide) (fun c8 => ?_) (fun c8 => ?_)
    · have hf := if_t c8 hf
      refine lv_aload_n hx hb dX3_readTree_116 rfl (lv_at hl 0 rfl) ?_
      refine q_get C hP (q0 := 0) rfl rfl hiX3_readTree_X3 4 (by decide) wdX3_readTree_1 rfl dX3_readTree_117 ?_
      refine lv_bipush (v := 40) hx hb dX3_readTree_120 (by decide) ?_
      refine lv_icmp_ne (tgt := 130) hx hb dX3_readTree_122 (by decide) (fun c9 => ?_) (fun c9 => ?_)
      · have hf := if_f c9 hf
        refine lv_bipush (v := 93) hx hb dX3_readTree_130 (by decide) ?_
        exact t_X3_readTree_132 hrt C hD hf hP hS (lv_sub hl [0, 1] rfl)
      · have hf := if_t c9 hf
        refine lv_bipush (v := 41) hx hb dX3_readTree_125 (by decide) ?_
        refine lv_goto (tgt := 132) hx hb dX3_readTree_127 (by decide) ?_
        exact t_X3_readTree_132 hrt C hD hf hP hS (lv_sub hl [0, 1] rfl)
    · have hf := if_f c8 hf
      refine lv_aload_n hx hb dX3_readTree_105 rfl (lv_at hl 0 rfl) ?_
      refine lv_aload_n hx hb dX3_readTree_106 rfl (lv_at hl 0 rfl) ?_
      refine q_get C hP (q0 := 0) rfl rfl hiX3_readTree_X3 5 (by decide) wdX3_readTree_2 rfl dX3_readTree_107 ?_
      refine lv_iconst (v := 4) hx hb dX3_readTree_110 (by decide) ?_
      obtain ⟨x10, hx10, hf⟩ := bd_some hf
      refine q_Vv C (rc := (RX3, TX3, 14)) (q0 := 0) (ci := 3) (ws' := wT G qt da (qn 15) x10 ++ (wA G da ka sa ++ wN G qn sn)) (wr := []) (c_X3_refuse hx10) gX3_readTree_X3_refuse rfl ⟨rfl, rfl⟩ hdX3_refuse ⟨Nat.le_trans (Nat.le_of_ble_eq_true rfl) (rmR1_f d), Nat.le_trans (Nat.le_of_ble_eq_true rfl) (rmR1_l d)⟩ rfl hP (dd_TAN hD) hS rfl rfl (List.Perm.refl _) (List.Perm.refl _) hl.1 (Nat.le_of_ble_eq_true rfl) ⟨Nat.zero_le _, Nat.zero_le _⟩ rfl dX3_readTree_111 (fun H locs hP hS => ?_)
      refine lv_iconst (v := (-1)) hx hb dX3_readTree_114 (by decide) ?_
      cases hf
      exact q_iret C hP hS rfl dX3_readTree_115
  have hf := if_f c17 hf
  refine lv_lookup (off := 84) (tgt := 88) hx hb dX3_readTree_4 (by decide) (by show Op.lookupswitch.offset [(2, 60), (35, 71), (40, 81), (42, 65), (60, 76), (91, 81)] 84 _ = _; rw [lv_osw c12 (by decide), lv_osw c13 (by decide), lv_osw c14 (by decide), lv_osw c15 (by decide), lv_osw c16 (by decide), lv_osw c17 (by decide)]; rfl) (by decide) ?_
  refine lv_aload_n hx hb dX3_readTree_88 rfl (lv_at hl 0 rfl) ?_
  refine lv_aload_n hx hb dX3_readTree_89 rfl (lv_at hl 0 rfl) ?_
  refine q_get C hP (q0 := 0) rfl rfl hiX3_readTree_X3 5 (by decide) wdX3_readTree_2 rfl dX3_readTree_90 ?_
  refine lv_iconst (v := 1) hx hb dX3_readTree_93 (by decide) ?_
  obtain ⟨x11, hx11, hf⟩ := bd_some hf
  refine q_Vv C (rc := (RX3, TX3, 14)) (q0 := 0) (ci := 3) (ws' := wT G qt da (qn 15) x11 ++ (wA G da ka sa ++ wN G qn sn)) (wr := []) (c_X3_refuse hx11) gX3_readTree_X3_refuse rfl ⟨rfl, rfl⟩ hdX3_refuse ⟨Nat.le_trans (Nat.le_of_ble_eq_true rfl) (rmR1_f d), Nat.le_trans (Nat.le_of_ble_eq_true rfl) (rmR1_l d)⟩ rfl hP (dd_TAN hD) hS rfl rfl (List.Perm.refl _) (List.Perm.refl _) hl.1 (Nat.le_of_ble_eq_true rfl) ⟨Nat.zero_le _, Nat.zero_le _⟩ rfl dX3_readTree_94 (fun H locs hP hS => ?_)
  refine lv_iconst (v := (-1)) hx hb dX3_readTree_97 (by decide) ?_
  cases hf
  exact q_iret C hP hS rfl dX3_readTree_98
def t_readTree : Nat → OSt → Nat → (Nat → Int32) → NSt → Int32 → Option (Int32 × OSt × NSt)
  | 0, _, _, _, _, _ => none
  | d + 1, tt, ka, sa, sn, a1 => t_readTreeB (t_readTree d) tt ka sa sn a1
theorem c_X3_readTree {l : Launch} {G : Gx} {qt qn : Nat → Nat} {da ka : Nat} : ∀ {d : Nat} {tt : OSt} {sa : Nat → Int32} {sn : NSt} {a1 : Int32} {x : Int32 × OSt × NSt}, t_readTree d tt ka sa sn a1 = some x → QM l G yX3_readTree wsX3_readTree (rmR d) [.ref (qt 14), .int a1] (wT G qt da (qn 15) tt ++ (wA G da ka sa ++ wN G qn sn)) (wT G qt da (qn 15) x.2.1 ++ (wA G da ka sa ++ wN G qn x.2.2)) (some (.int x.1)) := by
  intro d
  induction d with
  | zero => intro tt sa sn a1 x hf; cases hf
  | succ d ih => intro tt sa sn a1 x hf; exact c_X3_readTreeB (fun h => ih h) hf
theorem wdX3_read_2 : (Cond.methodLink RX3 36 Lib.Math.min.name) ∈ wsX3_read := List.mem_of_getElem? (i := 2) rfl
theorem wdX3_read_3 : (Cond.static Lib.Math.min.name) ∈ wsX3_read := List.mem_of_getElem? (i := 3) rfl
theorem wdX3_read_4 : (Cond.initialized "java/lang/Math") ∈ wsX3_read := List.mem_of_getElem? (i := 4) rfl
theorem wdX3_read_5 : (Cond.code Lib.Math.min.name Lib.Math.min.code 2 (some .int)) ∈ wsX3_read := List.mem_of_getElem? (i := 5) rfl
theorem hiX3_read_X3 : ∀ w ∈ u_ws RX3 TX3 14, w ∈ wsX3_read := mem_run (i := 282) (by decide +kernel)
theorem wdX3_read_11 : (Cond.fieldLink RX3 14 "CombinatorRing$TextReader" "net" "LCombinatorRing$Net;") ∈ wsX3_read := List.mem_of_getElem? (i := 11) rfl
theorem wdX3_read_12 : (Cond.fieldLink RX3 64 "CombinatorRing$TextReader" "token" "I") ∈ wsX3_read := List.mem_of_getElem? (i := 12) rfl
theorem wdX3_read_10 : (Cond.fieldLink RX3 55 "CombinatorRing$TextReader" "wireCount" "I") ∈ wsX3_read := List.mem_of_getElem? (i := 10) rfl
theorem wdX3_read_9 : (Cond.fieldLink RX3 52 "CombinatorRing$TextReader" "nameCount" "I") ∈ wsX3_read := List.mem_of_getElem? (i := 9) rfl
theorem wdX3_read_8 : (Cond.fieldLink RX3 49 "CombinatorRing$TextReader" "fault" "I") ∈ wsX3_read := List.mem_of_getElem? (i := 8) rfl
theorem wdX3_read_7 : (Cond.fieldLink RX3 46 "CombinatorRing$TextReader" "place" "I") ∈ wsX3_read := List.mem_of_getElem? (i := 7) rfl
theorem wdX3_read_6 : (Cond.fieldLink RX3 42 "CombinatorRing$TextReader" "length" "I") ∈ wsX3_read := List.mem_of_getElem? (i := 6) rfl
theorem wdX3_read_1 : (Cond.fieldLink RX3 20 "CombinatorRing$TextReader" "bytes" "[I") ∈ wsX3_read := List.mem_of_getElem? (i := 1) rfl
def t_read_63 : Nat → OSt → Nat → (Nat → Int32) → NSt → Int32 → Option (OSt × NSt)
  | 0, _, _, _, _, _ => none
  | n + 1, tt, ka, sa, sn, v3 => if 500 ≤ v3 then some (tt, sn) else if (tt.1 4) = 0 then some (tt, sn) else if (tt.1 7) = 0 then bd (t_readTree 25 tt ka sa sn 0) fun x16 => bd (t_expect x16.2.1 ka sa x16.2.2 126) fun x17 => bd (t_advance x17 ka sa x16.2.2) fun x18 => bd (t_readTree 25 x18 ka sa x16.2.2 0) fun x19 => bd (n_connect x19.2.2 x16.1 x19.1) fun x20 => bd (t_expect x19.2.1 ka sa x20 59) fun x21 => bd (t_advance x21 ka sa x20) fun x22 => t_read_63 n x22 ka sa x20 (v3 + 1) else some (tt, sn)
def t_read_61 (tt : OSt) (ka : Nat) (sa : (Nat → Int32)) (sn : NSt) : Option (Int32 × OSt × NSt) := bd (t_read_63 20000 tt ka sa sn 0) fun x10 => if (x10.1.1 7) = 0 then bd (t_endNames x10.1 ka sa x10.2) fun x12 => some ((x12.1.1 7), x12.1, x12.2) else some ((x10.1.1 7), x10.1, x10.2)
def t_read (tt : OSt) (ka : Nat) (sa : (Nat → Int32)) (sn : NSt) (a2 : Int32) : Option (Int32 × OSt × NSt) := nm (sI tt 2 (if (nI ka) < a2 then (nI ka) else a2)) fun s1 => nm (sI s1 3 0) fun s2 => nm (sI s2 7 0) fun s3 => nm (sI s3 11 0) fun s4 => nm (sI s4 12 0) fun s5 => bd (n_clear sn 200) fun x6 => bd (t_advance s5 ka sa x6) fun x7 => if (x7.1 4) = 4 then bd (t_readMemory x7 ka sa x6) fun x9 => t_read_61 x9.1 ka sa x9.2 else t_read_61 x7 ka sa x6
abbrev rmX3_read : Room := { frames := 36, cells := 0, slots := 0, locals := 1714 }
theorem hdX3_read : yX3_read.cls = RX3 ∧ yX3_read.cls ≠ "java/lang/invoke/MethodHandle" ∧ yX3_read.cls ≠ "java/lang/invoke/VarHandle" ∧ (parseMethodDescriptor yX3_read.desc).map (fun d => d.parameters.length) = some 2 := by decide +kernel
set_option maxHeartbeats 4000000 in
set_option maxRecDepth 100000 in
theorem t_X3_read_63 {p : Program} {l : Launch} {e : Env} {s : State} {m : MethodId} {args : Array Value} {below : List Frame} {meth : Method} {c : Code} {Q : State → Prop} {A : Nat → Prop} {G : Gx} {qt : Nat → Nat} {da ka : Nat} {qn : Nat → Nat} {tt0 : OSt} {sa0 : (Nat → Int32)} {sn0 : NSt} (C : Cx p s m args meth c G cX3_read wsX3_read RX3 (some .int) 5 A) (hD : va_D A (wT G qt da (qn 15) tt0 ++ (wA G da ka sa0 ++ wN G qn sn0))) :
    ∀ {n : Nat} {tt : OSt} {sa : (Nat → Int32)} {sn : NSt} {v3 : Int32} {x : OSt × NSt}, t_read_63 n tt ka sa sn v3 = some x → ∀ {H : Heap} {locs : List Loc} {ls : Array Slot}, va_P G.1 vwCl (wT G qt da (qn 15) tt ++ (wA G da ka sa ++ wN G qn sn)) H → va_S A s.heap H locs → lv_has ls 5 [(0, .ref (qt 14)), (3, .int v3)] → (∀ {H : Heap} {locs : List Loc} {ls : Array Slot}, va_P G.1 vwCl (wT G qt da (qn 15) x.1 ++ (wA G da ka sa ++ wN G qn x.2)) H → va_S A s.heap H locs → lv_has ls 5 [(0, .ref (qt 14))] → W p l e rmX3_read s m args below meth c H locs 0 0 Q (F0 m 131 ls [])) → W p l e rmX3_read s m args below meth c H locs 0 0 Q (F0 m 63 ls []) := by
  have hx := C.1
  have hb := C.2.1
  intro n
  induction n with
  | zero => intro tt sa sn v3 x hf; cases hf
  | succ n ih =>
    intro tt sa sn v3 x hf H locs ls hP hS hl kk
    rw [t_read_63] at hf
    refine lv_iload_n hx hb dX3_read_63 rfl (lv_at hl 1 rfl) ?_
    refine lv_sipush (v := 500) hx hb dX3_read_64 (by decide) ?_
    refine lv_icmp_ge (tgt := 131) hx hb dX3_read_67 (by decide) (fun c13 => ?_) (fun c13 => ?_)
    · have hf := if_t c13 hf
      cases hf
      exact kk hP hS (lv_sub hl [0] rfl)
    · have hf := if_f c13 hf
      refine lv_aload_n hx hb dX3_read_70 rfl (lv_at hl 0 rfl) ?_
      refine q_get C hP (q0 := 0) rfl rfl hiX3_read_X3 4 (by decide) wdX3_read_12 rfl dX3_read_71 ?_
      refine lv_if_eq (tgt := 131) hx hb dX3_read_74 (by decide) (fun c14 => ?_) (fun c14 => ?_)
      · have hf := if_t c14 hf
        cases hf
        exact kk hP hS (lv_sub hl [0] rfl)
      · have hf := if_f c14 hf
        refine lv_aload_n hx hb dX3_read_77 rfl (lv_at hl 0 rfl) ?_
        refine q_get C hP (q0 := 0) rfl rfl hiX3_read_X3 7 (by decide) wdX3_read_8 rfl dX3_read_78 ?_
        refine lv_if_ne (tgt := 131) hx hb dX3_read_81 (by decide) (fun c15 => ?_) (fun c15 => ?_)
        · have hf := if_f c15 hf
          cases hf
          exact kk hP hS (lv_sub hl [0] rfl)
        · have hf := if_t c15 hf
          refine lv_aload_n hx hb dX3_read_84 rfl (lv_at hl 0 rfl) ?_
          refine lv_iconst (v := 0) hx hb dX3_read_85 (by decide) ?_
          obtain ⟨x16, hx16, hf⟩ := bd_some hf
          refine q_Vi C (rc := (RX3, TX3, 14)) (q0 := 0) (ci := 3) (ws' := wT G qt da (qn 15) x16.2.1 ++ (wA G da ka sa ++ wN G qn x16.2.2)) (wr := []) (c_X3_readTree hx16) gX3_read_X3_readTree rfl ⟨rfl, rfl⟩ hdX3_readTree ⟨(Nat.le_of_ble_eq_true rfl), (Nat.le_of_ble_eq_true rfl)⟩ rfl hP (dd_TAN hD) hS rfl rfl (List.Perm.refl _) (List.Perm.refl _) hl.1 (Nat.le_of_ble_eq_true rfl) ⟨Nat.zero_le _, Nat.zero_le _⟩ rfl dX3_read_86 (fun H locs hP hS => ?_)
          refine lv_istore (lv' := [(4, .int x16.1), (0, .ref (qt 14)), (3, .int v3)]) hx hb dX3_read_89 hl (by decide) rfl (fun ls hl => ?_)
          refine lv_aload_n hx hb dX3_read_91 rfl (lv_at hl 1 rfl) ?_
          refine lv_bipush (v := 126) hx hb dX3_read_92 (by decide) ?_
          obtain ⟨x17, hx17, hf⟩ := bd_some hf
          refine q_Vv C (rc := (RX3, TX3, 14)) (q0 := 0) (ci := 3) (ws' := wT G qt da (qn 15) x17 ++ (wA G da ka sa ++ wN G qn x16.2.2)) (wr := []) (c_X3_expect hx17) gX3_read_X3_expect rfl ⟨rfl, rfl⟩ hdX3_expect ⟨(Nat.le_of_ble_eq_true rfl), (Nat.le_of_ble_eq_true rfl)⟩ rfl hP (dd_TAN hD) hS rfl rfl (List.Perm.refl _) (List.Perm.refl _) hl.1 (Nat.le_of_ble_eq_true rfl) ⟨Nat.zero_le _, Nat.zero_le _⟩ rfl dX3_read_94 (fun H locs hP hS => ?_)
          refine lv_aload_n hx hb dX3_read_97 rfl (lv_at hl 1 rfl) ?_
          obtain ⟨x18, hx18, hf⟩ := bd_some hf
          refine q_Vv C (rc := (RX3, TX3, 14)) (q0 := 0) (ci := 3) (ws' := wT G qt da (qn 15) x18 ++ (wA G da ka sa ++ wN G qn x16.2.2)) (wr := []) (c_X3_advance hx18) gX3_read_X3_advance rfl ⟨rfl, rfl⟩ hdX3_advance ⟨(Nat.le_of_ble_eq_true rfl), (Nat.le_of_ble_eq_true rfl)⟩ rfl hP (dd_TAN hD) hS rfl rfl (List.Perm.refl _) (List.Perm.refl _) hl.1 (Nat.le_of_ble_eq_true rfl) ⟨Nat.zero_le _, Nat.zero_le _⟩ rfl dX3_read_98 (fun H locs hP hS => ?_)
          refine lv_aload_n hx hb dX3_read_101 rfl (lv_at hl 1 rfl) ?_
          refine q_get C hP (q0 := 0) rfl rfl hiX3_read_X3 0 (by decide) wdX3_read_11 rfl dX3_read_102 ?_
          refine lv_iload hx hb dX3_read_105 (lv_at hl 0 rfl) ?_
          refine lv_aload_n hx hb dX3_read_107 rfl (lv_at hl 1 rfl) ?_
          refine lv_iconst (v := 0) hx hb dX3_read_108 (by decide) ?_
          obtain ⟨x19, hx19, hf⟩ := bd_some hf
          refine q_Vi C (rc := (RX3, TX3, 14)) (q0 := 0) (ci := 3) (ws' := wT G qt da (qn 15) x19.2.1 ++ (wA G da ka sa ++ wN G qn x19.2.2)) (wr := []) (c_X3_readTree hx19) gX3_read_X3_readTree rfl ⟨rfl, rfl⟩ hdX3_readTree ⟨(Nat.le_of_ble_eq_true rfl), (Nat.le_of_ble_eq_true rfl)⟩ rfl hP (dd_TAN hD) hS rfl rfl (List.Perm.refl _) (List.Perm.refl _) hl.1 (Nat.le_of_ble_eq_true rfl) ⟨Nat.zero_le _, Nat.zero_le _⟩ rfl dX3_read_109 (fun H locs hP hS => ?_)
          obtain ⟨x20, hx20, hf⟩ := bd_some hf
          refine q_Vv C (rc := (RX0, TX0, 15)) (q0 := 6) (ci := 0) (ws' := wT G qt da (qn 15) x19.2.1 ++ (wA G da ka sa ++ wN G qn x20)) (c_X0_connect (qn := qn) hx20) gX3_read_X0_connect rfl ⟨rfl, rfl⟩ hdX0_connect ⟨(Nat.le_of_ble_eq_true rfl), (Nat.le_of_ble_eq_true rfl)⟩ rfl hP (dd_TAN hD) hS rfl rfl pm_abc pm_abc2 hl.1 (Nat.le_of_ble_eq_true rfl) ⟨Nat.zero_le _, Nat.zero_le _⟩ rfl dX3_read_112 (fun H locs hP hS => ?_)
          refine lv_aload_n hx hb dX3_read_115 rfl (lv_at hl 1 rfl) ?_
          refine lv_bipush (v := 59) hx hb dX3_read_116 (by decide) ?_
          obtain ⟨x21, hx21, hf⟩ := bd_some hf
          refine q_Vv C (rc := (RX3, TX3, 14)) (q0 := 0) (ci := 3) (ws' := wT G qt da (qn 15) x21 ++ (wA G da ka sa ++ wN G qn x20)) (wr := []) (c_X3_expect hx21) gX3_read_X3_expect rfl ⟨rfl, rfl⟩ hdX3_expect ⟨(Nat.le_of_ble_eq_true rfl), (Nat.le_of_ble_eq_true rfl)⟩ rfl hP (dd_TAN hD) hS rfl rfl (List.Perm.refl _) (List.Perm.refl _) hl.1 (Nat.le_of_ble_eq_true rfl) ⟨Nat.zero_le _, Nat.zero_le _⟩ rfl dX3_read_118 (fun H locs hP hS => ?_)
          refine lv_aload_n hx hb dX3_read_121 rfl (lv_at hl 1 rfl) ?_
          obtain ⟨x22, hx22, hf⟩ := bd_some hf
          refine q_Vv C (rc := (RX3, TX3, 14)) (q0 := 0) (ci := 3) (ws' := wT G qt da (qn 15) x22 ++ (wA G da ka sa ++ wN G qn x20)) (wr := []) (c_X3_advance hx22) gX3_read_X3_advance rfl ⟨rfl, rfl⟩ hdX3_advance ⟨(Nat.le_of_ble_eq_true rfl), (Nat.le_of_ble_eq_true rfl)⟩ rfl hP (dd_TAN hD) hS rfl rfl (List.Perm.refl _) (List.Perm.refl _) hl.1 (Nat.le_of_ble_eq_true rfl) ⟨Nat.zero_le _, Nat.zero_le _⟩ rfl dX3_read_122 (fun H locs hP hS => ?_)
          refine lv_iinc (v := (v3 + 1)) (lv' := [(3, .int (v3 + 1)), (4, .int x16.1), (0, .ref (qt 14))]) hx hb dX3_read_125 hl (k := 2) rfl rfl (by decide) rfl (fun ls hl => ?_)
          refine lv_goto (tgt := 63) hx hb dX3_read_128 (by decide) ?_
          exact ih hf hP hS (lv_sub hl [2, 0] rfl) kk
set_option maxHeartbeats 4000000 in
set_option maxRecDepth 100000 in
theorem t_X3_read_61 {p : Program} {l : Launch} {e : Env} {s : State} {m : MethodId} {args : Array Value} {below : List Frame} {meth : Method} {c : Code} {A : Nat → Prop} {G : Gx} {qt : Nat → Nat} {da ka : Nat} {qn : Nat → Nat} {tt0 : OSt} {sa0 : (Nat → Int32)} {sn0 : NSt} (C : Cx p s m args meth c G cX3_read wsX3_read RX3 (some .int) 5 A) (hD : va_D A (wT G qt da (qn 15) tt0 ++ (wA G da ka sa0 ++ wN G qn sn0))) :
    ∀ {tt : OSt} {sa : (Nat → Int32)} {sn : NSt}  {x : Int32 × OSt × NSt}, t_read_61 tt ka sa sn = some x → ∀ {H : Heap} {locs : List Loc} {ls : Array Slot}, va_P G.1 vwCl (wT G qt da (qn 15) tt ++ (wA G da ka sa ++ wN G qn sn)) H → va_S A s.heap H locs → lv_has ls 5 [(0, .ref (qt 14))] → W p l e rmX3_read s m args below meth c H locs 0 0 (MQ below (qE G A (wT G qt da (qn 15) x.2.1 ++ (wA G da ka sa ++ wN G qn x.2.2)) (some (.int x.1))) args s 0 0 A) (F0 m 61 ls []) := by
  have hx := C.1
  have hb := C.2.1
  intro tt sa sn x hf H locs ls hP hS hl
  unfold t_read_61 at hf
  refine lv_iconst (v := 0) hx hb dX3_read_61 (by decide) ?_
  refine lv_istore_n (lv' := [(3, .int 0), (0, .ref (qt 14))]) hx hb dX3_read_62 rfl hl (by decide) rfl (fun ls hl => ?_)
  obtain ⟨x10, hx10, hf⟩ := bd_some hf
  refine t_X3_read_63 C hD hx10 hP hS (lv_sub hl [1, 0] rfl) (fun {H locs ls} hP hS hl => ?_)
  refine lv_aload_n hx hb dX3_read_131 rfl (lv_at hl 0 rfl) ?_
  refine q_get C hP (q0 := 0) rfl rfl hiX3_read_X3 7 (by decide) wdX3_read_8 rfl dX3_read_132 ?_
  refine lv_if_ne (tgt := 142) hx hb dX3_read_135 (by decide) (fun c11 => ?_) (fun c11 => ?_)
  · have hf := if_f c11 hf
    refine lv_aload_n hx hb dX3_read_142 rfl (lv_at hl 0 rfl) ?_
    refine q_get C hP (q0 := 0) rfl rfl hiX3_read_X3 7 (by decide) wdX3_read_8 rfl dX3_read_143 ?_
    cases hf
    exact q_iret C hP hS rfl dX3_read_146
  · have hf := if_t c11 hf
    refine lv_aload_n hx hb dX3_read_138 rfl (lv_at hl 0 rfl) ?_
    obtain ⟨x12, hx12, hf⟩ := bd_some hf
    refine q_Vv C (rc := (RX3, TX3, 14)) (q0 := 0) (ci := 3) (ws' := wT G qt da (qn 15) x12.1 ++ (wA G da ka sa ++ wN G qn x12.2)) (wr := []) (c_X3_endNames hx12) gX3_read_X3_endNames rfl ⟨rfl, rfl⟩ hdX3_endNames ⟨(Nat.le_of_ble_eq_true rfl), (Nat.le_of_ble_eq_true rfl)⟩ rfl hP (dd_TAN hD) hS rfl rfl (List.Perm.refl _) (List.Perm.refl _) hl.1 (Nat.le_of_ble_eq_true rfl) ⟨Nat.zero_le _, Nat.zero_le _⟩ rfl dX3_read_139 (fun H locs hP hS => ?_)
    refine lv_aload_n hx hb dX3_read_142 rfl (lv_at hl 0 rfl) ?_
    refine q_get C hP (q0 := 0) rfl rfl hiX3_read_X3 7 (by decide) wdX3_read_8 rfl dX3_read_143 ?_
    cases hf
    exact q_iret C hP hS rfl dX3_read_146
set_option maxHeartbeats 4000000 in
set_option maxRecDepth 100000 in
theorem c_X3_read {l : Launch} {G : Gx} {b0 : Nat} {qt : Nat → Nat} {da ka : Nat} {qn : Nat → Nat} {tt : OSt} {sa : (Nat → Int32)} {sn : NSt} {a2 : Int32} {x : Int32 × OSt × NSt} (hf : t_read tt ka sa sn a2 = some x) : QM l G yX3_read wsX3_read rmX3_read [.ref (qt 14), .ref da, .int a2] (wT G qt b0 (qn 15) tt ++ (wA G da ka sa ++ wN G qn sn)) (wT G qt da (qn 15) x.2.1 ++ (wA G da ka sa ++ wN G qn x.2.2)) (some (.int x.1)) := by
  refine QM.of (cc := cX3_read) (maxL := 5) (ret := (some .int)) (by decide) rfl (Nat.le_of_ble_eq_true rfl) ?_
  intro p e s m below meth c A ls C hD hP hS hl
  have hx := C.1
  have hb := C.2.1
  have hl : lv_has ls 5 [(0, .ref (qt 14)), (1, .ref da), (2, .int a2)] := hl
  unfold t_read at hf
  refine lv_aload_n hx hb dX3_read_0 rfl (lv_at hl 0 rfl) ?_
  refine lv_aload_n hx hb dX3_read_1 rfl (lv_at hl 1 rfl) ?_
  refine q_put C hP (dd_TAN hD) hS (q0 := 0) rfl rfl hiX3_read_X3 tyX3_ok nmX3 1 (by decide) wdX3_read_1 rfl rfl rfl (Nat.le_of_ble_eq_true rfl) rfl dX3_read_2 (fun H locs hP hS => ?_)
  have hP : va_P G.1 vwCl (wT G qt da (qn 15) tt ++ (wA G da ka sa ++ wN G qn sn)) H := hP
  refine lv_aload_n hx hb dX3_read_5 rfl (lv_at hl 0 rfl) ?_
  refine lv_iload_n hx hb dX3_read_6 rfl (lv_at hl 2 rfl) ?_
  refine lv_aload_n hx hb dX3_read_7 rfl (lv_at hl 1 rfl) ?_
  refine q_alen C hP (q0 := 5) rfl (t0 := 0) rfl dX3_read_8 ?_
  refine va_mmin hx hb (C.2.2.1.trans hl.1.symm) C.2.2.2.1 (C.2.2.2.2.1 _ wdX3_read_2) (C.2.2.2.2.1 _ wdX3_read_3) (C.2.2.2.2.1 _ wdX3_read_4) (C.2.2.2.2.1 _ wdX3_read_5) (Nat.le_of_ble_eq_true rfl) (Nat.le_of_ble_eq_true rfl) (Nat.le_of_ble_eq_true rfl) (Nat.le_of_ble_eq_true rfl) dX3_read_9 ?_
  obtain ⟨s1, es1, hf⟩ := nm_ex hf
  refine q_put C hP (dd_TAN hD) hS (q0 := 0) rfl rfl hiX3_read_X3 tyX3_ok nmX3 2 (by decide) wdX3_read_6 rfl rfl rfl (Nat.le_of_ble_eq_true rfl) rfl dX3_read_12 (fun H locs hP hS => ?_)
  have hP : va_P G.1 vwCl (wT G qt da (qn 15) s1 ++ (wA G da ka sa ++ wN G qn sn)) H := by rw [← es1]; exact hP
  refine lv_aload_n hx hb dX3_read_15 rfl (lv_at hl 0 rfl) ?_
  refine lv_iconst (v := 0) hx hb dX3_read_16 (by decide) ?_
  obtain ⟨s2, es2, hf⟩ := nm_ex hf
  refine q_put C hP (dd_TAN hD) hS (q0 := 0) rfl rfl hiX3_read_X3 tyX3_ok nmX3 3 (by decide) wdX3_read_7 rfl rfl rfl (Nat.le_of_ble_eq_true rfl) rfl dX3_read_17 (fun H locs hP hS => ?_)
  have hP : va_P G.1 vwCl (wT G qt da (qn 15) s2 ++ (wA G da ka sa ++ wN G qn sn)) H := by rw [← es2]; exact hP
  refine lv_aload_n hx hb dX3_read_20 rfl (lv_at hl 0 rfl) ?_
  refine lv_iconst (v := 0) hx hb dX3_read_21 (by decide) ?_
  obtain ⟨s3, es3, hf⟩ := nm_ex hf
  refine q_put C hP (dd_TAN hD) hS (q0 := 0) rfl rfl hiX3_read_X3 tyX3_ok nmX3 7 (by decide) wdX3_read_8 rfl rfl rfl (Nat.le_of_ble_eq_true rfl) rfl dX3_read_22 (fun H locs hP hS => ?_)
  have hP : va_P G.1 vwCl (wT G qt da (qn 15) s3 ++ (wA G da ka sa ++ wN G qn sn)) H := by rw [← es3]; exact hP
  refine lv_aload_n hx hb dX3_read_25 rfl (lv_at hl 0 rfl) ?_
  refine lv_iconst (v := 0) hx hb dX3_read_26 (by decide) ?_
  obtain ⟨s4, es4, hf⟩ := nm_ex hf
  refine q_put C hP (dd_TAN hD) hS (q0 := 0) rfl rfl hiX3_read_X3 tyX3_ok nmX3 11 (by decide) wdX3_read_9 rfl rfl rfl (Nat.le_of_ble_eq_true rfl) rfl dX3_read_27 (fun H locs hP hS => ?_)
  have hP : va_P G.1 vwCl (wT G qt da (qn 15) s4 ++ (wA G da ka sa ++ wN G qn sn)) H := by rw [← es4]; exact hP
  refine lv_aload_n hx hb dX3_read_30 rfl (lv_at hl 0 rfl) ?_
  refine lv_iconst (v := 0) hx hb dX3_read_31 (by decide) ?_
  obtain ⟨s5, es5, hf⟩ := nm_ex hf
  refine q_put C hP (dd_TAN hD) hS (q0 := 0) rfl rfl hiX3_read_X3 tyX3_ok nmX3 12 (by decide) wdX3_read_10 rfl rfl rfl (Nat.le_of_ble_eq_true rfl) rfl dX3_read_32 (fun H locs hP hS => ?_)
  have hP : va_P G.1 vwCl (wT G qt da (qn 15) s5 ++ (wA G da ka sa ++ wN G qn sn)) H := by rw [← es5]; exact hP
  refine lv_aload_n hx hb dX3_read_35 rfl (lv_at hl 0 rfl) ?_
  refine q_get C hP (q0 := 0) rfl rfl hiX3_read_X3 0 (by decide) wdX3_read_11 rfl dX3_read_36 ?_
  refine lv_sipush (v := 200) hx hb dX3_read_39 (by decide) ?_
  obtain ⟨x6, hx6, hf⟩ := bd_some hf
  refine q_Vv C (rc := (RX0, TX0, 15)) (q0 := 6) (ci := 0) (ws' := wT G qt da (qn 15) s5 ++ (wA G da ka sa ++ wN G qn x6)) (c_X0_clear (qn := qn) hx6) gX3_read_X0_clear rfl ⟨rfl, rfl⟩ hdX0_clear ⟨(Nat.le_of_ble_eq_true rfl), (Nat.le_of_ble_eq_true rfl)⟩ rfl hP (dd_TAN hD) hS rfl rfl pm_abc pm_abc2 hl.1 (Nat.le_of_ble_eq_true rfl) ⟨Nat.zero_le _, Nat.zero_le _⟩ rfl dX3_read_42 (fun H locs hP hS => ?_)
  refine lv_aload_n hx hb dX3_read_45 rfl (lv_at hl 0 rfl) ?_
  obtain ⟨x7, hx7, hf⟩ := bd_some hf
  refine q_Vv C (rc := (RX3, TX3, 14)) (q0 := 0) (ci := 3) (ws' := wT G qt da (qn 15) x7 ++ (wA G da ka sa ++ wN G qn x6)) (wr := []) (c_X3_advance hx7) gX3_read_X3_advance rfl ⟨rfl, rfl⟩ hdX3_advance ⟨(Nat.le_of_ble_eq_true rfl), (Nat.le_of_ble_eq_true rfl)⟩ rfl hP (dd_TAN hD) hS rfl rfl (List.Perm.refl _) (List.Perm.refl _) hl.1 (Nat.le_of_ble_eq_true rfl) ⟨Nat.zero_le _, Nat.zero_le _⟩ rfl dX3_read_46 (fun H locs hP hS => ?_)
  refine lv_aload_n hx hb dX3_read_49 rfl (lv_at hl 0 rfl) ?_
  refine q_get C hP (q0 := 0) rfl rfl hiX3_read_X3 4 (by decide) wdX3_read_12 rfl dX3_read_50 ?_
  refine lv_iconst (v := 4) hx hb dX3_read_53 (by decide) ?_
  refine lv_icmp_ne (tgt := 61) hx hb dX3_read_54 (by decide) (fun c8 => ?_) (fun c8 => ?_)
  · have hf := if_f c8 hf
    exact t_X3_read_61 C (hD.ad (w' := wT G qt da (qn 15) tt ++ (wA G da ka sa ++ wN G qn sn)) rfl) hf hP hS (lv_sub hl [0] rfl)
  · have hf := if_t c8 hf
    refine lv_aload_n hx hb dX3_read_57 rfl (lv_at hl 0 rfl) ?_
    obtain ⟨x9, hx9, hf⟩ := bd_some hf
    refine q_Vv C (rc := (RX3, TX3, 14)) (q0 := 0) (ci := 3) (ws' := wT G qt da (qn 15) x9.1 ++ (wA G da ka sa ++ wN G qn x9.2)) (wr := []) (c_X3_readMemory hx9) gX3_read_X3_readMemory rfl ⟨rfl, rfl⟩ hdX3_readMemory ⟨(Nat.le_of_ble_eq_true rfl), (Nat.le_of_ble_eq_true rfl)⟩ rfl hP (dd_TAN hD) hS rfl rfl (List.Perm.refl _) (List.Perm.refl _) hl.1 (Nat.le_of_ble_eq_true rfl) ⟨Nat.zero_le _, Nat.zero_le _⟩ rfl dX3_read_58 (fun H locs hP hS => ?_)
    exact t_X3_read_61 C (hD.ad (w' := wT G qt da (qn 15) tt ++ (wA G da ka sa ++ wN G qn sn)) rfl) hf hP hS (lv_sub hl [0] rfl)
