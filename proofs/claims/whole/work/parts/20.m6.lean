theorem hdX5_tree : yX5_tree.cls = RX5 ∧ yX5_tree.cls ≠ "java/lang/invoke/MethodHandle" ∧ yX5_tree.cls ≠ "java/lang/invoke/VarHandle" ∧ (parseMethodDescriptor yX5_tree.desc).map (fun d => d.parameters.length) = some 0 := by decide +kernel
def rmT (d : Nat) : Room := { frames := 2 * d + 6, cells := 0, slots := 0, locals := 100 * d + 118 }
def rmN (d : Nat) : Room := { frames := 2 * d + 7, cells := 0, slots := 0, locals := 100 * d + 168 }
theorem rmN_f (d : Nat) : 6 ≤ (rmN d).frames := by show 6 ≤ 2 * d + 7; omega
theorem rmN_l (d : Nat) : 118 ≤ (rmN d).locals := by show 118 ≤ 100 * d + 168; omega
theorem rmT1_f (d : Nat) : 6 ≤ (rmT (d + 1)).frames := by show 6 ≤ 2 * (d + 1) + 6; omega
theorem rmT1_l (d : Nat) : 118 ≤ (rmT (d + 1)).locals := by show 118 ≤ 100 * (d + 1) + 118; omega
theorem rmNT_f (d : Nat) : (rmT d).frames + 1 ≤ (rmN d).frames := by show 2 * d + 6 + 1 ≤ 2 * d + 7; omega
theorem rmNT_l (d : Nat) : 8 + (1 + 11) + (rmT d).locals ≤ (rmN d).locals := by show 8 + (1 + 11) + (100 * d + 118) ≤ 100 * d + 168; omega
theorem rmTN_f (d : Nat) : (rmN d).frames + 1 ≤ (rmT (d + 1)).frames := by show 2 * d + 7 + 1 ≤ 2 * (d + 1) + 6; omega
theorem rmTN_l (d : Nat) : 8 + (5 + 11) + (rmN d).locals ≤ (rmT (d + 1)).locals := by show 8 + (5 + 11) + (100 * d + 168) ≤ 100 * (d + 1) + 118; omega
theorem hiX5_node_X5 : ∀ w ∈ u_ws RX5 TX5 42, w ∈ wsX5_node := mem_run (i := 96) (by decide +kernel)
theorem wdX5_node_1 : (Cond.fieldLink RX5 158 "CombinatorRingModel" "deep" "I") ∈ wsX5_node := List.mem_of_getElem? (i := 1) rfl
theorem wdX5_node_2 : (Cond.fieldLink RX5 149 "CombinatorRingModel" "end" "I") ∈ wsX5_node := List.mem_of_getElem? (i := 2) rfl
def m_node_52 (rt : OSt → Option (Int32 × OSt)) : Nat → OSt → Int32 → Int32 → Int32 → Option (Int32 × OSt)
  | 0, _, _, _, _ => none
  | n + 1, st, v2, v3, v4 => if 3 ≤ v4 then nm (sI st 15 ((st.1 15) - 1)) fun s10 => nm (sI s10 16 (3 * v3)) fun s11 => bd (m_sign s11 v2) fun x12 => gb x12.1 (some (x12.1, x12.2)) else bd (rt st) fun x13 => if x13.1 = 0 then some (0, x13.2) else bd (m_ties x13.2 (x13.2.1 16) ((3 * v3) + v4)) fun x15 => m_node_52 rt n x15 v2 v3 (v4 + 1)
def m_node (rt : OSt → Option (Int32 × OSt)) (st : OSt) (a1 : Int32) (a2 : Int32) : Option (Int32 × OSt) := if (st.1 15) = 20 then bd (m_bad st 4) fun x8 => gb x8.1 (some (x8.1, x8.2)) else bd (m_hasRoom st 1) fun x2 => if x2 = 0 then bd (m_bad st 5) fun x7 => gb x7.1 (some (x7.1, x7.2)) else bd (m_makes st a1) fun x4 => nm (sI x4.2 15 ((x4.2.1 15) + 1)) fun s5 => bd (m_go s5) fun x6 => m_node_52 rt 20000 x6 a2 x4.1 1
-- room: frames 3 locals 64
theorem hdX5_node : yX5_node.cls = RX5 ∧ yX5_node.cls ≠ "java/lang/invoke/MethodHandle" ∧ yX5_node.cls ≠ "java/lang/invoke/VarHandle" ∧ (parseMethodDescriptor yX5_node.desc).map (fun d => d.parameters.length) = some 2 := by decide +kernel
set_option maxHeartbeats 4000000 in
set_option maxRecDepth 100000 in
theorem t_X5_node_52 {p : Program} {l : Launch} {e : Env} {s : State} {m : MethodId} {args : Array Value} {below : List Frame} {meth : Method} {c : Code} {A : Nat → Prop} {G : Gx} {d : Nat} {rt : OSt → Option (Int32 × OSt)} {q : Nat → Nat} (hrt : ∀ {st : OSt} {x : Int32 × OSt}, rt st = some x → QM l G yX5_tree wsX5_tree (rmT d) [.ref (q 42)] (wM G q st) (wM G q x.2) (some (.int x.1))) {st0 : OSt} (C : Cx p s m args meth c G cX5_node wsX5_node RX5 (some .boolean) 5 A) (hD : va_D A (wM G q st0)) :
    ∀ {n : Nat} {st : OSt} {v2 : Int32} {v3 : Int32} {v4 : Int32} {x : Int32 × OSt}, m_node_52 rt n st v2 v3 v4 = some x → ∀ {H : Heap} {locs : List Loc} {ls : Array Slot}, va_P G.1 vwCl (wM G q st) H → va_S A s.heap H locs → lv_has ls 5 [(0, .ref (q 42)), (2, .int v2), (3, .int v3), (4, .int v4)] → W p l e (rmN d) s m args below meth c H locs 0 0 (MQ below (qE G A (wM G q x.2) (some (.int x.1))) args s 0 0 A) (F0 m 52 ls []) := by
  have hx := C.1
  have hb := C.2.1
  intro n
  induction n with
  | zero => intro st v2 v3 v4 x hf; cases hf
  | succ n ih =>
    intro st v2 v3 v4 x hf H locs ls hP hS hl
    rw [m_node_52] at hf
    refine lv_iload hx hb dX5_node_52 (lv_at hl 3 rfl) ?_
    refine lv_iconst (v := 3) hx hb dX5_node_54 (by decide) ?_
    refine lv_icmp_ge (tgt := 87) hx hb dX5_node_55 (by decide) (fun c9 => ?_) (fun c9 => ?_)
    · have hf := if_t c9 hf
      refine lv_aload_n hx hb dX5_node_87 rfl (lv_at hl 0 rfl) ?_
      refine lv_dup hx hb dX5_node_88 rfl ?_
      refine q_get C hP wM_o rfl hiX5_node_X5 15 (by decide) wdX5_node_1 rfl dX5_node_89 ?_
      refine lv_iconst (v := 1) hx hb dX5_node_92 (by decide) ?_
      refine lv_isub hx hb dX5_node_93 ?_
      obtain ⟨s10, es10, hf⟩ := nm_ex hf
      refine q_put C hP (dd_M hD) hS wM_o rfl hiX5_node_X5 tyX5_ok nmX5 15 (by decide) wdX5_node_1 rfl rfl rfl (Nat.le_of_ble_eq_true rfl) wM_sI_15 dX5_node_94 (fun H locs hP hS => ?_)
      rw [es10] at hP
      refine lv_aload_n hx hb dX5_node_97 rfl (lv_at hl 0 rfl) ?_
      refine lv_iconst (v := 3) hx hb dX5_node_98 (by decide) ?_
      refine lv_iload_n hx hb dX5_node_99 rfl (lv_at hl 2 rfl) ?_
      refine lv_imul hx hb dX5_node_100 ?_
      obtain ⟨s11, es11, hf⟩ := nm_ex hf
      refine q_put C hP (dd_M hD) hS wM_o rfl hiX5_node_X5 tyX5_ok nmX5 16 (by decide) wdX5_node_2 rfl rfl rfl (Nat.le_of_ble_eq_true rfl) wM_sI_16 dX5_node_101 (fun H locs hP hS => ?_)
      rw [es11] at hP
      refine lv_aload_n hx hb dX5_node_104 rfl (lv_at hl 0 rfl) ?_
      refine lv_iload_n hx hb dX5_node_105 rfl (lv_at hl 1 rfl) ?_
      obtain ⟨x12, hx12, hf⟩ := bd_some hf
      refine q_Vi C (rc := (RX5, TX5, 42)) (q0 := 0) (ci := 5) (ws' := wM G q x12.2) (wr := []) (c_X5_sign hx12) gX5_node_X5_sign rfl ⟨rfl, rfl⟩ hdX5_sign ⟨Nat.le_trans (Nat.le_of_ble_eq_true rfl) (rmN_f d), Nat.le_trans (Nat.le_of_ble_eq_true rfl) (rmN_l d)⟩ rfl hP (dd_M hD) hS rfl rfl (List.Perm.refl _) (List.Perm.refl _) hl.1 (Nat.le_of_ble_eq_true rfl) ⟨Nat.zero_le _, Nat.zero_le _⟩ rfl dX5_node_106 (fun H locs hP hS => ?_)
      obtain ⟨hb9, hf⟩ := gb_some hf
      obtain rfl := Option.some.inj hf
      exact q_zret C hP hS rfl (gb_nar hb9) dX5_node_109
    · have hf := if_f c9 hf
      refine lv_aload_n hx hb dX5_node_58 rfl (lv_at hl 0 rfl) ?_
      obtain ⟨x13, hx13, hf⟩ := bd_some hf
      refine q_Vi C (rc := (RX5, TX5, 42)) (q0 := 0) (ci := 5) (ws' := wM G q x13.2) (wr := []) (hrt hx13) gX5_node_X5_tree rfl ⟨rfl, rfl⟩ hdX5_tree ⟨rmNT_f d, rmNT_l d⟩ rfl hP (dd_M hD) hS rfl rfl (List.Perm.refl _) (List.Perm.refl _) hl.1 (Nat.le_of_ble_eq_true rfl) ⟨Nat.zero_le _, Nat.zero_le _⟩ rfl dX5_node_59 (fun H locs hP hS => ?_)
      refine lv_if_ne (tgt := 67) hx hb dX5_node_62 (by decide) (fun c14 => ?_) (fun c14 => ?_)
      · have hf := if_f c14 hf
        refine lv_aload_n hx hb dX5_node_67 rfl (lv_at hl 0 rfl) ?_
        refine lv_aload_n hx hb dX5_node_68 rfl (lv_at hl 0 rfl) ?_
        refine q_get C hP wM_o rfl hiX5_node_X5 16 (by decide) wdX5_node_2 rfl dX5_node_69 ?_
        refine lv_iconst (v := 3) hx hb dX5_node_72 (by decide) ?_
        refine lv_iload_n hx hb dX5_node_73 rfl (lv_at hl 2 rfl) ?_
        refine lv_imul hx hb dX5_node_74 ?_
        refine lv_iload hx hb dX5_node_75 (lv_at hl 3 rfl) ?_
        refine lv_iadd hx hb dX5_node_77 ?_
        obtain ⟨x15, hx15, hf⟩ := bd_some hf
        refine q_Vv C (rc := (RX5, TX5, 42)) (q0 := 0) (ci := 5) (ws' := wM G q x15) (wr := []) (c_X5_ties hx15) gX5_node_X5_ties rfl ⟨rfl, rfl⟩ hdX5_ties ⟨Nat.le_trans (Nat.le_of_ble_eq_true rfl) (rmN_f d), Nat.le_trans (Nat.le_of_ble_eq_true rfl) (rmN_l d)⟩ rfl hP (dd_M hD) hS rfl rfl (List.Perm.refl _) (List.Perm.refl _) hl.1 (Nat.le_of_ble_eq_true rfl) ⟨Nat.zero_le _, Nat.zero_le _⟩ rfl dX5_node_78 (fun H locs hP hS => ?_)
        refine lv_iinc (v := (v4 + 1)) (lv' := [(4, .int (v4 + 1)), (0, .ref (q 42)), (2, .int v2), (3, .int v3)]) hx hb dX5_node_81 hl (k := 3) rfl rfl (by decide) rfl (fun ls hl => ?_)
        refine lv_goto (tgt := 52) hx hb dX5_node_84 (by decide) ?_
        exact ih hf hP hS (lv_sub hl [1, 2, 3, 0] rfl)
      · have hf := if_t c14 hf
        refine lv_iconst (v := 0) hx hb dX5_node_65 (by decide) ?_
        obtain rfl := Option.some.inj hf
        exact q_zret C hP hS rfl (gb_nar (Or.inl rfl)) dX5_node_66
set_option maxHeartbeats 4000000 in
set_option maxRecDepth 100000 in
theorem c_X5_node {l : Launch} {G : Gx} {d : Nat} {rt : OSt → Option (Int32 × OSt)} {q : Nat → Nat} (hrt : ∀ {st : OSt} {x : Int32 × OSt}, rt st = some x → QM l G yX5_tree wsX5_tree (rmT d) [.ref (q 42)] (wM G q st) (wM G q x.2) (some (.int x.1))) {st : OSt} {a1 : Int32} {a2 : Int32} {x : Int32 × OSt} (hf : m_node rt st a1 a2 = some x) : QM l G yX5_node wsX5_node (rmN d) [.ref (q 42), .int a1, .int a2] (wM G q st) (wM G q x.2) (some (.int x.1)) := by
  refine QM.of (cc := cX5_node) (maxL := 5) (ret := (some .boolean)) (by decide) rfl (Nat.le_of_ble_eq_true rfl) ?_
  intro p e s m below meth c A ls C hD hP hS hl
  have hx := C.1
  have hb := C.2.1
  have hl : lv_has ls 5 [(0, .ref (q 42)), (1, .int a1), (2, .int a2)] := hl
  unfold m_node at hf
  refine lv_aload_n hx hb dX5_node_0 rfl (lv_at hl 0 rfl) ?_
  refine q_get C hP wM_o rfl hiX5_node_X5 15 (by decide) wdX5_node_1 rfl dX5_node_1 ?_
  refine lv_bipush (v := 20) hx hb dX5_node_4 (by decide) ?_
  refine lv_icmp_ne (tgt := 15) hx hb dX5_node_6 (by decide) (fun c1 => ?_) (fun c1 => ?_)
  · have hf := if_f c1 hf
    refine lv_aload_n hx hb dX5_node_15 rfl (lv_at hl 0 rfl) ?_
    refine lv_iconst (v := 1) hx hb dX5_node_16 (by decide) ?_
    obtain ⟨x2, hx2, hf⟩ := bd_some hf
    refine q_Vi C (rc := (RX5, TX5, 42)) (q0 := 0) (ci := 5) (ws' := wM G q st) (wr := []) (c_X5_hasRoom hx2) gX5_node_X5_hasRoom rfl ⟨rfl, rfl⟩ hdX5_hasRoom ⟨Nat.le_trans (Nat.le_of_ble_eq_true rfl) (rmN_f d), Nat.le_trans (Nat.le_of_ble_eq_true rfl) (rmN_l d)⟩ rfl hP (dd_M hD) hS rfl rfl (List.Perm.refl _) (List.Perm.refl _) hl.1 (Nat.le_of_ble_eq_true rfl) ⟨Nat.zero_le _, Nat.zero_le _⟩ rfl dX5_node_17 (fun H locs hP hS => ?_)
    refine lv_if_ne (tgt := 29) hx hb dX5_node_20 (by decide) (fun c3 => ?_) (fun c3 => ?_)
    · have hf := if_f c3 hf
      refine lv_aload_n hx hb dX5_node_29 rfl (lv_at hl 0 rfl) ?_
      refine lv_iload_n hx hb dX5_node_30 rfl (lv_at hl 1 rfl) ?_
      obtain ⟨x4, hx4, hf⟩ := bd_some hf
      refine q_Vi C (rc := (RX5, TX5, 42)) (q0 := 0) (ci := 5) (ws' := wM G q x4.2) (wr := []) (c_X5_makes hx4) gX5_node_X5_makes rfl ⟨rfl, rfl⟩ hdX5_makes ⟨Nat.le_trans (Nat.le_of_ble_eq_true rfl) (rmN_f d), Nat.le_trans (Nat.le_of_ble_eq_true rfl) (rmN_l d)⟩ rfl hP (dd_M hD) hS rfl rfl (List.Perm.refl _) (List.Perm.refl _) hl.1 (Nat.le_of_ble_eq_true rfl) ⟨Nat.zero_le _, Nat.zero_le _⟩ rfl dX5_node_31 (fun H locs hP hS => ?_)
      refine lv_istore_n (lv' := [(3, .int x4.1), (0, .ref (q 42)), (1, .int a1), (2, .int a2)]) hx hb dX5_node_34 rfl hl (by decide) rfl (fun ls hl => ?_)
      refine lv_aload_n hx hb dX5_node_35 rfl (lv_at hl 1 rfl) ?_
      refine lv_dup hx hb dX5_node_36 rfl ?_
      refine q_get C hP wM_o rfl hiX5_node_X5 15 (by decide) wdX5_node_1 rfl dX5_node_37 ?_
      refine lv_iconst (v := 1) hx hb dX5_node_40 (by decide) ?_
      refine lv_iadd hx hb dX5_node_41 ?_
      obtain ⟨s5, es5, hf⟩ := nm_ex hf
      refine q_put C hP (dd_M hD) hS wM_o rfl hiX5_node_X5 tyX5_ok nmX5 15 (by decide) wdX5_node_1 rfl rfl rfl (Nat.le_of_ble_eq_true rfl) wM_sI_15 dX5_node_42 (fun H locs hP hS => ?_)
      rw [es5] at hP
      refine lv_aload_n hx hb dX5_node_45 rfl (lv_at hl 1 rfl) ?_
      obtain ⟨x6, hx6, hf⟩ := bd_some hf
      refine q_Vv C (rc := (RX5, TX5, 42)) (q0 := 0) (ci := 5) (ws' := wM G q x6) (wr := []) (c_X5_go hx6) gX5_node_X5_go rfl ⟨rfl, rfl⟩ hdX5_go ⟨Nat.le_trans (Nat.le_of_ble_eq_true rfl) (rmN_f d), Nat.le_trans (Nat.le_of_ble_eq_true rfl) (rmN_l d)⟩ rfl hP (dd_M hD) hS rfl rfl (List.Perm.refl _) (List.Perm.refl _) hl.1 (Nat.le_of_ble_eq_true rfl) ⟨Nat.zero_le _, Nat.zero_le _⟩ rfl dX5_node_46 (fun H locs hP hS => ?_)
      refine lv_iconst (v := 1) hx hb dX5_node_49 (by decide) ?_
      refine lv_istore (lv' := [(4, .int 1), (3, .int x4.1), (0, .ref (q 42)), (1, .int a1), (2, .int a2)]) hx hb dX5_node_50 hl (by decide) rfl (fun ls hl => ?_)
      exact t_X5_node_52 hrt C hD hf hP hS (lv_sub hl [2, 4, 1, 0] rfl)
    · have hf := if_t c3 hf
      refine lv_aload_n hx hb dX5_node_23 rfl (lv_at hl 0 rfl) ?_
      refine lv_iconst (v := 5) hx hb dX5_node_24 (by decide) ?_
      obtain ⟨x7, hx7, hf⟩ := bd_some hf
      refine q_Vi C (rc := (RX5, TX5, 42)) (q0 := 0) (ci := 5) (ws' := wM G q x7.2) (wr := []) (c_X5_bad hx7) gX5_node_X5_bad rfl ⟨rfl, rfl⟩ hdX5_bad ⟨Nat.le_trans (Nat.le_of_ble_eq_true rfl) (rmN_f d), Nat.le_trans (Nat.le_of_ble_eq_true rfl) (rmN_l d)⟩ rfl hP (dd_M hD) hS rfl rfl (List.Perm.refl _) (List.Perm.refl _) hl.1 (Nat.le_of_ble_eq_true rfl) ⟨Nat.zero_le _, Nat.zero_le _⟩ rfl dX5_node_25 (fun H locs hP hS => ?_)
      obtain ⟨hb9, hf⟩ := gb_some hf
      obtain rfl := Option.some.inj hf
      exact q_zret C hP hS rfl (gb_nar hb9) dX5_node_28
  · have hf := if_t c1 hf
    refine lv_aload_n hx hb dX5_node_9 rfl (lv_at hl 0 rfl) ?_
    refine lv_iconst (v := 4) hx hb dX5_node_10 (by decide) ?_
    obtain ⟨x8, hx8, hf⟩ := bd_some hf
    refine q_Vi C (rc := (RX5, TX5, 42)) (q0 := 0) (ci := 5) (ws' := wM G q x8.2) (wr := []) (c_X5_bad hx8) gX5_node_X5_bad rfl ⟨rfl, rfl⟩ hdX5_bad ⟨Nat.le_trans (Nat.le_of_ble_eq_true rfl) (rmN_f d), Nat.le_trans (Nat.le_of_ble_eq_true rfl) (rmN_l d)⟩ rfl hP (dd_M hD) hS rfl rfl (List.Perm.refl _) (List.Perm.refl _) hl.1 (Nat.le_of_ble_eq_true rfl) ⟨Nat.zero_le _, Nat.zero_le _⟩ rfl dX5_node_11 (fun H locs hP hS => ?_)
    obtain ⟨hb9, hf⟩ := gb_some hf
    obtain rfl := Option.some.inj hf
    exact q_zret C hP hS rfl (gb_nar hb9) dX5_node_14
theorem hiX5_tree_X5 : ∀ w ∈ u_ws RX5 TX5 42, w ∈ wsX5_tree := mem_run (i := 96) (by decide +kernel)
theorem wdX5_tree_1 : (Cond.fieldLink RX5 118 "CombinatorRingModel" "token" "I") ∈ wsX5_tree := List.mem_of_getElem? (i := 1) rfl
theorem wdX5_tree_2 : (Cond.fieldLink RX5 115 "CombinatorRingModel" "word" "I") ∈ wsX5_tree := List.mem_of_getElem? (i := 2) rfl
theorem wdX5_tree_3 : (Cond.constant RX5 121 (441892441)) ∈ wsX5_tree := List.mem_of_getElem? (i := 3) rfl
def m_treeB_22 (rt : OSt → Option (Int32 × OSt)) (st : OSt) : Option (Int32 × OSt) := bd (m_is st 42) fun x4 => if x4 = 0 then bd (m_is st 40) fun x6 => if x6 = 0 then bd (m_is st 91) fun x8 => if x8 = 0 then bd (m_is st 35) fun x10 => if x10 = 0 then bd (m_is st 60) fun x12 => if x12 = 0 then bd (m_bad st 1) fun x14 => gb x14.1 (some (x14.1, x14.2)) else bd (m_list st) fun x15 => gb x15.1 (some (x15.1, x15.2)) else bd (m_number st) fun x16 => gb x16.1 (some (x16.1, x16.2)) else bd (m_node rt st 2 93) fun x17 => gb x17.1 (some (x17.1, x17.2)) else bd (m_node rt st 1 41) fun x18 => gb x18.1 (some (x18.1, x18.2)) else bd (m_eraser st) fun x19 => gb x19.1 (some (x19.1, x19.2))
def m_treeB (rt : OSt → Option (Int32 × OSt)) (st : OSt)  : Option (Int32 × OSt) := if (st.1 7) = 1 then if (st.1 9) = 441892441 then m_treeB_22 rt st else bd (m_name st) fun x3 => gb x3.1 (some (x3.1, x3.2)) else m_treeB_22 rt st
-- room: frames 4 locals 88
set_option maxHeartbeats 4000000 in
set_option maxRecDepth 100000 in
theorem t_X5_tree_22 {p : Program} {l : Launch} {e : Env} {s : State} {m : MethodId} {args : Array Value} {below : List Frame} {meth : Method} {c : Code} {A : Nat → Prop} {G : Gx} {d : Nat} {rt : OSt → Option (Int32 × OSt)} {q : Nat → Nat} (hrt : ∀ {st : OSt} {x : Int32 × OSt}, rt st = some x → QM l G yX5_tree wsX5_tree (rmT d) [.ref (q 42)] (wM G q st) (wM G q x.2) (some (.int x.1))) {st0 : OSt} (C : Cx p s m args meth c G cX5_tree wsX5_tree RX5 (some .boolean) 1 A) (hD : va_D A (wM G q st0)) :
    ∀ {st : OSt}  {x : Int32 × OSt}, m_treeB_22 rt st = some x → ∀ {H : Heap} {locs : List Loc} {ls : Array Slot}, va_P G.1 vwCl (wM G q st) H → va_S A s.heap H locs → lv_has ls 1 [(0, .ref (q 42))] → W p l e (rmT (d + 1)) s m args below meth c H locs 0 0 (MQ below (qE G A (wM G q x.2) (some (.int x.1))) args s 0 0 A) (F0 m 22 ls []) := by
  have hx := C.1
  have hb := C.2.1
  intro st x hf H locs ls hP hS hl
  unfold m_treeB_22 at hf
  refine lv_aload_n hx hb dX5_tree_22 rfl (lv_at hl 0 rfl) ?_
  refine lv_bipush (v := 42) hx hb dX5_tree_23 (by decide) ?_
  obtain ⟨x4, hx4, hf⟩ := bd_some hf
  refine q_Vi C (rc := (RX5, TX5, 42)) (q0 := 0) (ci := 5) (ws' := wM G q st) (wr := []) (c_X5_is hx4) gX5_tree_X5_is rfl ⟨rfl, rfl⟩ hdX5_is ⟨Nat.le_trans (Nat.le_of_ble_eq_true rfl) (rmT1_f d), Nat.le_trans (Nat.le_of_ble_eq_true rfl) (rmT1_l d)⟩ rfl hP (dd_M hD) hS rfl rfl (List.Perm.refl _) (List.Perm.refl _) hl.1 (Nat.le_of_ble_eq_true rfl) ⟨Nat.zero_le _, Nat.zero_le _⟩ rfl dX5_tree_25 (fun H locs hP hS => ?_)
  refine lv_if_eq (tgt := 36) hx hb dX5_tree_28 (by decide) (fun c5 => ?_) (fun c5 => ?_)
  · have hf := if_t c5 hf
    refine lv_aload_n hx hb dX5_tree_36 rfl (lv_at hl 0 rfl) ?_
    refine lv_bipush (v := 40) hx hb dX5_tree_37 (by decide) ?_
    obtain ⟨x6, hx6, hf⟩ := bd_some hf
    refine q_Vi C (rc := (RX5, TX5, 42)) (q0 := 0) (ci := 5) (ws' := wM G q st) (wr := []) (c_X5_is hx6) gX5_tree_X5_is rfl ⟨rfl, rfl⟩ hdX5_is ⟨Nat.le_trans (Nat.le_of_ble_eq_true rfl) (rmT1_f d), Nat.le_trans (Nat.le_of_ble_eq_true rfl) (rmT1_l d)⟩ rfl hP (dd_M hD) hS rfl rfl (List.Perm.refl _) (List.Perm.refl _) hl.1 (Nat.le_of_ble_eq_true rfl) ⟨Nat.zero_le _, Nat.zero_le _⟩ rfl dX5_tree_39 (fun H locs hP hS => ?_)
    refine lv_if_eq (tgt := 53) hx hb dX5_tree_42 (by decide) (fun c7 => ?_) (fun c7 => ?_)
    · have hf := if_t c7 hf
      refine lv_aload_n hx hb dX5_tree_53 rfl (lv_at hl 0 rfl) ?_
      refine lv_bipush (v := 91) hx hb dX5_tree_54 (by decide) ?_
      obtain ⟨x8, hx8, hf⟩ := bd_some hf
      refine q_Vi C (rc := (RX5, TX5, 42)) (q0 := 0) (ci := 5) (ws' := wM G q st) (wr := []) (c_X5_is hx8) gX5_tree_X5_is rfl ⟨rfl, rfl⟩ hdX5_is ⟨Nat.le_trans (Nat.le_of_ble_eq_true rfl) (rmT1_f d), Nat.le_trans (Nat.le_of_ble_eq_true rfl) (rmT1_l d)⟩ rfl hP (dd_M hD) hS rfl rfl (List.Perm.refl _) (List.Perm.refl _) hl.1 (Nat.le_of_ble_eq_true rfl) ⟨Nat.zero_le _, Nat.zero_le _⟩ rfl dX5_tree_56 (fun H locs hP hS => ?_)
      refine lv_if_eq (tgt := 70) hx hb dX5_tree_59 (by decide) (fun c9 => ?_) (fun c9 => ?_)
      · have hf := if_t c9 hf
        refine lv_aload_n hx hb dX5_tree_70 rfl (lv_at hl 0 rfl) ?_
        refine lv_bipush (v := 35) hx hb dX5_tree_71 (by decide) ?_
        obtain ⟨x10, hx10, hf⟩ := bd_some hf
        refine q_Vi C (rc := (RX5, TX5, 42)) (q0 := 0) (ci := 5) (ws' := wM G q st) (wr := []) (c_X5_is hx10) gX5_tree_X5_is rfl ⟨rfl, rfl⟩ hdX5_is ⟨Nat.le_trans (Nat.le_of_ble_eq_true rfl) (rmT1_f d), Nat.le_trans (Nat.le_of_ble_eq_true rfl) (rmT1_l d)⟩ rfl hP (dd_M hD) hS rfl rfl (List.Perm.refl _) (List.Perm.refl _) hl.1 (Nat.le_of_ble_eq_true rfl) ⟨Nat.zero_le _, Nat.zero_le _⟩ rfl dX5_tree_73 (fun H locs hP hS => ?_)
        refine lv_if_eq (tgt := 84) hx hb dX5_tree_76 (by decide) (fun c11 => ?_) (fun c11 => ?_)
        · have hf := if_t c11 hf
          refine lv_aload_n hx hb dX5_tree_84 rfl (lv_at hl 0 rfl) ?_
          refine lv_bipush (v := 60) hx hb dX5_tree_85 (by decide) ?_
          obtain ⟨x12, hx12, hf⟩ := bd_some hf
          refine q_Vi C (rc := (RX5, TX5, 42)) (q0 := 0) (ci := 5) (ws' := wM G q st) (wr := []) (c_X5_is hx12) gX5_tree_X5_is rfl ⟨rfl, rfl⟩ hdX5_is ⟨Nat.le_trans (Nat.le_of_ble_eq_true rfl) (rmT1_f d), Nat.le_trans (Nat.le_of_ble_eq_true rfl) (rmT1_l d)⟩ rfl hP (dd_M hD) hS rfl rfl (List.Perm.refl _) (List.Perm.refl _) hl.1 (Nat.le_of_ble_eq_true rfl) ⟨Nat.zero_le _, Nat.zero_le _⟩ rfl dX5_tree_87 (fun H locs hP hS => ?_)
          refine lv_if_eq (tgt := 100) hx hb dX5_tree_90 (by decide) (fun c13 => ?_) (fun c13 => ?_)
          · have hf := if_t c13 hf
            refine lv_aload_n hx hb dX5_tree_100 rfl (lv_at hl 0 rfl) ?_
            refine lv_iconst (v := 1) hx hb dX5_tree_101 (by decide) ?_
            obtain ⟨x14, hx14, hf⟩ := bd_some hf
            refine q_Vi C (rc := (RX5, TX5, 42)) (q0 := 0) (ci := 5) (ws' := wM G q x14.2) (wr := []) (c_X5_bad hx14) gX5_tree_X5_bad rfl ⟨rfl, rfl⟩ hdX5_bad ⟨Nat.le_trans (Nat.le_of_ble_eq_true rfl) (rmT1_f d), Nat.le_trans (Nat.le_of_ble_eq_true rfl) (rmT1_l d)⟩ rfl hP (dd_M hD) hS rfl rfl (List.Perm.refl _) (List.Perm.refl _) hl.1 (Nat.le_of_ble_eq_true rfl) ⟨Nat.zero_le _, Nat.zero_le _⟩ rfl dX5_tree_102 (fun H locs hP hS => ?_)
            obtain ⟨hb9, hf⟩ := gb_some hf
            obtain rfl := Option.some.inj hf
            exact q_zret C hP hS rfl (gb_nar hb9) dX5_tree_105
          · have hf := if_f c13 hf
            refine lv_aload_n hx hb dX5_tree_93 rfl (lv_at hl 0 rfl) ?_
            obtain ⟨x15, hx15, hf⟩ := bd_some hf
            refine q_Vi C (rc := (RX5, TX5, 42)) (q0 := 0) (ci := 5) (ws' := wM G q x15.2) (wr := []) (c_X5_list hx15) gX5_tree_X5_list rfl ⟨rfl, rfl⟩ hdX5_list ⟨Nat.le_trans (Nat.le_of_ble_eq_true rfl) (rmT1_f d), Nat.le_trans (Nat.le_of_ble_eq_true rfl) (rmT1_l d)⟩ rfl hP (dd_M hD) hS rfl rfl (List.Perm.refl _) (List.Perm.refl _) hl.1 (Nat.le_of_ble_eq_true rfl) ⟨Nat.zero_le _, Nat.zero_le _⟩ rfl dX5_tree_94 (fun H locs hP hS => ?_)
            refine lv_goto (tgt := 105) hx hb dX5_tree_97 (by decide) ?_
            obtain ⟨hb9, hf⟩ := gb_some hf
            obtain rfl := Option.some.inj hf
            exact q_zret C hP hS rfl (gb_nar hb9) dX5_tree_105
        · have hf := if_f c11 hf
          refine lv_aload_n hx hb dX5_tree_79 rfl (lv_at hl 0 rfl) ?_
          obtain ⟨x16, hx16, hf⟩ := bd_some hf
          refine q_Vi C (rc := (RX5, TX5, 42)) (q0 := 0) (ci := 5) (ws' := wM G q x16.2) (wr := []) (c_X5_number hx16) gX5_tree_X5_number rfl ⟨rfl, rfl⟩ hdX5_number ⟨Nat.le_trans (Nat.le_of_ble_eq_true rfl) (rmT1_f d), Nat.le_trans (Nat.le_of_ble_eq_true rfl) (rmT1_l d)⟩ rfl hP (dd_M hD) hS rfl rfl (List.Perm.refl _) (List.Perm.refl _) hl.1 (Nat.le_of_ble_eq_true rfl) ⟨Nat.zero_le _, Nat.zero_le _⟩ rfl dX5_tree_80 (fun H locs hP hS => ?_)
          obtain ⟨hb9, hf⟩ := gb_some hf
          obtain rfl := Option.some.inj hf
          exact q_zret C hP hS rfl (gb_nar hb9) dX5_tree_83
      · have hf := if_f c9 hf
        refine lv_aload_n hx hb dX5_tree_62 rfl (lv_at hl 0 rfl) ?_
        refine lv_iconst (v := 2) hx hb dX5_tree_63 (by decide) ?_
        refine lv_bipush (v := 93) hx hb dX5_tree_64 (by decide) ?_
        obtain ⟨x17, hx17, hf⟩ := bd_some hf
        refine q_Vi C (rc := (RX5, TX5, 42)) (q0 := 0) (ci := 5) (ws' := wM G q x17.2) (wr := []) (c_X5_node hrt hx17) gX5_tree_X5_node rfl ⟨rfl, rfl⟩ hdX5_node ⟨rmTN_f d, rmTN_l d⟩ rfl hP (dd_M hD) hS rfl rfl (List.Perm.refl _) (List.Perm.refl _) hl.1 (Nat.le_of_ble_eq_true rfl) ⟨Nat.zero_le _, Nat.zero_le _⟩ rfl dX5_tree_66 (fun H locs hP hS => ?_)
        obtain ⟨hb9, hf⟩ := gb_some hf
        obtain rfl := Option.some.inj hf
        exact q_zret C hP hS rfl (gb_nar hb9) dX5_tree_69
    · have hf := if_f c7 hf
      refine lv_aload_n hx hb dX5_tree_45 rfl (lv_at hl 0 rfl) ?_
      refine lv_iconst (v := 1) hx hb dX5_tree_46 (by decide) ?_
      refine lv_bipush (v := 41) hx hb dX5_tree_47 (by decide) ?_
      obtain ⟨x18, hx18, hf⟩ := bd_some hf
      refine q_Vi C (rc := (RX5, TX5, 42)) (q0 := 0) (ci := 5) (ws' := wM G q x18.2) (wr := []) (c_X5_node hrt hx18) gX5_tree_X5_node rfl ⟨rfl, rfl⟩ hdX5_node ⟨rmTN_f d, rmTN_l d⟩ rfl hP (dd_M hD) hS rfl rfl (List.Perm.refl _) (List.Perm.refl _) hl.1 (Nat.le_of_ble_eq_true rfl) ⟨Nat.zero_le _, Nat.zero_le _⟩ rfl dX5_tree_49 (fun H locs hP hS => ?_)
      obtain ⟨hb9, hf⟩ := gb_some hf
      obtain rfl := Option.some.inj hf
      exact q_zret C hP hS rfl (gb_nar hb9) dX5_tree_52
  · have hf := if_f c5 hf
    refine lv_aload_n hx hb dX5_tree_31 rfl (lv_at hl 0 rfl) ?_
    obtain ⟨x19, hx19, hf⟩ := bd_some hf
    refine q_Vi C (rc := (RX5, TX5, 42)) (q0 := 0) (ci := 5) (ws' := wM G q x19.2) (wr := []) (c_X5_eraser hx19) gX5_tree_X5_eraser rfl ⟨rfl, rfl⟩ hdX5_eraser ⟨Nat.le_trans (Nat.le_of_ble_eq_true rfl) (rmT1_f d), Nat.le_trans (Nat.le_of_ble_eq_true rfl) (rmT1_l d)⟩ rfl hP (dd_M hD) hS rfl rfl (List.Perm.refl _) (List.Perm.refl _) hl.1 (Nat.le_of_ble_eq_true rfl) ⟨Nat.zero_le _, Nat.zero_le _⟩ rfl dX5_tree_32 (fun H locs hP hS => ?_)
    obtain ⟨hb9, hf⟩ := gb_some hf
    obtain rfl := Option.some.inj hf
    exact q_zret C hP hS rfl (gb_nar hb9) dX5_tree_35
set_option maxHeartbeats 4000000 in
set_option maxRecDepth 100000 in
theorem c_X5_treeB {l : Launch} {G : Gx} {d : Nat} {rt : OSt → Option (Int32 × OSt)} {q : Nat → Nat} (hrt : ∀ {st : OSt} {x : Int32 × OSt}, rt st = some x → QM l G yX5_tree wsX5_tree (rmT d) [.ref (q 42)] (wM G q st) (wM G q x.2) (some (.int x.1))) {st : OSt}  {x : Int32 × OSt} (hf : m_treeB rt st = some x) : QM l G yX5_tree wsX5_tree (rmT (d + 1)) [.ref (q 42)] (wM G q st) (wM G q x.2) (some (.int x.1)) := by
  refine QM.of (cc := cX5_tree) (maxL := 1) (ret := (some .boolean)) (by decide) rfl (Nat.le_of_ble_eq_true rfl) ?_
  intro p e s m below meth c A ls C hD hP hS hl
  have hx := C.1
  have hb := C.2.1
  have hl : lv_has ls 1 [(0, .ref (q 42))] := hl
  unfold m_treeB at hf
  refine lv_aload_n hx hb dX5_tree_0 rfl (lv_at hl 0 rfl) ?_
  refine q_get C hP wM_o rfl hiX5_tree_X5 7 (by decide) wdX5_tree_1 rfl dX5_tree_1 ?_
  refine lv_iconst (v := 1) hx hb dX5_tree_4 (by decide) ?_
  refine lv_icmp_ne (tgt := 22) hx hb dX5_tree_5 (by decide) (fun c1 => ?_) (fun c1 => ?_)
  · have hf := if_f c1 hf
    exact t_X5_tree_22 hrt C hD hf hP hS (lv_sub hl [0] rfl)
  · have hf := if_t c1 hf
    refine lv_aload_n hx hb dX5_tree_8 rfl (lv_at hl 0 rfl) ?_
    refine q_get C hP wM_o rfl hiX5_tree_X5 9 (by decide) wdX5_tree_2 rfl dX5_tree_9 ?_
    refine lv_ldc (v := 441892441) hx hb C.2.2.2.1 (C.2.2.2.2.1 _ wdX5_tree_3) dX5_tree_12 ?_
    refine lv_icmp_eq (tgt := 22) hx hb dX5_tree_14 (by decide) (fun c2 => ?_) (fun c2 => ?_)
    · have hf := if_t c2 hf
      exact t_X5_tree_22 hrt C hD hf hP hS (lv_sub hl [0] rfl)
    · have hf := if_f c2 hf
      refine lv_aload_n hx hb dX5_tree_17 rfl (lv_at hl 0 rfl) ?_
      obtain ⟨x3, hx3, hf⟩ := bd_some hf
      refine q_Vi C (rc := (RX5, TX5, 42)) (q0 := 0) (ci := 5) (ws' := wM G q x3.2) (wr := []) (c_X5_name hx3) gX5_tree_X5_name rfl ⟨rfl, rfl⟩ hdX5_name ⟨Nat.le_trans (Nat.le_of_ble_eq_true rfl) (rmT1_f d), Nat.le_trans (Nat.le_of_ble_eq_true rfl) (rmT1_l d)⟩ rfl hP (dd_M hD) hS rfl rfl (List.Perm.refl _) (List.Perm.refl _) hl.1 (Nat.le_of_ble_eq_true rfl) ⟨Nat.zero_le _, Nat.zero_le _⟩ rfl dX5_tree_18 (fun H locs hP hS => ?_)
      obtain ⟨hb9, hf⟩ := gb_some hf
      obtain rfl := Option.some.inj hf
      exact q_zret C hP hS rfl (gb_nar hb9) dX5_tree_21
def m_tree : Nat → OSt → Option (Int32 × OSt)
  | 0, _ => none
  | d + 1, st => m_treeB (m_tree d) st
theorem c_X5_tree {l : Launch} {G : Gx} {q : Nat → Nat} : ∀ {d : Nat} {st : OSt} {x : Int32 × OSt}, m_tree d st = some x → QM l G yX5_tree wsX5_tree (rmT d) [.ref (q 42)] (wM G q st) (wM G q x.2) (some (.int x.1)) := by
  intro d
  induction d with
  | zero => intro st x hf; cases hf
  | succ d ih => intro st x hf; exact c_X5_treeB (fun h => ih h) hf
theorem hiX5_line_X5 : ∀ w ∈ u_ws RX5 TX5 42, w ∈ wsX5_line := mem_run (i := 97) (by decide +kernel)
theorem wdX5_line_1 : (Cond.fieldLink RX5 149 "CombinatorRingModel" "end" "I") ∈ wsX5_line := List.mem_of_getElem? (i := 1) rfl
def m_line (st : OSt)  : Option (Int32 × OSt) := bd (m_tree 25 st) fun x1 => if x1.1 = 0 then some (0, x1.2) else bd (m_sign x1.2 126) fun x3 => if x3.1 = 0 then some (0, x3.2) else bd (m_tree 25 x3.2) fun x5 => if x5.1 = 0 then some (0, x5.2) else bd (m_ties x5.2 (x1.2.1 16) (x5.2.1 16)) fun x7 => bd (m_sign x7 59) fun x8 => gb x8.1 (some (x8.1, x8.2))
abbrev rmX5_line : Room := { frames := 57, cells := 0, slots := 0, locals := 2638 }
theorem hdX5_line : yX5_line.cls = RX5 ∧ yX5_line.cls ≠ "java/lang/invoke/MethodHandle" ∧ yX5_line.cls ≠ "java/lang/invoke/VarHandle" ∧ (parseMethodDescriptor yX5_line.desc).map (fun d => d.parameters.length) = some 0 := by decide +kernel
set_option maxHeartbeats 4000000 in
set_option maxRecDepth 100000 in
theorem c_X5_line {l : Launch} {G : Gx} {q : Nat → Nat} {st : OSt}  {x : Int32 × OSt} (hf : m_line st = some x) : QM l G yX5_line wsX5_line rmX5_line [.ref (q 42)] (wM G q st) (wM G q x.2) (some (.int x.1)) := by
  refine QM.of (cc := cX5_line) (maxL := 2) (ret := (some .boolean)) (by decide) rfl (Nat.le_of_ble_eq_true rfl) ?_
  intro p e s m below meth c A ls C hD hP hS hl
  have hx := C.1
  have hb := C.2.1
  have hl : lv_has ls 2 [(0, .ref (q 42))] := hl
  unfold m_line at hf
  refine lv_aload_n hx hb dX5_line_0 rfl (lv_at hl 0 rfl) ?_
  obtain ⟨x1, hx1, hf⟩ := bd_some hf
  refine q_Vi C (rc := (RX5, TX5, 42)) (q0 := 0) (ci := 5) (ws' := wM G q x1.2) (wr := []) (c_X5_tree hx1) gX5_line_X5_tree rfl ⟨rfl, rfl⟩ hdX5_tree ⟨(Nat.le_of_ble_eq_true rfl), (Nat.le_of_ble_eq_true rfl)⟩ rfl hP (dd_M hD) hS rfl rfl (List.Perm.refl _) (List.Perm.refl _) hl.1 (Nat.le_of_ble_eq_true rfl) ⟨Nat.zero_le _, Nat.zero_le _⟩ rfl dX5_line_1 (fun H locs hP hS => ?_)
  refine lv_if_ne (tgt := 9) hx hb dX5_line_4 (by decide) (fun c2 => ?_) (fun c2 => ?_)
  · have hf := if_f c2 hf
    refine lv_aload_n hx hb dX5_line_9 rfl (lv_at hl 0 rfl) ?_
    refine q_get C hP wM_o rfl hiX5_line_X5 16 (by decide) wdX5_line_1 rfl dX5_line_10 ?_
    refine lv_istore_n (lv' := [(1, .int (x1.2.1 16)), (0, .ref (q 42))]) hx hb dX5_line_13 rfl hl (by decide) rfl (fun ls hl => ?_)
    refine lv_aload_n hx hb dX5_line_14 rfl (lv_at hl 1 rfl) ?_
    refine lv_bipush (v := 126) hx hb dX5_line_15 (by decide) ?_
    obtain ⟨x3, hx3, hf⟩ := bd_some hf
    refine q_Vi C (rc := (RX5, TX5, 42)) (q0 := 0) (ci := 5) (ws' := wM G q x3.2) (wr := []) (c_X5_sign hx3) gX5_line_X5_sign rfl ⟨rfl, rfl⟩ hdX5_sign ⟨(Nat.le_of_ble_eq_true rfl), (Nat.le_of_ble_eq_true rfl)⟩ rfl hP (dd_M hD) hS rfl rfl (List.Perm.refl _) (List.Perm.refl _) hl.1 (Nat.le_of_ble_eq_true rfl) ⟨Nat.zero_le _, Nat.zero_le _⟩ rfl dX5_line_17 (fun H locs hP hS => ?_)
    refine lv_if_eq (tgt := 30) hx hb dX5_line_20 (by decide) (fun c4 => ?_) (fun c4 => ?_)
    · have hf := if_t c4 hf
      refine lv_iconst (v := 0) hx hb dX5_line_30 (by decide) ?_
      obtain rfl := Option.some.inj hf
      exact q_zret C hP hS rfl (gb_nar (Or.inl rfl)) dX5_line_31
    · have hf := if_f c4 hf
      refine lv_aload_n hx hb dX5_line_23 rfl (lv_at hl 1 rfl) ?_
      obtain ⟨x5, hx5, hf⟩ := bd_some hf
      refine q_Vi C (rc := (RX5, TX5, 42)) (q0 := 0) (ci := 5) (ws' := wM G q x5.2) (wr := []) (c_X5_tree hx5) gX5_line_X5_tree rfl ⟨rfl, rfl⟩ hdX5_tree ⟨(Nat.le_of_ble_eq_true rfl), (Nat.le_of_ble_eq_true rfl)⟩ rfl hP (dd_M hD) hS rfl rfl (List.Perm.refl _) (List.Perm.refl _) hl.1 (Nat.le_of_ble_eq_true rfl) ⟨Nat.zero_le _, Nat.zero_le _⟩ rfl dX5_line_24 (fun H locs hP hS => ?_)
      refine lv_if_ne (tgt := 32) hx hb dX5_line_27 (by decide) (fun c6 => ?_) (fun c6 => ?_)
      · have hf := if_f c6 hf
        refine lv_aload_n hx hb dX5_line_32 rfl (lv_at hl 1 rfl) ?_
        refine lv_iload_n hx hb dX5_line_33 rfl (lv_at hl 0 rfl) ?_
        refine lv_aload_n hx hb dX5_line_34 rfl (lv_at hl 1 rfl) ?_
        refine q_get C hP wM_o rfl hiX5_line_X5 16 (by decide) wdX5_line_1 rfl dX5_line_35 ?_
        obtain ⟨x7, hx7, hf⟩ := bd_some hf
        refine q_Vv C (rc := (RX5, TX5, 42)) (q0 := 0) (ci := 5) (ws' := wM G q x7) (wr := []) (c_X5_ties hx7) gX5_line_X5_ties rfl ⟨rfl, rfl⟩ hdX5_ties ⟨(Nat.le_of_ble_eq_true rfl), (Nat.le_of_ble_eq_true rfl)⟩ rfl hP (dd_M hD) hS rfl rfl (List.Perm.refl _) (List.Perm.refl _) hl.1 (Nat.le_of_ble_eq_true rfl) ⟨Nat.zero_le _, Nat.zero_le _⟩ rfl dX5_line_38 (fun H locs hP hS => ?_)
        refine lv_aload_n hx hb dX5_line_41 rfl (lv_at hl 1 rfl) ?_
        refine lv_bipush (v := 59) hx hb dX5_line_42 (by decide) ?_
        obtain ⟨x8, hx8, hf⟩ := bd_some hf
        refine q_Vi C (rc := (RX5, TX5, 42)) (q0 := 0) (ci := 5) (ws' := wM G q x8.2) (wr := []) (c_X5_sign hx8) gX5_line_X5_sign rfl ⟨rfl, rfl⟩ hdX5_sign ⟨(Nat.le_of_ble_eq_true rfl), (Nat.le_of_ble_eq_true rfl)⟩ rfl hP (dd_M hD) hS rfl rfl (List.Perm.refl _) (List.Perm.refl _) hl.1 (Nat.le_of_ble_eq_true rfl) ⟨Nat.zero_le _, Nat.zero_le _⟩ rfl dX5_line_44 (fun H locs hP hS => ?_)
        obtain ⟨hb9, hf⟩ := gb_some hf
        obtain rfl := Option.some.inj hf
        exact q_zret C hP hS rfl (gb_nar hb9) dX5_line_47
      · have hf := if_t c6 hf
        refine lv_iconst (v := 0) hx hb dX5_line_30 (by decide) ?_
        obtain rfl := Option.some.inj hf
        exact q_zret C hP hS rfl (gb_nar (Or.inl rfl)) dX5_line_31
  · have hf := if_t c2 hf
    refine lv_iconst (v := 0) hx hb dX5_line_7 (by decide) ?_
    obtain rfl := Option.some.inj hf
    exact q_zret C hP hS rfl (gb_nar (Or.inl rfl)) dX5_line_8
theorem hiX5_net_X5 : ∀ w ∈ u_ws RX5 TX5 42, w ∈ wsX5_net := mem_run (i := 130) (by decide +kernel)
theorem wdX5_net_2 : (Cond.fieldLink RX5 93 "CombinatorRingModel" "taped" "I") ∈ wsX5_net := List.mem_of_getElem? (i := 2) rfl
theorem wdX5_net_8 : (Cond.fieldLink RX5 7 "CombinatorRingModel" "now" "[I") ∈ wsX5_net := List.mem_of_getElem? (i := 8) rfl
theorem wdX5_net_9 : (Cond.fieldLink RX5 37 "CombinatorRingModel" "saved" "[I") ∈ wsX5_net := List.mem_of_getElem? (i := 9) rfl
theorem wdX5_net_10 : (Cond.fieldLink RX5 118 "CombinatorRingModel" "token" "I") ∈ wsX5_net := List.mem_of_getElem? (i := 10) rfl
theorem wdX5_net_11 : (Cond.fieldLink RX5 115 "CombinatorRingModel" "word" "I") ∈ wsX5_net := List.mem_of_getElem? (i := 11) rfl
theorem wdX5_net_12 : (Cond.constant RX5 121 (441892441)) ∈ wsX5_net := List.mem_of_getElem? (i := 12) rfl
theorem wdX5_net_7 : (Cond.fieldLink RX5 158 "CombinatorRingModel" "deep" "I") ∈ wsX5_net := List.mem_of_getElem? (i := 7) rfl
theorem wdX5_net_6 : (Cond.fieldLink RX5 142 "CombinatorRingModel" "nameMany" "I") ∈ wsX5_net := List.mem_of_getElem? (i := 6) rfl
theorem wdX5_net_5 : (Cond.fieldLink RX5 126 "CombinatorRingModel" "fault" "I") ∈ wsX5_net := List.mem_of_getElem? (i := 5) rfl
theorem wdX5_net_4 : (Cond.fieldLink RX5 102 "CombinatorRingModel" "next" "I") ∈ wsX5_net := List.mem_of_getElem? (i := 4) rfl
theorem wdX5_net_3 : (Cond.fieldLink RX5 99 "CombinatorRingModel" "size" "I") ∈ wsX5_net := List.mem_of_getElem? (i := 3) rfl
theorem wdX5_net_1 : (Cond.fieldLink RX5 1 "CombinatorRingModel" "thrown" "I") ∈ wsX5_net := List.mem_of_getElem? (i := 1) rfl
theorem wdX5_net_14 : (Cond.fieldLink RX5 79 "CombinatorRingModel" "hasImage" "[Z") ∈ wsX5_net := List.mem_of_getElem? (i := 14) rfl
theorem wdX5_net_13 : (Cond.fieldLink RX5 212 "CombinatorRingModel" "backMany" "I") ∈ wsX5_net := List.mem_of_getElem? (i := 13) rfl
def m_net_103 : Nat → OSt → Int32 → Option (OSt × Int32)
  | 0, _, _ => none
  | n + 1, st, v2 => if v2 = 0 then some (st, v2) else if (st.1 7) = 0 then some (st, v2) else bd (m_line st) fun x20 => m_net_103 n x20.2 x20.1
def m_net_138 (st : OSt) (k0 : Int32) : Option (Int32 × OSt) := if k0 = 0 then bd (m_copies 1646 (st.2 19) 1646 (st.2 1) 0 0) fun x29 => some (((-2) - ((sA st 1 x29).1 10)), (sA st 1 x29)) else bd (m_joinsWires st) fun x25 => nm (sI x25 37 0) fun s26 => nm (sA s26 40 (upd (s26.2 40) 0 (vp_nar .boolean (0)))) fun s27 => nm (sA s27 40 (upd (s27.2 40) 1 (vp_nar .boolean (0)))) fun s28 => some ((s28.2 1 1), s28)
def m_net_137 (st : OSt) : Option (Int32 × OSt) := m_net_138 st 0
def m_net_122 (st : OSt) (v2 : Int32) : Option (Int32 × OSt) := if v2 = 0 then m_net_137 st else bd (m_rootsAll st) fun x22 => if x22.1 = 0 then m_net_137 x22.2 else m_net_138 x22.2 1
def m_net_102 (st : OSt) (k0 : Int32) : Option (Int32 × OSt) := bd (m_net_103 20000 st k0) fun x17 => m_net_122 x17.1 x17.2
def m_net_97 (st : OSt) : Option (Int32 × OSt) := m_net_102 st 1
def m_net (st : OSt) (a1 : Int32) : Option (Int32 × OSt) := nm (sI st 0 0) fun s1 => bd (m_within a1 0 (s1.1 3)) fun x2 => if x2 = 0 then some ((-1), s1) else nm (sI s1 4 a1) fun s4 => nm (sI s4 3 0) fun s5 => nm (sI s5 6 0) fun s6 => nm (sI s6 10 0) fun s7 => nm (sI s7 11 0) fun s8 => nm (sI s8 15 0) fun s9 => bd (m_copies 1646 (s9.2 1) 1646 (s9.2 19) 0 0) fun x10 => bd (m_empties (sA s9 19 x10) 200) fun x11 => bd (m_go x11) fun x12 => if (x12.1 7) = 1 then if (x12.1 9) = 441892441 then bd (m_memoryLine x12) fun x15 => if x15.1 = 0 then m_net_102 x15.2 0 else m_net_97 x15.2 else m_net_97 x12 else m_net_97 x12
abbrev rmX5_net : Room := { frames := 58, cells := 0, slots := 0, locals := 2659 }
theorem hdX5_net : yX5_net.cls = RX5 ∧ yX5_net.cls ≠ "java/lang/invoke/MethodHandle" ∧ yX5_net.cls ≠ "java/lang/invoke/VarHandle" ∧ (parseMethodDescriptor yX5_net.desc).map (fun d => d.parameters.length) = some 1 := by decide +kernel
set_option maxHeartbeats 4000000 in
set_option maxRecDepth 100000 in
theorem t_X5_net_103 {p : Program} {l : Launch} {e : Env} {s : State} {m : MethodId} {args : Array Value} {below : List Frame} {meth : Method} {c : Code} {Q : State → Prop} {A : Nat → Prop} {G : Gx} {q : Nat → Nat} {st0 : OSt} (C : Cx p s m args meth c G cX5_net wsX5_net RX5 (some .int) 3 A) (hD : va_D A (wM G q st0)) :
    ∀ {n : Nat} {st : OSt} {v2 : Int32} {x : OSt × Int32}, m_net_103 n st v2 = some x → ∀ {H : Heap} {locs : List Loc} {ls : Array Slot}, va_P G.1 vwCl (wM G q st) H → va_S A s.heap H locs → lv_has ls 3 [(0, .ref (q 42)), (2, .int v2)] → (∀ {H : Heap} {locs : List Loc} {ls : Array Slot}, va_P G.1 vwCl (wM G q x.1) H → va_S A s.heap H locs → lv_has ls 3 [(0, .ref (q 42)), (2, .int x.2)] → W p l e rmX5_net s m args below meth c H locs 0 0 Q (F0 m 122 ls [])) → W p l e rmX5_net s m args below meth c H locs 0 0 Q (F0 m 103 ls []) := by
  have hx := C.1
  have hb := C.2.1
  intro n
  induction n with
  | zero => intro st v2 x hf; cases hf
  | succ n ih =>
    intro st v2 x hf H locs ls hP hS hl kk
    rw [m_net_103] at hf
    refine lv_iload_n hx hb dX5_net_103 rfl (lv_at hl 1 rfl) ?_
    refine lv_if_eq (tgt := 122) hx hb dX5_net_104 (by decide) (fun c18 => ?_) (fun c18 => ?_)
    · have hf := if_t c18 hf
      obtain rfl := Option.some.inj hf
      exact kk hP hS (lv_sub hl [0, 1] rfl)
    · have hf := if_f c18 hf
      refine lv_aload_n hx hb dX5_net_107 rfl (lv_at hl 0 rfl) ?_
      refine q_get C hP wM_o rfl hiX5_net_X5 7 (by decide) wdX5_net_10 rfl dX5_net_108 ?_
      refine lv_if_eq (tgt := 122) hx hb dX5_net_111 (by decide) (fun c19 => ?_) (fun c19 => ?_)
      · have hf := if_t c19 hf
        obtain rfl := Option.some.inj hf
        exact kk hP hS (lv_sub hl [0, 1] rfl)
      · have hf := if_f c19 hf
        refine lv_aload_n hx hb dX5_net_114 rfl (lv_at hl 0 rfl) ?_
        obtain ⟨x20, hx20, hf⟩ := bd_some hf
        refine q_Vi C (rc := (RX5, TX5, 42)) (q0 := 0) (ci := 5) (ws' := wM G q x20.2) (wr := []) (c_X5_line hx20) gX5_net_X5_line rfl ⟨rfl, rfl⟩ hdX5_line ⟨(Nat.le_of_ble_eq_true rfl), (Nat.le_of_ble_eq_true rfl)⟩ rfl hP (dd_M hD) hS rfl rfl (List.Perm.refl _) (List.Perm.refl _) hl.1 (Nat.le_of_ble_eq_true rfl) ⟨Nat.zero_le _, Nat.zero_le _⟩ rfl dX5_net_115 (fun H locs hP hS => ?_)
        refine lv_istore_n (lv' := [(2, .int x20.1), (0, .ref (q 42))]) hx hb dX5_net_118 rfl hl (by decide) rfl (fun ls hl => ?_)
        refine lv_goto (tgt := 103) hx hb dX5_net_119 (by decide) ?_
        exact ih hf hP hS (lv_sub hl [1, 0] rfl) kk
set_option maxHeartbeats 4000000 in
set_option maxRecDepth 100000 in
theorem t_X5_net_138 {p : Program} {l : Launch} {e : Env} {s : State} {m : MethodId} {args : Array Value} {below : List Frame} {meth : Method} {c : Code} {A : Nat → Prop} {G : Gx} {q : Nat → Nat} {st0 : OSt} (C : Cx p s m args meth c G cX5_net wsX5_net RX5 (some .int) 3 A) (hD : va_D A (wM G q st0)) :
    ∀ {st : OSt} {k0 : Int32} {x : Int32 × OSt}, m_net_138 st k0 = some x → ∀ {H : Heap} {locs : List Loc} {ls : Array Slot}, va_P G.1 vwCl (wM G q st) H → va_S A s.heap H locs → lv_has ls 3 [(0, .ref (q 42))] → W p l e rmX5_net s m args below meth c H locs 0 0 (MQ below (qE G A (wM G q x.2) (some (.int x.1))) args s 0 0 A) (F0 m 138 ls [.int k0]) := by
  have hx := C.1
  have hb := C.2.1
  intro st k0 x hf H locs ls hP hS hl
  unfold m_net_138 at hf
  refine lv_istore_n (lv' := [(2, .int k0), (0, .ref (q 42))]) hx hb dX5_net_138 rfl hl (by decide) rfl (fun ls hl => ?_)
  refine lv_iload_n hx hb dX5_net_139 rfl (lv_at hl 0 rfl) ?_
  refine lv_if_ne (tgt := 164) hx hb dX5_net_140 (by decide) (fun c24 => ?_) (fun c24 => ?_)
  · have hf := if_f c24 hf
    refine lv_aload_n hx hb dX5_net_164 rfl (lv_at hl 1 rfl) ?_
    obtain ⟨x25, hx25, hf⟩ := bd_some hf
    refine q_Vv C (rc := (RX5, TX5, 42)) (q0 := 0) (ci := 5) (ws' := wM G q x25) (wr := []) (c_X5_joinsWires hx25) gX5_net_X5_joinsWires rfl ⟨rfl, rfl⟩ hdX5_joinsWires ⟨(Nat.le_of_ble_eq_true rfl), (Nat.le_of_ble_eq_true rfl)⟩ rfl hP (dd_M hD) hS rfl rfl (List.Perm.refl _) (List.Perm.refl _) hl.1 (Nat.le_of_ble_eq_true rfl) ⟨Nat.zero_le _, Nat.zero_le _⟩ rfl dX5_net_165 (fun H locs hP hS => ?_)
    refine lv_aload_n hx hb dX5_net_168 rfl (lv_at hl 1 rfl) ?_
    refine lv_iconst (v := 0) hx hb dX5_net_169 (by decide) ?_
    obtain ⟨s26, es26, hf⟩ := nm_ex hf
    refine q_put C hP (dd_M hD) hS wM_o rfl hiX5_net_X5 tyX5_ok nmX5 37 (by decide) wdX5_net_13 rfl rfl rfl (Nat.le_of_ble_eq_true rfl) wM_sI_37 dX5_net_170 (fun H locs hP hS => ?_)
    rw [es26] at hP
    refine lv_aload_n hx hb dX5_net_173 rfl (lv_at hl 1 rfl) ?_
    refine q_get C hP wM_o rfl hiX5_net_X5 40 (by decide) wdX5_net_14 rfl dX5_net_174 ?_
    refine lv_iconst (v := 0) hx hb dX5_net_177 (by decide) ?_
    refine lv_iconst (v := 0) hx hb dX5_net_178 (by decide) ?_
    obtain ⟨s27, es27, hf⟩ := nm_ex hf
    refine q_zast C hP (dd_M hD) hS wM_a_40 (j := 0) (by decide) wM_sA_40 (vp_k (j := 0) (by decide) (by decide) (by decide)) dX5_net_179 (fun H locs hP hS => ?_)
    rw [es27] at hP
    refine lv_aload_n hx hb dX5_net_180 rfl (lv_at hl 1 rfl) ?_
    refine q_get C hP wM_o rfl hiX5_net_X5 40 (by decide) wdX5_net_14 rfl dX5_net_181 ?_
    refine lv_iconst (v := 1) hx hb dX5_net_184 (by decide) ?_
    refine lv_iconst (v := 0) hx hb dX5_net_185 (by decide) ?_
    obtain ⟨s28, es28, hf⟩ := nm_ex hf
    refine q_zast C hP (dd_M hD) hS wM_a_40 (j := 1) (by decide) wM_sA_40 (vp_k (j := 1) (by decide) (by decide) (by decide)) dX5_net_186 (fun H locs hP hS => ?_)
    rw [es28] at hP
    refine lv_aload_n hx hb dX5_net_187 rfl (lv_at hl 1 rfl) ?_
    refine q_get C hP wM_o rfl hiX5_net_X5 1 (by decide) wdX5_net_8 rfl dX5_net_188 ?_
    refine lv_iconst (v := 1) hx hb dX5_net_191 (by decide) ?_
    refine q_iald C hP wM_a_1 (j := 1) (by decide) (vp_k (j := 1) (by decide) (by decide) (by decide)) dX5_net_192 ?_
    obtain rfl := Option.some.inj hf
    exact q_iret C hP hS rfl dX5_net_193
  · have hf := if_t c24 hf
    refine lv_aload_n hx hb dX5_net_143 rfl (lv_at hl 1 rfl) ?_
    refine q_get C hP wM_o rfl hiX5_net_X5 19 (by decide) wdX5_net_9 rfl dX5_net_144 ?_
    refine lv_iconst (v := 0) hx hb dX5_net_147 (by decide) ?_
    refine lv_aload_n hx hb dX5_net_148 rfl (lv_at hl 1 rfl) ?_
    refine q_get C hP wM_o rfl hiX5_net_X5 1 (by decide) wdX5_net_8 rfl dX5_net_149 ?_
    refine lv_iconst (v := 0) hx hb dX5_net_152 (by decide) ?_
    obtain ⟨x29, hx29, hf⟩ := bd_some hf
    refine q_Sv C (ws' := wM G q (sA st 1 x29)) (c_X5_copies (da := (q 19)) (ka := 1646) (da2 := (q 1)) (ka2 := 1646) hx29) gX5_net_X5_copies rfl ⟨rfl, rfl⟩ hdX5_copies ⟨(Nat.le_of_ble_eq_true rfl), (Nat.le_of_ble_eq_true rfl)⟩ rfl hP (dd_M hD) hS (pm_M2 (i := 8) (j := 1) rfl rfl (by decide)) (pm_M2' (i := 8) (j := 1) rfl rfl (by decide) rfl) hl.1 (Nat.le_of_ble_eq_true rfl) ⟨Nat.zero_le _, Nat.zero_le _⟩ rfl dX5_net_153 (fun H locs hP hS => ?_)
    refine lv_bipush (v := (-2)) hx hb dX5_net_156 (by decide) ?_
    refine lv_aload_n hx hb dX5_net_158 rfl (lv_at hl 1 rfl) ?_
    refine q_get C hP wM_o rfl hiX5_net_X5 10 (by decide) wdX5_net_5 rfl dX5_net_159 ?_
    refine lv_isub hx hb dX5_net_162 ?_
    obtain rfl := Option.some.inj hf
    exact q_iret C hP hS rfl dX5_net_163
set_option maxHeartbeats 4000000 in
set_option maxRecDepth 100000 in
theorem t_X5_net_137 {p : Program} {l : Launch} {e : Env} {s : State} {m : MethodId} {args : Array Value} {below : List Frame} {meth : Method} {c : Code} {A : Nat → Prop} {G : Gx} {q : Nat → Nat} {st0 : OSt} (C : Cx p s m args meth c G cX5_net wsX5_net RX5 (some .int) 3 A) (hD : va_D A (wM G q st0)) :
    ∀ {st : OSt}  {x : Int32 × OSt}, m_net_137 st = some x → ∀ {H : Heap} {locs : List Loc} {ls : Array Slot}, va_P G.1 vwCl (wM G q st) H → va_S A s.heap H locs → lv_has ls 3 [(0, .ref (q 42))] → W p l e rmX5_net s m args below meth c H locs 0 0 (MQ below (qE G A (wM G q x.2) (some (.int x.1))) args s 0 0 A) (F0 m 137 ls []) := by
  have hx := C.1
  have hb := C.2.1
  intro st x hf H locs ls hP hS hl
  unfold m_net_137 at hf
  refine lv_iconst (v := 0) hx hb dX5_net_137 (by decide) ?_
  exact t_X5_net_138 C hD hf hP hS (lv_sub hl [0] rfl)
set_option maxHeartbeats 4000000 in
set_option maxRecDepth 100000 in
theorem t_X5_net_122 {p : Program} {l : Launch} {e : Env} {s : State} {m : MethodId} {args : Array Value} {below : List Frame} {meth : Method} {c : Code} {A : Nat → Prop} {G : Gx} {q : Nat → Nat} {st0 : OSt} (C : Cx p s m args meth c G cX5_net wsX5_net RX5 (some .int) 3 A) (hD : va_D A (wM G q st0)) :
    ∀ {st : OSt} {v2 : Int32} {x : Int32 × OSt}, m_net_122 st v2 = some x → ∀ {H : Heap} {locs : List Loc} {ls : Array Slot}, va_P G.1 vwCl (wM G q st) H → va_S A s.heap H locs → lv_has ls 3 [(0, .ref (q 42)), (2, .int v2)] → W p l e rmX5_net s m args below meth c H locs 0 0 (MQ below (qE G A (wM G q x.2) (some (.int x.1))) args s 0 0 A) (F0 m 122 ls []) := by
  have hx := C.1
  have hb := C.2.1
  intro st v2 x hf H locs ls hP hS hl
  unfold m_net_122 at hf
  refine lv_iload_n hx hb dX5_net_122 rfl (lv_at hl 1 rfl) ?_
  refine lv_if_eq (tgt := 137) hx hb dX5_net_123 (by decide) (fun c21 => ?_) (fun c21 => ?_)
  · have hf := if_t c21 hf
    exact t_X5_net_137 C hD hf hP hS (lv_sub hl [0] rfl)
  · have hf := if_f c21 hf
    refine lv_aload_n hx hb dX5_net_126 rfl (lv_at hl 0 rfl) ?_
    obtain ⟨x22, hx22, hf⟩ := bd_some hf
    refine q_Vi C (rc := (RX5, TX5, 42)) (q0 := 0) (ci := 5) (ws' := wM G q x22.2) (wr := []) (c_X5_rootsAll hx22) gX5_net_X5_rootsAll rfl ⟨rfl, rfl⟩ hdX5_rootsAll ⟨(Nat.le_of_ble_eq_true rfl), (Nat.le_of_ble_eq_true rfl)⟩ rfl hP (dd_M hD) hS rfl rfl (List.Perm.refl _) (List.Perm.refl _) hl.1 (Nat.le_of_ble_eq_true rfl) ⟨Nat.zero_le _, Nat.zero_le _⟩ rfl dX5_net_127 (fun H locs hP hS => ?_)
    refine lv_if_eq (tgt := 137) hx hb dX5_net_130 (by decide) (fun c23 => ?_) (fun c23 => ?_)
    · have hf := if_t c23 hf
      exact t_X5_net_137 C hD hf hP hS (lv_sub hl [0] rfl)
    · have hf := if_f c23 hf
      refine lv_iconst (v := 1) hx hb dX5_net_133 (by decide) ?_
      refine lv_goto (tgt := 138) hx hb dX5_net_134 (by decide) ?_
      exact t_X5_net_138 C hD hf hP hS (lv_sub hl [0] rfl)
set_option maxHeartbeats 4000000 in
set_option maxRecDepth 100000 in
theorem t_X5_net_102 {p : Program} {l : Launch} {e : Env} {s : State} {m : MethodId} {args : Array Value} {below : List Frame} {meth : Method} {c : Code} {A : Nat → Prop} {G : Gx} {q : Nat → Nat} {st0 : OSt} (C : Cx p s m args meth c G cX5_net wsX5_net RX5 (some .int) 3 A) (hD : va_D A (wM G q st0)) :
    ∀ {st : OSt} {k0 : Int32} {x : Int32 × OSt}, m_net_102 st k0 = some x → ∀ {H : Heap} {locs : List Loc} {ls : Array Slot}, va_P G.1 vwCl (wM G q st) H → va_S A s.heap H locs → lv_has ls 3 [(0, .ref (q 42))] → W p l e rmX5_net s m args below meth c H locs 0 0 (MQ below (qE G A (wM G q x.2) (some (.int x.1))) args s 0 0 A) (F0 m 102 ls [.int k0]) := by
  have hx := C.1
  have hb := C.2.1
  intro st k0 x hf H locs ls hP hS hl
  unfold m_net_102 at hf
  refine lv_istore_n (lv' := [(2, .int k0), (0, .ref (q 42))]) hx hb dX5_net_102 rfl hl (by decide) rfl (fun ls hl => ?_)
  obtain ⟨x17, hx17, hf⟩ := bd_some hf
  refine t_X5_net_103 C hD hx17 hP hS (lv_sub hl [1, 0] rfl) (fun {H locs ls} hP hS hl => ?_)
  exact t_X5_net_122 C hD hf hP hS (lv_sub hl [0, 1] rfl)
set_option maxHeartbeats 4000000 in
set_option maxRecDepth 100000 in
theorem t_X5_net_97 {p : Program} {l : Launch} {e : Env} {s : State} {m : MethodId} {args : Array Value} {below : List Frame} {meth : Method} {c : Code} {A : Nat → Prop} {G : Gx} {q : Nat → Nat} {st0 : OSt} (C : Cx p s m args meth c G cX5_net wsX5_net RX5 (some .int) 3 A) (hD : va_D A (wM G q st0)) :
    ∀ {st : OSt}  {x : Int32 × OSt}, m_net_97 st = some x → ∀ {H : Heap} {locs : List Loc} {ls : Array Slot}, va_P G.1 vwCl (wM G q st) H → va_S A s.heap H locs → lv_has ls 3 [(0, .ref (q 42))] → W p l e rmX5_net s m args below meth c H locs 0 0 (MQ below (qE G A (wM G q x.2) (some (.int x.1))) args s 0 0 A) (F0 m 97 ls []) := by
  have hx := C.1
  have hb := C.2.1
  intro st x hf H locs ls hP hS hl
  unfold m_net_97 at hf
  refine lv_iconst (v := 1) hx hb dX5_net_97 (by decide) ?_
  refine lv_goto (tgt := 102) hx hb dX5_net_98 (by decide) ?_
  exact t_X5_net_102 C hD hf hP hS (lv_sub hl [0] rfl)
set_option maxHeartbeats 4000000 in
set_option maxRecDepth 100000 in
theorem c_X5_net {l : Launch} {G : Gx} {q : Nat → Nat} {st : OSt} {a1 : Int32} {x : Int32 × OSt} (hf : m_net st a1 = some x) : QM l G yX5_net wsX5_net rmX5_net [.ref (q 42), .int a1] (wM G q st) (wM G q x.2) (some (.int x.1)) := by
  refine QM.of (cc := cX5_net) (maxL := 3) (ret := (some .int)) (by decide) rfl (Nat.le_of_ble_eq_true rfl) ?_
  intro p e s m below meth c A ls C hD hP hS hl
  have hx := C.1
  have hb := C.2.1
  have hl : lv_has ls 3 [(0, .ref (q 42)), (1, .int a1)] := hl
  unfold m_net at hf
  refine lv_aload_n hx hb dX5_net_0 rfl (lv_at hl 0 rfl) ?_
  refine lv_iconst (v := 0) hx hb dX5_net_1 (by decide) ?_
  obtain ⟨s1, es1, hf⟩ := nm_ex hf
  refine q_put C hP (dd_M hD) hS wM_o rfl hiX5_net_X5 tyX5_ok nmX5 0 (by decide) wdX5_net_1 rfl rfl rfl (Nat.le_of_ble_eq_true rfl) wM_sI_0 dX5_net_2 (fun H locs hP hS => ?_)
  rw [es1] at hP
  refine lv_iload_n hx hb dX5_net_5 rfl (lv_at hl 1 rfl) ?_
  refine lv_iconst (v := 0) hx hb dX5_net_6 (by decide) ?_
  refine lv_aload_n hx hb dX5_net_7 rfl (lv_at hl 0 rfl) ?_
  refine q_get C hP wM_o rfl hiX5_net_X5 3 (by decide) wdX5_net_2 rfl dX5_net_8 ?_
  obtain ⟨x2, hx2, hf⟩ := bd_some hf
  refine q_Si C (ws' := wM G q s1) (wr := []) (c_X5_within (w := wM G q s1) hx2) gX5_net_X5_within rfl ⟨rfl, rfl⟩ hdX5_within ⟨(Nat.le_of_ble_eq_true rfl), (Nat.le_of_ble_eq_true rfl)⟩ rfl hP (dd_M hD) hS (List.Perm.refl _) (List.Perm.refl _) hl.1 (Nat.le_of_ble_eq_true rfl) ⟨Nat.zero_le _, Nat.zero_le _⟩ rfl dX5_net_11 (fun H locs hP hS => ?_)
  refine lv_if_ne (tgt := 19) hx hb dX5_net_14 (by decide) (fun c3 => ?_) (fun c3 => ?_)
  · have hf := if_f c3 hf
    refine lv_aload_n hx hb dX5_net_19 rfl (lv_at hl 0 rfl) ?_
    refine lv_iload_n hx hb dX5_net_20 rfl (lv_at hl 1 rfl) ?_
    obtain ⟨s4, es4, hf⟩ := nm_ex hf
    refine q_put C hP (dd_M hD) hS wM_o rfl hiX5_net_X5 tyX5_ok nmX5 4 (by decide) wdX5_net_3 rfl rfl rfl (Nat.le_of_ble_eq_true rfl) wM_sI_4 dX5_net_21 (fun H locs hP hS => ?_)
    rw [es4] at hP
    refine lv_aload_n hx hb dX5_net_24 rfl (lv_at hl 0 rfl) ?_
    refine lv_iconst (v := 0) hx hb dX5_net_25 (by decide) ?_
    obtain ⟨s5, es5, hf⟩ := nm_ex hf
    refine q_put C hP (dd_M hD) hS wM_o rfl hiX5_net_X5 tyX5_ok nmX5 3 (by decide) wdX5_net_2 rfl rfl rfl (Nat.le_of_ble_eq_true rfl) wM_sI_3 dX5_net_26 (fun H locs hP hS => ?_)
    rw [es5] at hP
    refine lv_aload_n hx hb dX5_net_29 rfl (lv_at hl 0 rfl) ?_
    refine lv_iconst (v := 0) hx hb dX5_net_30 (by decide) ?_
    obtain ⟨s6, es6, hf⟩ := nm_ex hf
    refine q_put C hP (dd_M hD) hS wM_o rfl hiX5_net_X5 tyX5_ok nmX5 6 (by decide) wdX5_net_4 rfl rfl rfl (Nat.le_of_ble_eq_true rfl) wM_sI_6 dX5_net_31 (fun H locs hP hS => ?_)
    rw [es6] at hP
    refine lv_aload_n hx hb dX5_net_34 rfl (lv_at hl 0 rfl) ?_
    refine lv_iconst (v := 0) hx hb dX5_net_35 (by decide) ?_
    obtain ⟨s7, es7, hf⟩ := nm_ex hf
    refine q_put C hP (dd_M hD) hS wM_o rfl hiX5_net_X5 tyX5_ok nmX5 10 (by decide) wdX5_net_5 rfl rfl rfl (Nat.le_of_ble_eq_true rfl) wM_sI_10 dX5_net_36 (fun H locs hP hS => ?_)
    rw [es7] at hP
    refine lv_aload_n hx hb dX5_net_39 rfl (lv_at hl 0 rfl) ?_
    refine lv_iconst (v := 0) hx hb dX5_net_40 (by decide) ?_
    obtain ⟨s8, es8, hf⟩ := nm_ex hf
    refine q_put C hP (dd_M hD) hS wM_o rfl hiX5_net_X5 tyX5_ok nmX5 11 (by decide) wdX5_net_6 rfl rfl rfl (Nat.le_of_ble_eq_true rfl) wM_sI_11 dX5_net_41 (fun H locs hP hS => ?_)
    rw [es8] at hP
    refine lv_aload_n hx hb dX5_net_44 rfl (lv_at hl 0 rfl) ?_
    refine lv_iconst (v := 0) hx hb dX5_net_45 (by decide) ?_
    obtain ⟨s9, es9, hf⟩ := nm_ex hf
    refine q_put C hP (dd_M hD) hS wM_o rfl hiX5_net_X5 tyX5_ok nmX5 15 (by decide) wdX5_net_7 rfl rfl rfl (Nat.le_of_ble_eq_true rfl) wM_sI_15 dX5_net_46 (fun H locs hP hS => ?_)
    rw [es9] at hP
    refine lv_aload_n hx hb dX5_net_49 rfl (lv_at hl 0 rfl) ?_
    refine q_get C hP wM_o rfl hiX5_net_X5 1 (by decide) wdX5_net_8 rfl dX5_net_50 ?_
    refine lv_iconst (v := 0) hx hb dX5_net_53 (by decide) ?_
    refine lv_aload_n hx hb dX5_net_54 rfl (lv_at hl 0 rfl) ?_
    refine q_get C hP wM_o rfl hiX5_net_X5 19 (by decide) wdX5_net_9 rfl dX5_net_55 ?_
    refine lv_iconst (v := 0) hx hb dX5_net_58 (by decide) ?_
    obtain ⟨x10, hx10, hf⟩ := bd_some hf
    refine q_Sv C (ws' := wM G q (sA s9 19 x10)) (c_X5_copies (da := (q 1)) (ka := 1646) (da2 := (q 19)) (ka2 := 1646) hx10) gX5_net_X5_copies rfl ⟨rfl, rfl⟩ hdX5_copies ⟨(Nat.le_of_ble_eq_true rfl), (Nat.le_of_ble_eq_true rfl)⟩ rfl hP (dd_M hD) hS (pm_M2 (i := 1) (j := 8) rfl rfl (by decide)) (pm_M2' (i := 1) (j := 8) rfl rfl (by decide) rfl) hl.1 (Nat.le_of_ble_eq_true rfl) ⟨Nat.zero_le _, Nat.zero_le _⟩ rfl dX5_net_59 (fun H locs hP hS => ?_)
    refine lv_aload_n hx hb dX5_net_62 rfl (lv_at hl 0 rfl) ?_
    refine lv_sipush (v := 200) hx hb dX5_net_63 (by decide) ?_
    obtain ⟨x11, hx11, hf⟩ := bd_some hf
    refine q_Vv C (rc := (RX5, TX5, 42)) (q0 := 0) (ci := 5) (ws' := wM G q x11) (wr := []) (c_X5_empties hx11) gX5_net_X5_empties rfl ⟨rfl, rfl⟩ hdX5_empties ⟨(Nat.le_of_ble_eq_true rfl), (Nat.le_of_ble_eq_true rfl)⟩ rfl hP (dd_M hD) hS rfl rfl (List.Perm.refl _) (List.Perm.refl _) hl.1 (Nat.le_of_ble_eq_true rfl) ⟨Nat.zero_le _, Nat.zero_le _⟩ rfl dX5_net_66 (fun H locs hP hS => ?_)
    refine lv_aload_n hx hb dX5_net_69 rfl (lv_at hl 0 rfl) ?_
    obtain ⟨x12, hx12, hf⟩ := bd_some hf
    refine q_Vv C (rc := (RX5, TX5, 42)) (q0 := 0) (ci := 5) (ws' := wM G q x12) (wr := []) (c_X5_go hx12) gX5_net_X5_go rfl ⟨rfl, rfl⟩ hdX5_go ⟨(Nat.le_of_ble_eq_true rfl), (Nat.le_of_ble_eq_true rfl)⟩ rfl hP (dd_M hD) hS rfl rfl (List.Perm.refl _) (List.Perm.refl _) hl.1 (Nat.le_of_ble_eq_true rfl) ⟨Nat.zero_le _, Nat.zero_le _⟩ rfl dX5_net_70 (fun H locs hP hS => ?_)
    refine lv_aload_n hx hb dX5_net_73 rfl (lv_at hl 0 rfl) ?_
    refine q_get C hP wM_o rfl hiX5_net_X5 7 (by decide) wdX5_net_10 rfl dX5_net_74 ?_
    refine lv_iconst (v := 1) hx hb dX5_net_77 (by decide) ?_
    refine lv_icmp_ne (tgt := 97) hx hb dX5_net_78 (by decide) (fun c13 => ?_) (fun c13 => ?_)
    · have hf := if_f c13 hf
      exact t_X5_net_97 C hD hf hP hS (lv_sub hl [0] rfl)
    · have hf := if_t c13 hf
      refine lv_aload_n hx hb dX5_net_81 rfl (lv_at hl 0 rfl) ?_
      refine q_get C hP wM_o rfl hiX5_net_X5 9 (by decide) wdX5_net_11 rfl dX5_net_82 ?_
      refine lv_ldc (v := 441892441) hx hb C.2.2.2.1 (C.2.2.2.2.1 _ wdX5_net_12) dX5_net_85 ?_
      refine lv_icmp_ne (tgt := 97) hx hb dX5_net_87 (by decide) (fun c14 => ?_) (fun c14 => ?_)
      · have hf := if_f c14 hf
        exact t_X5_net_97 C hD hf hP hS (lv_sub hl [0] rfl)
      · have hf := if_t c14 hf
        refine lv_aload_n hx hb dX5_net_90 rfl (lv_at hl 0 rfl) ?_
        obtain ⟨x15, hx15, hf⟩ := bd_some hf
        refine q_Vi C (rc := (RX5, TX5, 42)) (q0 := 0) (ci := 5) (ws' := wM G q x15.2) (wr := []) (c_X5_memoryLine hx15) gX5_net_X5_memoryLine rfl ⟨rfl, rfl⟩ hdX5_memoryLine ⟨(Nat.le_of_ble_eq_true rfl), (Nat.le_of_ble_eq_true rfl)⟩ rfl hP (dd_M hD) hS rfl rfl (List.Perm.refl _) (List.Perm.refl _) hl.1 (Nat.le_of_ble_eq_true rfl) ⟨Nat.zero_le _, Nat.zero_le _⟩ rfl dX5_net_91 (fun H locs hP hS => ?_)
        refine lv_if_eq (tgt := 101) hx hb dX5_net_94 (by decide) (fun c16 => ?_) (fun c16 => ?_)
        · have hf := if_t c16 hf
          refine lv_iconst (v := 0) hx hb dX5_net_101 (by decide) ?_
          exact t_X5_net_102 C hD hf hP hS (lv_sub hl [0] rfl)
        · have hf := if_f c16 hf
          exact t_X5_net_97 C hD hf hP hS (lv_sub hl [0] rfl)
  · have hf := if_t c3 hf
    refine lv_iconst (v := (-1)) hx hb dX5_net_17 (by decide) ?_
    obtain rfl := Option.some.inj hf
    exact q_iret C hP hS rfl dX5_net_18
