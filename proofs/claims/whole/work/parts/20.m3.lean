-- X5_reduces
theorem hiX5_reduces_X5 : ∀ w ∈ u_ws RX5 TX5 42, w ∈ wsX5_reduces := mem_run (i := 47) (by decide +kernel)
theorem wdX5_reduces_1 : (Cond.fieldLink RX5 7 "CombinatorRingModel" "now" "[I") ∈ wsX5_reduces := List.mem_of_getElem? (i := 1) rfl
theorem wdX5_reduces_4 : (Cond.fieldLink RX5 46 "CombinatorRingModel" "stands" "[I") ∈ wsX5_reduces := List.mem_of_getElem? (i := 4) rfl
theorem wdX5_reduces_2 : (Cond.fieldLink RX5 40 "CombinatorRingModel" "old" "[I") ∈ wsX5_reduces := List.mem_of_getElem? (i := 2) rfl
theorem wdX5_reduces_3 : (Cond.fieldLink RX5 43 "CombinatorRingModel" "was" "[I") ∈ wsX5_reduces := List.mem_of_getElem? (i := 3) rfl
def m_reduces_94 : Nat → OSt → Int32 → Int32 → Int32 → Int32 → Int32 → Int32 → Option (OSt)
  | 0, _, _, _, _, _, _, _ => none
  | n + 1, st, v1, v2, v3, v5, v6, v7 => if 4 ≤ v7 then some st else if 2 ≤ v7 then gd v7 4 (nm (sA st 20 (upd (st.2 20) v7.toNatClampNeg (((3 * v6) + 1) + (v7 - v7 / 2 * 2)))) fun s41 => gd v7 4 (bd (m_linkOf s41 (s41.2 20 v7.toNatClampNeg)) fun x42 => gd v7 4 (nm (sA s41 21 (upd (s41.2 21) v7.toNatClampNeg x42)) fun s43 => m_reduces_94 n s43 v1 v2 v3 v5 v6 (v7 + 1)))) else gd v7 4 (nm (sA st 20 (upd (st.2 20) v7.toNatClampNeg (((3 * v5) + 1) + (v7 - v7 / 2 * 2)))) fun s44 => gd v7 4 (bd (m_linkOf s44 (s44.2 20 v7.toNatClampNeg)) fun x45 => gd v7 4 (nm (sA s44 21 (upd (s44.2 21) v7.toNatClampNeg x45)) fun s46 => m_reduces_94 n s46 v1 v2 v3 v5 v6 (v7 + 1))))
def m_reduces_89 (st : OSt) (v1 : Int32) (v2 : Int32) (v3 : Int32) (v5 : Int32) (k0 : Int32) : Option (OSt) := bd (m_reduces_94 20000 st v1 v2 v3 v5 k0 0) fun x12 => bd (m_frees x12 v1) fun x13 => bd (m_frees x13 v2) fun x14 => if v3 = 0 then some x14 else if 3 ≤ v3 then if 5 ≤ v3 then bd (m_makes x14 2) fun x18 => bd (m_makes x18.2 2) fun x19 => bd (m_makes x19.2 1) fun x20 => bd (m_makes x20.2 1) fun x21 => nm (sA x21.2 22 (upd (x21.2.2 22) 0 (3 * x18.1))) fun s22 => nm (sA s22 22 (upd (s22.2 22) 1 (3 * x19.1))) fun s23 => nm (sA s23 22 (upd (s23.2 22) 2 (3 * x20.1))) fun s24 => nm (sA s24 22 (upd (s24.2 22) 3 (3 * x21.1))) fun s25 => bd (m_links s25 ((3 * x18.1) + 1) ((3 * x20.1) + 1)) fun x26 => bd (m_links x26 ((3 * x18.1) + 2) ((3 * x21.1) + 1)) fun x27 => bd (m_links x27 ((3 * x19.1) + 1) ((3 * x20.1) + 2)) fun x28 => bd (m_links x28 ((3 * x19.1) + 2) ((3 * x21.1) + 2)) fun x29 => bd (m_hands x29 4) fun x30 => some x30 else nm (sA x14 20 (upd (x14.2 20) 2 (-1))) fun s31 => nm (sA s31 20 (upd (s31.2 20) 3 (-1))) fun s32 => bd (m_makes s32 0) fun x33 => nm (sA x33.2 22 (upd (x33.2.2 22) 0 (3 * x33.1))) fun s34 => bd (m_makes s34 0) fun x35 => nm (sA x35.2 22 (upd (x35.2.2 22) 1 (3 * x35.1))) fun s36 => bd (m_hands s36 2) fun x37 => some x37 else bd (m_strips x14) fun x38 => some x38
def m_reduces_77 (st : OSt) (v1 : Int32) (v2 : Int32) (v3 : Int32) (v4 : Int32) (k0 : Int32) : Option (OSt) := if v4 = 0 then m_reduces_89 st v1 v2 v3 k0 v1 else m_reduces_89 st v1 v2 v3 k0 v2
def m_reduces_65 (st : OSt) (v1 : Int32) (v2 : Int32) (v3 : Int32) (k0 : Int32) : Option (OSt) := if k0 = 0 then m_reduces_77 st v1 v2 v3 k0 v2 else m_reduces_77 st v1 v2 v3 k0 v1
def m_reduces_35 (st : OSt) (v1 : Int32) (v2 : Int32) (v3 : Int32) : Option (OSt) := bd (m_kindOf st v1) fun x8 => if x8 ≤ 0 then m_reduces_65 st v1 v2 v3 0 else m_reduces_65 st v1 v2 v3 1
def m_reduces (st : OSt) (a1 : Int32) : Option (OSt) := bd (m_facing st a1) fun x1 => bd (m_ruleOf st a1) fun x2 => gd (8 + x2) 1646 (gd (8 + x2) 1646 (nm (sA st 1 (upd (st.2 1) (8 + x2).toNatClampNeg ((st.2 1 (8 + x2).toNatClampNeg) + 1))) fun s3 => if x2 = 3 then m_reduces_35 s3 a1 x1 x2 else if x2 = 4 then m_reduces_35 s3 a1 x1 x2 else bd (m_kindOf s3 a1) fun x6 => if x6 = 1 then m_reduces_65 s3 a1 x1 x2 1 else m_reduces_65 s3 a1 x1 x2 0))
abbrev rmX5_reduces : Room := { frames := 3, cells := 0, slots := 0, locals := 66 }
theorem hdX5_reduces : yX5_reduces.cls = RX5 ∧ yX5_reduces.cls ≠ "java/lang/invoke/MethodHandle" ∧ yX5_reduces.cls ≠ "java/lang/invoke/VarHandle" ∧ (parseMethodDescriptor yX5_reduces.desc).map (fun d => d.parameters.length) = some 1 := by decide +kernel
set_option maxHeartbeats 4000000 in
set_option maxRecDepth 100000 in
theorem t_X5_reduces_94 {p : Program} {l : Launch} {e : Env} {s : State} {m : MethodId} {args : Array Value} {below : List Frame} {meth : Method} {c : Code} {Q : State → Prop} {A : Nat → Prop} {G : Gx} {q : Nat → Nat} {st0 : OSt} (C : Cx p s m args meth c G cX5_reduces wsX5_reduces RX5 none 11 A) (hD : va_D A (wM G q st0)) :
    ∀ {n : Nat} {st : OSt} {v1 : Int32} {v2 : Int32} {v3 : Int32} {v5 : Int32} {v6 : Int32} {v7 : Int32} {x : OSt}, m_reduces_94 n st v1 v2 v3 v5 v6 v7 = some x → ∀ {H : Heap} {locs : List Loc} {ls : Array Slot}, va_P G.1 vwCl (wM G q st) H → va_S A s.heap H locs → lv_has ls 11 [(0, .ref (q 42)), (1, .int v1), (2, .int v2), (3, .int v3), (5, .int v5), (6, .int v6), (7, .int v7)] → (∀ {H : Heap} {locs : List Loc} {ls : Array Slot}, va_P G.1 vwCl (wM G q x) H → va_S A s.heap H locs → lv_has ls 11 [(0, .ref (q 42)), (1, .int v1), (2, .int v2), (3, .int v3)] → W p l e rmX5_reduces s m args below meth c H locs 0 0 Q (F0 m 153 ls [])) → W p l e rmX5_reduces s m args below meth c H locs 0 0 Q (F0 m 94 ls []) := by
  have hx := C.1
  have hb := C.2.1
  intro n
  induction n with
  | zero => intro st v1 v2 v3 v5 v6 v7 x hf; cases hf
  | succ n ih =>
    intro st v1 v2 v3 v5 v6 v7 x hf H locs ls hP hS hl kk
    rw [m_reduces_94] at hf
    refine lv_iload hx hb dX5_reduces_94 (lv_at hl 6 rfl) ?_
    refine lv_iconst (v := 4) hx hb dX5_reduces_96 (by decide) ?_
    refine lv_icmp_ge (tgt := 153) hx hb dX5_reduces_97 (by decide) (fun c39 => ?_) (fun c39 => ?_)
    · have hf := if_t c39 hf
      cases hf
      exact kk hP hS (lv_sub hl [0, 1, 2, 3] rfl)
    · have hf := if_f c39 hf
      refine lv_aload_n hx hb dX5_reduces_100 rfl (lv_at hl 0 rfl) ?_
      refine q_get C hP wM_o rfl hiX5_reduces_X5 20 (by decide) wdX5_reduces_2 rfl dX5_reduces_101 ?_
      refine lv_iload hx hb dX5_reduces_104 (lv_at hl 6 rfl) ?_
      refine lv_iconst (v := 3) hx hb dX5_reduces_106 (by decide) ?_
      refine lv_iload hx hb dX5_reduces_107 (lv_at hl 6 rfl) ?_
      refine lv_iconst (v := 2) hx hb dX5_reduces_109 (by decide) ?_
      refine lv_icmp_ge (tgt := 118) hx hb dX5_reduces_110 (by decide) (fun c40 => ?_) (fun c40 => ?_)
      · have hf := if_t c40 hf
        refine lv_iload hx hb dX5_reduces_118 (lv_at hl 5 rfl) ?_
        refine lv_imul hx hb dX5_reduces_120 ?_
        refine lv_iconst (v := 1) hx hb dX5_reduces_121 (by decide) ?_
        refine lv_iadd hx hb dX5_reduces_122 ?_
        refine lv_iload hx hb dX5_reduces_123 (lv_at hl 6 rfl) ?_
        refine lv_iconst (v := 2) hx hb dX5_reduces_125 (by decide) ?_
        refine lv_irem hx hb dX5_reduces_126 (by decide) ?_
        refine lv_iadd hx hb dX5_reduces_127 ?_
        obtain ⟨hin, hf⟩ := gd_some hf
        obtain ⟨s41, es41, hf⟩ := nm_ex hf
        refine q_iast C hP (dd_M hD) hS wM_a_20 rfl wM_sA_20 hin dX5_reduces_128 (fun H locs hP hS => ?_)
        rw [es41] at hP
        refine lv_aload_n hx hb dX5_reduces_129 rfl (lv_at hl 0 rfl) ?_
        refine q_get C hP wM_o rfl hiX5_reduces_X5 21 (by decide) wdX5_reduces_3 rfl dX5_reduces_130 ?_
        refine lv_iload hx hb dX5_reduces_133 (lv_at hl 6 rfl) ?_
        refine lv_aload_n hx hb dX5_reduces_135 rfl (lv_at hl 0 rfl) ?_
        refine lv_aload_n hx hb dX5_reduces_136 rfl (lv_at hl 0 rfl) ?_
        refine q_get C hP wM_o rfl hiX5_reduces_X5 20 (by decide) wdX5_reduces_2 rfl dX5_reduces_137 ?_
        refine lv_iload hx hb dX5_reduces_140 (lv_at hl 6 rfl) ?_
        obtain ⟨hin, hf⟩ := gd_some hf
        refine q_iald C hP wM_a_20 rfl hin dX5_reduces_142 ?_
        obtain ⟨x42, hx42, hf⟩ := bd_some hf
        refine q_Vi C (rc := (RX5, TX5, 42)) (q0 := 0) (ci := 5) (ws' := wM G q s41) (wr := []) (c_X5_linkOf hx42) gX5_reduces_X5_linkOf rfl ⟨rfl, rfl⟩ hdX5_linkOf ⟨(Nat.le_of_ble_eq_true rfl), (Nat.le_of_ble_eq_true rfl)⟩ rfl hP (dd_M hD) hS rfl rfl (List.Perm.refl _) (List.Perm.refl _) hl.1 (Nat.le_of_ble_eq_true rfl) ⟨Nat.zero_le _, Nat.zero_le _⟩ rfl dX5_reduces_143 (fun H locs hP hS => ?_)
        obtain ⟨hin, hf⟩ := gd_some hf
        obtain ⟨s43, es43, hf⟩ := nm_ex hf
        refine q_iast C hP (dd_M hD) hS wM_a_21 rfl wM_sA_21 hin dX5_reduces_146 (fun H locs hP hS => ?_)
        rw [es43] at hP
        refine lv_iinc (v := (v7 + 1)) (lv' := [(7, .int (v7 + 1)), (0, .ref (q 42)), (1, .int v1), (2, .int v2), (3, .int v3), (5, .int v5), (6, .int v6)]) hx hb dX5_reduces_147 hl (k := 6) rfl rfl (by decide) rfl (fun ls hl => ?_)
        refine lv_goto (tgt := 94) hx hb dX5_reduces_150 (by decide) ?_
        exact ih hf hP hS (lv_sub hl [1, 2, 3, 4, 5, 6, 0] rfl) kk
      · have hf := if_f c40 hf
        refine lv_iload hx hb dX5_reduces_113 (lv_at hl 4 rfl) ?_
        refine lv_goto (tgt := 120) hx hb dX5_reduces_115 (by decide) ?_
        refine lv_imul hx hb dX5_reduces_120 ?_
        refine lv_iconst (v := 1) hx hb dX5_reduces_121 (by decide) ?_
        refine lv_iadd hx hb dX5_reduces_122 ?_
        refine lv_iload hx hb dX5_reduces_123 (lv_at hl 6 rfl) ?_
        refine lv_iconst (v := 2) hx hb dX5_reduces_125 (by decide) ?_
        refine lv_irem hx hb dX5_reduces_126 (by decide) ?_
        refine lv_iadd hx hb dX5_reduces_127 ?_
        obtain ⟨hin, hf⟩ := gd_some hf
        obtain ⟨s44, es44, hf⟩ := nm_ex hf
        refine q_iast C hP (dd_M hD) hS wM_a_20 rfl wM_sA_20 hin dX5_reduces_128 (fun H locs hP hS => ?_)
        rw [es44] at hP
        refine lv_aload_n hx hb dX5_reduces_129 rfl (lv_at hl 0 rfl) ?_
        refine q_get C hP wM_o rfl hiX5_reduces_X5 21 (by decide) wdX5_reduces_3 rfl dX5_reduces_130 ?_
        refine lv_iload hx hb dX5_reduces_133 (lv_at hl 6 rfl) ?_
        refine lv_aload_n hx hb dX5_reduces_135 rfl (lv_at hl 0 rfl) ?_
        refine lv_aload_n hx hb dX5_reduces_136 rfl (lv_at hl 0 rfl) ?_
        refine q_get C hP wM_o rfl hiX5_reduces_X5 20 (by decide) wdX5_reduces_2 rfl dX5_reduces_137 ?_
        refine lv_iload hx hb dX5_reduces_140 (lv_at hl 6 rfl) ?_
        obtain ⟨hin, hf⟩ := gd_some hf
        refine q_iald C hP wM_a_20 rfl hin dX5_reduces_142 ?_
        obtain ⟨x45, hx45, hf⟩ := bd_some hf
        refine q_Vi C (rc := (RX5, TX5, 42)) (q0 := 0) (ci := 5) (ws' := wM G q s44) (wr := []) (c_X5_linkOf hx45) gX5_reduces_X5_linkOf rfl ⟨rfl, rfl⟩ hdX5_linkOf ⟨(Nat.le_of_ble_eq_true rfl), (Nat.le_of_ble_eq_true rfl)⟩ rfl hP (dd_M hD) hS rfl rfl (List.Perm.refl _) (List.Perm.refl _) hl.1 (Nat.le_of_ble_eq_true rfl) ⟨Nat.zero_le _, Nat.zero_le _⟩ rfl dX5_reduces_143 (fun H locs hP hS => ?_)
        obtain ⟨hin, hf⟩ := gd_some hf
        obtain ⟨s46, es46, hf⟩ := nm_ex hf
        refine q_iast C hP (dd_M hD) hS wM_a_21 rfl wM_sA_21 hin dX5_reduces_146 (fun H locs hP hS => ?_)
        rw [es46] at hP
        refine lv_iinc (v := (v7 + 1)) (lv' := [(7, .int (v7 + 1)), (0, .ref (q 42)), (1, .int v1), (2, .int v2), (3, .int v3), (5, .int v5), (6, .int v6)]) hx hb dX5_reduces_147 hl (k := 6) rfl rfl (by decide) rfl (fun ls hl => ?_)
        refine lv_goto (tgt := 94) hx hb dX5_reduces_150 (by decide) ?_
        exact ih hf hP hS (lv_sub hl [1, 2, 3, 4, 5, 6, 0] rfl) kk
set_option maxHeartbeats 4000000 in
set_option maxRecDepth 100000 in
theorem t_X5_reduces_89 {p : Program} {l : Launch} {e : Env} {s : State} {m : MethodId} {args : Array Value} {below : List Frame} {meth : Method} {c : Code} {A : Nat → Prop} {G : Gx} {q : Nat → Nat} {st0 : OSt} (C : Cx p s m args meth c G cX5_reduces wsX5_reduces RX5 none 11 A) (hD : va_D A (wM G q st0)) :
    ∀ {st : OSt} {v1 : Int32} {v2 : Int32} {v3 : Int32} {v5 : Int32} {k0 : Int32} {x : OSt}, m_reduces_89 st v1 v2 v3 v5 k0 = some x → ∀ {H : Heap} {locs : List Loc} {ls : Array Slot}, va_P G.1 vwCl (wM G q st) H → va_S A s.heap H locs → lv_has ls 11 [(0, .ref (q 42)), (1, .int v1), (2, .int v2), (3, .int v3), (5, .int v5)] → W p l e rmX5_reduces s m args below meth c H locs 0 0 (MQ below (qE G A (wM G q x) none) args s 0 0 A) (F0 m 89 ls [.int k0]) := by
  have hx := C.1
  have hb := C.2.1
  intro st v1 v2 v3 v5 k0 x hf H locs ls hP hS hl
  unfold m_reduces_89 at hf
  refine lv_istore (lv' := [(6, .int k0), (0, .ref (q 42)), (1, .int v1), (2, .int v2), (3, .int v3), (5, .int v5)]) hx hb dX5_reduces_89 hl (by decide) rfl (fun ls hl => ?_)
  refine lv_iconst (v := 0) hx hb dX5_reduces_91 (by decide) ?_
  refine lv_istore (lv' := [(7, .int 0), (6, .int k0), (0, .ref (q 42)), (1, .int v1), (2, .int v2), (3, .int v3), (5, .int v5)]) hx hb dX5_reduces_92 hl (by decide) rfl (fun ls hl => ?_)
  obtain ⟨x12, hx12, hf⟩ := bd_some hf
  refine t_X5_reduces_94 C hD hx12 hP hS (lv_sub hl [2, 3, 4, 5, 6, 1, 0] rfl) (fun {H locs ls} hP hS hl => ?_)
  refine lv_aload_n hx hb dX5_reduces_153 rfl (lv_at hl 0 rfl) ?_
  refine lv_iload_n hx hb dX5_reduces_154 rfl (lv_at hl 1 rfl) ?_
  obtain ⟨x13, hx13, hf⟩ := bd_some hf
  refine q_Vv C (rc := (RX5, TX5, 42)) (q0 := 0) (ci := 5) (ws' := wM G q x13) (wr := []) (c_X5_frees hx13) gX5_reduces_X5_frees rfl ⟨rfl, rfl⟩ hdX5_frees ⟨(Nat.le_of_ble_eq_true rfl), (Nat.le_of_ble_eq_true rfl)⟩ rfl hP (dd_M hD) hS rfl rfl (List.Perm.refl _) (List.Perm.refl _) hl.1 (Nat.le_of_ble_eq_true rfl) ⟨Nat.zero_le _, Nat.zero_le _⟩ rfl dX5_reduces_155 (fun H locs hP hS => ?_)
  refine lv_aload_n hx hb dX5_reduces_158 rfl (lv_at hl 0 rfl) ?_
  refine lv_iload_n hx hb dX5_reduces_159 rfl (lv_at hl 2 rfl) ?_
  obtain ⟨x14, hx14, hf⟩ := bd_some hf
  refine q_Vv C (rc := (RX5, TX5, 42)) (q0 := 0) (ci := 5) (ws' := wM G q x14) (wr := []) (c_X5_frees hx14) gX5_reduces_X5_frees rfl ⟨rfl, rfl⟩ hdX5_frees ⟨(Nat.le_of_ble_eq_true rfl), (Nat.le_of_ble_eq_true rfl)⟩ rfl hP (dd_M hD) hS rfl rfl (List.Perm.refl _) (List.Perm.refl _) hl.1 (Nat.le_of_ble_eq_true rfl) ⟨Nat.zero_le _, Nat.zero_le _⟩ rfl dX5_reduces_160 (fun H locs hP hS => ?_)
  refine lv_iload_n hx hb dX5_reduces_163 rfl (lv_at hl 3 rfl) ?_
  refine lv_if_ne (tgt := 168) hx hb dX5_reduces_164 (by decide) (fun c15 => ?_) (fun c15 => ?_)
  · have hf := if_f c15 hf
    refine lv_iload_n hx hb dX5_reduces_168 rfl (lv_at hl 3 rfl) ?_
    refine lv_iconst (v := 3) hx hb dX5_reduces_169 (by decide) ?_
    refine lv_icmp_ge (tgt := 178) hx hb dX5_reduces_170 (by decide) (fun c16 => ?_) (fun c16 => ?_)
    · have hf := if_t c16 hf
      refine lv_iload_n hx hb dX5_reduces_178 rfl (lv_at hl 3 rfl) ?_
      refine lv_iconst (v := 5) hx hb dX5_reduces_179 (by decide) ?_
      refine lv_icmp_ge (tgt := 229) hx hb dX5_reduces_180 (by decide) (fun c17 => ?_) (fun c17 => ?_)
      · have hf := if_t c17 hf
        refine lv_aload_n hx hb dX5_reduces_229 rfl (lv_at hl 0 rfl) ?_
        refine lv_iconst (v := 2) hx hb dX5_reduces_230 (by decide) ?_
        obtain ⟨x18, hx18, hf⟩ := bd_some hf
        refine q_Vi C (rc := (RX5, TX5, 42)) (q0 := 0) (ci := 5) (ws' := wM G q x18.2) (wr := []) (c_X5_makes hx18) gX5_reduces_X5_makes rfl ⟨rfl, rfl⟩ hdX5_makes ⟨(Nat.le_of_ble_eq_true rfl), (Nat.le_of_ble_eq_true rfl)⟩ rfl hP (dd_M hD) hS rfl rfl (List.Perm.refl _) (List.Perm.refl _) hl.1 (Nat.le_of_ble_eq_true rfl) ⟨Nat.zero_le _, Nat.zero_le _⟩ rfl dX5_reduces_231 (fun H locs hP hS => ?_)
        refine lv_istore (lv' := [(7, .int x18.1), (0, .ref (q 42)), (1, .int v1), (2, .int v2), (3, .int v3)]) hx hb dX5_reduces_234 hl (by decide) rfl (fun ls hl => ?_)
        refine lv_aload_n hx hb dX5_reduces_236 rfl (lv_at hl 1 rfl) ?_
        refine lv_iconst (v := 2) hx hb dX5_reduces_237 (by decide) ?_
        obtain ⟨x19, hx19, hf⟩ := bd_some hf
        refine q_Vi C (rc := (RX5, TX5, 42)) (q0 := 0) (ci := 5) (ws' := wM G q x19.2) (wr := []) (c_X5_makes hx19) gX5_reduces_X5_makes rfl ⟨rfl, rfl⟩ hdX5_makes ⟨(Nat.le_of_ble_eq_true rfl), (Nat.le_of_ble_eq_true rfl)⟩ rfl hP (dd_M hD) hS rfl rfl (List.Perm.refl _) (List.Perm.refl _) hl.1 (Nat.le_of_ble_eq_true rfl) ⟨Nat.zero_le _, Nat.zero_le _⟩ rfl dX5_reduces_238 (fun H locs hP hS => ?_)
        refine lv_istore (lv' := [(8, .int x19.1), (7, .int x18.1), (0, .ref (q 42)), (1, .int v1), (2, .int v2), (3, .int v3)]) hx hb dX5_reduces_241 hl (by decide) rfl (fun ls hl => ?_)
        refine lv_aload_n hx hb dX5_reduces_243 rfl (lv_at hl 2 rfl) ?_
        refine lv_iconst (v := 1) hx hb dX5_reduces_244 (by decide) ?_
        obtain ⟨x20, hx20, hf⟩ := bd_some hf
        refine q_Vi C (rc := (RX5, TX5, 42)) (q0 := 0) (ci := 5) (ws' := wM G q x20.2) (wr := []) (c_X5_makes hx20) gX5_reduces_X5_makes rfl ⟨rfl, rfl⟩ hdX5_makes ⟨(Nat.le_of_ble_eq_true rfl), (Nat.le_of_ble_eq_true rfl)⟩ rfl hP (dd_M hD) hS rfl rfl (List.Perm.refl _) (List.Perm.refl _) hl.1 (Nat.le_of_ble_eq_true rfl) ⟨Nat.zero_le _, Nat.zero_le _⟩ rfl dX5_reduces_245 (fun H locs hP hS => ?_)
        refine lv_istore (lv' := [(9, .int x20.1), (8, .int x19.1), (7, .int x18.1), (0, .ref (q 42)), (1, .int v1), (2, .int v2), (3, .int v3)]) hx hb dX5_reduces_248 hl (by decide) rfl (fun ls hl => ?_)
        refine lv_aload_n hx hb dX5_reduces_250 rfl (lv_at hl 3 rfl) ?_
        refine lv_iconst (v := 1) hx hb dX5_reduces_251 (by decide) ?_
        obtain ⟨x21, hx21, hf⟩ := bd_some hf
        refine q_Vi C (rc := (RX5, TX5, 42)) (q0 := 0) (ci := 5) (ws' := wM G q x21.2) (wr := []) (c_X5_makes hx21) gX5_reduces_X5_makes rfl ⟨rfl, rfl⟩ hdX5_makes ⟨(Nat.le_of_ble_eq_true rfl), (Nat.le_of_ble_eq_true rfl)⟩ rfl hP (dd_M hD) hS rfl rfl (List.Perm.refl _) (List.Perm.refl _) hl.1 (Nat.le_of_ble_eq_true rfl) ⟨Nat.zero_le _, Nat.zero_le _⟩ rfl dX5_reduces_252 (fun H locs hP hS => ?_)
        refine lv_istore (lv' := [(10, .int x21.1), (9, .int x20.1), (8, .int x19.1), (7, .int x18.1), (0, .ref (q 42)), (1, .int v1), (2, .int v2), (3, .int v3)]) hx hb dX5_reduces_255 hl (by decide) rfl (fun ls hl => ?_)
        refine lv_aload_n hx hb dX5_reduces_257 rfl (lv_at hl 4 rfl) ?_
        refine q_get C hP wM_o rfl hiX5_reduces_X5 22 (by decide) wdX5_reduces_4 rfl dX5_reduces_258 ?_
        refine lv_iconst (v := 0) hx hb dX5_reduces_261 (by decide) ?_
        refine lv_iconst (v := 3) hx hb dX5_reduces_262 (by decide) ?_
        refine lv_iload hx hb dX5_reduces_263 (lv_at hl 3 rfl) ?_
        refine lv_imul hx hb dX5_reduces_265 ?_
        obtain ⟨s22, es22, hf⟩ := nm_ex hf
        refine q_iast C hP (dd_M hD) hS wM_a_22 (j := 0) (by decide) wM_sA_22 (vp_k (j := 0) (by decide) (by decide) (by decide)) dX5_reduces_266 (fun H locs hP hS => ?_)
        rw [es22] at hP
        refine lv_aload_n hx hb dX5_reduces_267 rfl (lv_at hl 4 rfl) ?_
        refine q_get C hP wM_o rfl hiX5_reduces_X5 22 (by decide) wdX5_reduces_4 rfl dX5_reduces_268 ?_
        refine lv_iconst (v := 1) hx hb dX5_reduces_271 (by decide) ?_
        refine lv_iconst (v := 3) hx hb dX5_reduces_272 (by decide) ?_
        refine lv_iload hx hb dX5_reduces_273 (lv_at hl 2 rfl) ?_
        refine lv_imul hx hb dX5_reduces_275 ?_
        obtain ⟨s23, es23, hf⟩ := nm_ex hf
        refine q_iast C hP (dd_M hD) hS wM_a_22 (j := 1) (by decide) wM_sA_22 (vp_k (j := 1) (by decide) (by decide) (by decide)) dX5_reduces_276 (fun H locs hP hS => ?_)
        rw [es23] at hP
        refine lv_aload_n hx hb dX5_reduces_277 rfl (lv_at hl 4 rfl) ?_
        refine q_get C hP wM_o rfl hiX5_reduces_X5 22 (by decide) wdX5_reduces_4 rfl dX5_reduces_278 ?_
        refine lv_iconst (v := 2) hx hb dX5_reduces_281 (by decide) ?_
        refine lv_iconst (v := 3) hx hb dX5_reduces_282 (by decide) ?_
        refine lv_iload hx hb dX5_reduces_283 (lv_at hl 1 rfl) ?_
        refine lv_imul hx hb dX5_reduces_285 ?_
        obtain ⟨s24, es24, hf⟩ := nm_ex hf
        refine q_iast C hP (dd_M hD) hS wM_a_22 (j := 2) (by decide) wM_sA_22 (vp_k (j := 2) (by decide) (by decide) (by decide)) dX5_reduces_286 (fun H locs hP hS => ?_)
        rw [es24] at hP
        refine lv_aload_n hx hb dX5_reduces_287 rfl (lv_at hl 4 rfl) ?_
        refine q_get C hP wM_o rfl hiX5_reduces_X5 22 (by decide) wdX5_reduces_4 rfl dX5_reduces_288 ?_
        refine lv_iconst (v := 3) hx hb dX5_reduces_291 (by decide) ?_
        refine lv_iconst (v := 3) hx hb dX5_reduces_292 (by decide) ?_
        refine lv_iload hx hb dX5_reduces_293 (lv_at hl 0 rfl) ?_
        refine lv_imul hx hb dX5_reduces_295 ?_
        obtain ⟨s25, es25, hf⟩ := nm_ex hf
        refine q_iast C hP (dd_M hD) hS wM_a_22 (j := 3) (by decide) wM_sA_22 (vp_k (j := 3) (by decide) (by decide) (by decide)) dX5_reduces_296 (fun H locs hP hS => ?_)
        rw [es25] at hP
        refine lv_aload_n hx hb dX5_reduces_297 rfl (lv_at hl 4 rfl) ?_
        refine lv_iconst (v := 3) hx hb dX5_reduces_298 (by decide) ?_
        refine lv_iload hx hb dX5_reduces_299 (lv_at hl 3 rfl) ?_
        refine lv_imul hx hb dX5_reduces_301 ?_
        refine lv_iconst (v := 1) hx hb dX5_reduces_302 (by decide) ?_
        refine lv_iadd hx hb dX5_reduces_303 ?_
        refine lv_iconst (v := 3) hx hb dX5_reduces_304 (by decide) ?_
        refine lv_iload hx hb dX5_reduces_305 (lv_at hl 1 rfl) ?_
        refine lv_imul hx hb dX5_reduces_307 ?_
        refine lv_iconst (v := 1) hx hb dX5_reduces_308 (by decide) ?_
        refine lv_iadd hx hb dX5_reduces_309 ?_
        obtain ⟨x26, hx26, hf⟩ := bd_some hf
        refine q_Vv C (rc := (RX5, TX5, 42)) (q0 := 0) (ci := 5) (ws' := wM G q x26) (wr := []) (c_X5_links hx26) gX5_reduces_X5_links rfl ⟨rfl, rfl⟩ hdX5_links ⟨(Nat.le_of_ble_eq_true rfl), (Nat.le_of_ble_eq_true rfl)⟩ rfl hP (dd_M hD) hS rfl rfl (List.Perm.refl _) (List.Perm.refl _) hl.1 (Nat.le_of_ble_eq_true rfl) ⟨Nat.zero_le _, Nat.zero_le _⟩ rfl dX5_reduces_310 (fun H locs hP hS => ?_)
        refine lv_aload_n hx hb dX5_reduces_313 rfl (lv_at hl 4 rfl) ?_
        refine lv_iconst (v := 3) hx hb dX5_reduces_314 (by decide) ?_
        refine lv_iload hx hb dX5_reduces_315 (lv_at hl 3 rfl) ?_
        refine lv_imul hx hb dX5_reduces_317 ?_
        refine lv_iconst (v := 2) hx hb dX5_reduces_318 (by decide) ?_
        refine lv_iadd hx hb dX5_reduces_319 ?_
        refine lv_iconst (v := 3) hx hb dX5_reduces_320 (by decide) ?_
        refine lv_iload hx hb dX5_reduces_321 (lv_at hl 0 rfl) ?_
        refine lv_imul hx hb dX5_reduces_323 ?_
        refine lv_iconst (v := 1) hx hb dX5_reduces_324 (by decide) ?_
        refine lv_iadd hx hb dX5_reduces_325 ?_
        obtain ⟨x27, hx27, hf⟩ := bd_some hf
        refine q_Vv C (rc := (RX5, TX5, 42)) (q0 := 0) (ci := 5) (ws' := wM G q x27) (wr := []) (c_X5_links hx27) gX5_reduces_X5_links rfl ⟨rfl, rfl⟩ hdX5_links ⟨(Nat.le_of_ble_eq_true rfl), (Nat.le_of_ble_eq_true rfl)⟩ rfl hP (dd_M hD) hS rfl rfl (List.Perm.refl _) (List.Perm.refl _) hl.1 (Nat.le_of_ble_eq_true rfl) ⟨Nat.zero_le _, Nat.zero_le _⟩ rfl dX5_reduces_326 (fun H locs hP hS => ?_)
        refine lv_aload_n hx hb dX5_reduces_329 rfl (lv_at hl 4 rfl) ?_
        refine lv_iconst (v := 3) hx hb dX5_reduces_330 (by decide) ?_
        refine lv_iload hx hb dX5_reduces_331 (lv_at hl 2 rfl) ?_
        refine lv_imul hx hb dX5_reduces_333 ?_
        refine lv_iconst (v := 1) hx hb dX5_reduces_334 (by decide) ?_
        refine lv_iadd hx hb dX5_reduces_335 ?_
        refine lv_iconst (v := 3) hx hb dX5_reduces_336 (by decide) ?_
        refine lv_iload hx hb dX5_reduces_337 (lv_at hl 1 rfl) ?_
        refine lv_imul hx hb dX5_reduces_339 ?_
        refine lv_iconst (v := 2) hx hb dX5_reduces_340 (by decide) ?_
        refine lv_iadd hx hb dX5_reduces_341 ?_
        obtain ⟨x28, hx28, hf⟩ := bd_some hf
        refine q_Vv C (rc := (RX5, TX5, 42)) (q0 := 0) (ci := 5) (ws' := wM G q x28) (wr := []) (c_X5_links hx28) gX5_reduces_X5_links rfl ⟨rfl, rfl⟩ hdX5_links ⟨(Nat.le_of_ble_eq_true rfl), (Nat.le_of_ble_eq_true rfl)⟩ rfl hP (dd_M hD) hS rfl rfl (List.Perm.refl _) (List.Perm.refl _) hl.1 (Nat.le_of_ble_eq_true rfl) ⟨Nat.zero_le _, Nat.zero_le _⟩ rfl dX5_reduces_342 (fun H locs hP hS => ?_)
        refine lv_aload_n hx hb dX5_reduces_345 rfl (lv_at hl 4 rfl) ?_
        refine lv_iconst (v := 3) hx hb dX5_reduces_346 (by decide) ?_
        refine lv_iload hx hb dX5_reduces_347 (lv_at hl 2 rfl) ?_
        refine lv_imul hx hb dX5_reduces_349 ?_
        refine lv_iconst (v := 2) hx hb dX5_reduces_350 (by decide) ?_
        refine lv_iadd hx hb dX5_reduces_351 ?_
        refine lv_iconst (v := 3) hx hb dX5_reduces_352 (by decide) ?_
        refine lv_iload hx hb dX5_reduces_353 (lv_at hl 0 rfl) ?_
        refine lv_imul hx hb dX5_reduces_355 ?_
        refine lv_iconst (v := 2) hx hb dX5_reduces_356 (by decide) ?_
        refine lv_iadd hx hb dX5_reduces_357 ?_
        obtain ⟨x29, hx29, hf⟩ := bd_some hf
        refine q_Vv C (rc := (RX5, TX5, 42)) (q0 := 0) (ci := 5) (ws' := wM G q x29) (wr := []) (c_X5_links hx29) gX5_reduces_X5_links rfl ⟨rfl, rfl⟩ hdX5_links ⟨(Nat.le_of_ble_eq_true rfl), (Nat.le_of_ble_eq_true rfl)⟩ rfl hP (dd_M hD) hS rfl rfl (List.Perm.refl _) (List.Perm.refl _) hl.1 (Nat.le_of_ble_eq_true rfl) ⟨Nat.zero_le _, Nat.zero_le _⟩ rfl dX5_reduces_358 (fun H locs hP hS => ?_)
        refine lv_aload_n hx hb dX5_reduces_361 rfl (lv_at hl 4 rfl) ?_
        refine lv_iconst (v := 4) hx hb dX5_reduces_362 (by decide) ?_
        obtain ⟨x30, hx30, hf⟩ := bd_some hf
        refine q_Vv C (rc := (RX5, TX5, 42)) (q0 := 0) (ci := 5) (ws' := wM G q x30) (wr := []) (c_X5_hands hx30) gX5_reduces_X5_hands rfl ⟨rfl, rfl⟩ hdX5_hands ⟨(Nat.le_of_ble_eq_true rfl), (Nat.le_of_ble_eq_true rfl)⟩ rfl hP (dd_M hD) hS rfl rfl (List.Perm.refl _) (List.Perm.refl _) hl.1 (Nat.le_of_ble_eq_true rfl) ⟨Nat.zero_le _, Nat.zero_le _⟩ rfl dX5_reduces_363 (fun H locs hP hS => ?_)
        cases hf
        exact q_vret C hP hS rfl dX5_reduces_366
      · have hf := if_f c17 hf
        refine lv_aload_n hx hb dX5_reduces_183 rfl (lv_at hl 0 rfl) ?_
        refine q_get C hP wM_o rfl hiX5_reduces_X5 20 (by decide) wdX5_reduces_2 rfl dX5_reduces_184 ?_
        refine lv_iconst (v := 2) hx hb dX5_reduces_187 (by decide) ?_
        refine lv_iconst (v := (-1)) hx hb dX5_reduces_188 (by decide) ?_
        obtain ⟨s31, es31, hf⟩ := nm_ex hf
        refine q_iast C hP (dd_M hD) hS wM_a_20 (j := 2) (by decide) wM_sA_20 (vp_k (j := 2) (by decide) (by decide) (by decide)) dX5_reduces_189 (fun H locs hP hS => ?_)
        rw [es31] at hP
        refine lv_aload_n hx hb dX5_reduces_190 rfl (lv_at hl 0 rfl) ?_
        refine q_get C hP wM_o rfl hiX5_reduces_X5 20 (by decide) wdX5_reduces_2 rfl dX5_reduces_191 ?_
        refine lv_iconst (v := 3) hx hb dX5_reduces_194 (by decide) ?_
        refine lv_iconst (v := (-1)) hx hb dX5_reduces_195 (by decide) ?_
        obtain ⟨s32, es32, hf⟩ := nm_ex hf
        refine q_iast C hP (dd_M hD) hS wM_a_20 (j := 3) (by decide) wM_sA_20 (vp_k (j := 3) (by decide) (by decide) (by decide)) dX5_reduces_196 (fun H locs hP hS => ?_)
        rw [es32] at hP
        refine lv_aload_n hx hb dX5_reduces_197 rfl (lv_at hl 0 rfl) ?_
        refine q_get C hP wM_o rfl hiX5_reduces_X5 22 (by decide) wdX5_reduces_4 rfl dX5_reduces_198 ?_
        refine lv_iconst (v := 0) hx hb dX5_reduces_201 (by decide) ?_
        refine lv_iconst (v := 3) hx hb dX5_reduces_202 (by decide) ?_
        refine lv_aload_n hx hb dX5_reduces_203 rfl (lv_at hl 0 rfl) ?_
        refine lv_iconst (v := 0) hx hb dX5_reduces_204 (by decide) ?_
        obtain ⟨x33, hx33, hf⟩ := bd_some hf
        refine q_Vi C (rc := (RX5, TX5, 42)) (q0 := 0) (ci := 5) (ws' := wM G q x33.2) (wr := []) (c_X5_makes hx33) gX5_reduces_X5_makes rfl ⟨rfl, rfl⟩ hdX5_makes ⟨(Nat.le_of_ble_eq_true rfl), (Nat.le_of_ble_eq_true rfl)⟩ rfl hP (dd_M hD) hS rfl rfl (List.Perm.refl _) (List.Perm.refl _) hl.1 (Nat.le_of_ble_eq_true rfl) ⟨Nat.zero_le _, Nat.zero_le _⟩ rfl dX5_reduces_205 (fun H locs hP hS => ?_)
        refine lv_imul hx hb dX5_reduces_208 ?_
        obtain ⟨s34, es34, hf⟩ := nm_ex hf
        refine q_iast C hP (dd_M hD) hS wM_a_22 (j := 0) (by decide) wM_sA_22 (vp_k (j := 0) (by decide) (by decide) (by decide)) dX5_reduces_209 (fun H locs hP hS => ?_)
        rw [es34] at hP
        refine lv_aload_n hx hb dX5_reduces_210 rfl (lv_at hl 0 rfl) ?_
        refine q_get C hP wM_o rfl hiX5_reduces_X5 22 (by decide) wdX5_reduces_4 rfl dX5_reduces_211 ?_
        refine lv_iconst (v := 1) hx hb dX5_reduces_214 (by decide) ?_
        refine lv_iconst (v := 3) hx hb dX5_reduces_215 (by decide) ?_
        refine lv_aload_n hx hb dX5_reduces_216 rfl (lv_at hl 0 rfl) ?_
        refine lv_iconst (v := 0) hx hb dX5_reduces_217 (by decide) ?_
        obtain ⟨x35, hx35, hf⟩ := bd_some hf
        refine q_Vi C (rc := (RX5, TX5, 42)) (q0 := 0) (ci := 5) (ws' := wM G q x35.2) (wr := []) (c_X5_makes hx35) gX5_reduces_X5_makes rfl ⟨rfl, rfl⟩ hdX5_makes ⟨(Nat.le_of_ble_eq_true rfl), (Nat.le_of_ble_eq_true rfl)⟩ rfl hP (dd_M hD) hS rfl rfl (List.Perm.refl _) (List.Perm.refl _) hl.1 (Nat.le_of_ble_eq_true rfl) ⟨Nat.zero_le _, Nat.zero_le _⟩ rfl dX5_reduces_218 (fun H locs hP hS => ?_)
        refine lv_imul hx hb dX5_reduces_221 ?_
        obtain ⟨s36, es36, hf⟩ := nm_ex hf
        refine q_iast C hP (dd_M hD) hS wM_a_22 (j := 1) (by decide) wM_sA_22 (vp_k (j := 1) (by decide) (by decide) (by decide)) dX5_reduces_222 (fun H locs hP hS => ?_)
        rw [es36] at hP
        refine lv_aload_n hx hb dX5_reduces_223 rfl (lv_at hl 0 rfl) ?_
        refine lv_iconst (v := 2) hx hb dX5_reduces_224 (by decide) ?_
        obtain ⟨x37, hx37, hf⟩ := bd_some hf
        refine q_Vv C (rc := (RX5, TX5, 42)) (q0 := 0) (ci := 5) (ws' := wM G q x37) (wr := []) (c_X5_hands hx37) gX5_reduces_X5_hands rfl ⟨rfl, rfl⟩ hdX5_hands ⟨(Nat.le_of_ble_eq_true rfl), (Nat.le_of_ble_eq_true rfl)⟩ rfl hP (dd_M hD) hS rfl rfl (List.Perm.refl _) (List.Perm.refl _) hl.1 (Nat.le_of_ble_eq_true rfl) ⟨Nat.zero_le _, Nat.zero_le _⟩ rfl dX5_reduces_225 (fun H locs hP hS => ?_)
        cases hf
        exact q_vret C hP hS rfl dX5_reduces_228
    · have hf := if_f c16 hf
      refine lv_aload_n hx hb dX5_reduces_173 rfl (lv_at hl 0 rfl) ?_
      obtain ⟨x38, hx38, hf⟩ := bd_some hf
      refine q_Vv C (rc := (RX5, TX5, 42)) (q0 := 0) (ci := 5) (ws' := wM G q x38) (wr := []) (c_X5_strips hx38) gX5_reduces_X5_strips rfl ⟨rfl, rfl⟩ hdX5_strips ⟨(Nat.le_of_ble_eq_true rfl), (Nat.le_of_ble_eq_true rfl)⟩ rfl hP (dd_M hD) hS rfl rfl (List.Perm.refl _) (List.Perm.refl _) hl.1 (Nat.le_of_ble_eq_true rfl) ⟨Nat.zero_le _, Nat.zero_le _⟩ rfl dX5_reduces_174 (fun H locs hP hS => ?_)
      cases hf
      exact q_vret C hP hS rfl dX5_reduces_177
  · have hf := if_t c15 hf
    cases hf
    exact q_vret C hP hS rfl dX5_reduces_167
set_option maxHeartbeats 4000000 in
set_option maxRecDepth 100000 in
theorem t_X5_reduces_77 {p : Program} {l : Launch} {e : Env} {s : State} {m : MethodId} {args : Array Value} {below : List Frame} {meth : Method} {c : Code} {A : Nat → Prop} {G : Gx} {q : Nat → Nat} {st0 : OSt} (C : Cx p s m args meth c G cX5_reduces wsX5_reduces RX5 none 11 A) (hD : va_D A (wM G q st0)) :
    ∀ {st : OSt} {v1 : Int32} {v2 : Int32} {v3 : Int32} {v4 : Int32} {k0 : Int32} {x : OSt}, m_reduces_77 st v1 v2 v3 v4 k0 = some x → ∀ {H : Heap} {locs : List Loc} {ls : Array Slot}, va_P G.1 vwCl (wM G q st) H → va_S A s.heap H locs → lv_has ls 11 [(0, .ref (q 42)), (1, .int v1), (2, .int v2), (3, .int v3), (4, .int v4)] → W p l e rmX5_reduces s m args below meth c H locs 0 0 (MQ below (qE G A (wM G q x) none) args s 0 0 A) (F0 m 77 ls [.int k0]) := by
  have hx := C.1
  have hb := C.2.1
  intro st v1 v2 v3 v4 k0 x hf H locs ls hP hS hl
  unfold m_reduces_77 at hf
  refine lv_istore (lv' := [(5, .int k0), (0, .ref (q 42)), (1, .int v1), (2, .int v2), (3, .int v3), (4, .int v4)]) hx hb dX5_reduces_77 hl (by decide) rfl (fun ls hl => ?_)
  refine lv_iload hx hb dX5_reduces_79 (lv_at hl 5 rfl) ?_
  refine lv_if_eq (tgt := 88) hx hb dX5_reduces_81 (by decide) (fun c11 => ?_) (fun c11 => ?_)
  · have hf := if_t c11 hf
    refine lv_iload_n hx hb dX5_reduces_88 rfl (lv_at hl 2 rfl) ?_
    exact t_X5_reduces_89 C hD hf hP hS (lv_sub hl [1, 2, 3, 4, 0] rfl)
  · have hf := if_f c11 hf
    refine lv_iload_n hx hb dX5_reduces_84 rfl (lv_at hl 3 rfl) ?_
    refine lv_goto (tgt := 89) hx hb dX5_reduces_85 (by decide) ?_
    exact t_X5_reduces_89 C hD hf hP hS (lv_sub hl [1, 2, 3, 4, 0] rfl)
set_option maxHeartbeats 4000000 in
set_option maxRecDepth 100000 in
theorem t_X5_reduces_65 {p : Program} {l : Launch} {e : Env} {s : State} {m : MethodId} {args : Array Value} {below : List Frame} {meth : Method} {c : Code} {A : Nat → Prop} {G : Gx} {q : Nat → Nat} {st0 : OSt} (C : Cx p s m args meth c G cX5_reduces wsX5_reduces RX5 none 11 A) (hD : va_D A (wM G q st0)) :
    ∀ {st : OSt} {v1 : Int32} {v2 : Int32} {v3 : Int32} {k0 : Int32} {x : OSt}, m_reduces_65 st v1 v2 v3 k0 = some x → ∀ {H : Heap} {locs : List Loc} {ls : Array Slot}, va_P G.1 vwCl (wM G q st) H → va_S A s.heap H locs → lv_has ls 11 [(0, .ref (q 42)), (1, .int v1), (2, .int v2), (3, .int v3)] → W p l e rmX5_reduces s m args below meth c H locs 0 0 (MQ below (qE G A (wM G q x) none) args s 0 0 A) (F0 m 65 ls [.int k0]) := by
  have hx := C.1
  have hb := C.2.1
  intro st v1 v2 v3 k0 x hf H locs ls hP hS hl
  unfold m_reduces_65 at hf
  refine lv_istore (lv' := [(4, .int k0), (0, .ref (q 42)), (1, .int v1), (2, .int v2), (3, .int v3)]) hx hb dX5_reduces_65 hl (by decide) rfl (fun ls hl => ?_)
  refine lv_iload hx hb dX5_reduces_67 (lv_at hl 0 rfl) ?_
  refine lv_if_eq (tgt := 76) hx hb dX5_reduces_69 (by decide) (fun c10 => ?_) (fun c10 => ?_)
  · have hf := if_t c10 hf
    refine lv_iload_n hx hb dX5_reduces_76 rfl (lv_at hl 3 rfl) ?_
    exact t_X5_reduces_77 C hD hf hP hS (lv_sub hl [1, 2, 3, 4, 0] rfl)
  · have hf := if_f c10 hf
    refine lv_iload_n hx hb dX5_reduces_72 rfl (lv_at hl 2 rfl) ?_
    refine lv_goto (tgt := 77) hx hb dX5_reduces_73 (by decide) ?_
    exact t_X5_reduces_77 C hD hf hP hS (lv_sub hl [1, 2, 3, 4, 0] rfl)
set_option maxHeartbeats 4000000 in
set_option maxRecDepth 100000 in
theorem t_X5_reduces_35 {p : Program} {l : Launch} {e : Env} {s : State} {m : MethodId} {args : Array Value} {below : List Frame} {meth : Method} {c : Code} {A : Nat → Prop} {G : Gx} {q : Nat → Nat} {st0 : OSt} (C : Cx p s m args meth c G cX5_reduces wsX5_reduces RX5 none 11 A) (hD : va_D A (wM G q st0)) :
    ∀ {st : OSt} {v1 : Int32} {v2 : Int32} {v3 : Int32} {x : OSt}, m_reduces_35 st v1 v2 v3 = some x → ∀ {H : Heap} {locs : List Loc} {ls : Array Slot}, va_P G.1 vwCl (wM G q st) H → va_S A s.heap H locs → lv_has ls 11 [(0, .ref (q 42)), (1, .int v1), (2, .int v2), (3, .int v3)] → W p l e rmX5_reduces s m args below meth c H locs 0 0 (MQ below (qE G A (wM G q x) none) args s 0 0 A) (F0 m 35 ls []) := by
  have hx := C.1
  have hb := C.2.1
  intro st v1 v2 v3 x hf H locs ls hP hS hl
  unfold m_reduces_35 at hf
  refine lv_aload_n hx hb dX5_reduces_35 rfl (lv_at hl 0 rfl) ?_
  refine lv_iload_n hx hb dX5_reduces_36 rfl (lv_at hl 1 rfl) ?_
  obtain ⟨x8, hx8, hf⟩ := bd_some hf
  refine q_Vi C (rc := (RX5, TX5, 42)) (q0 := 0) (ci := 5) (ws' := wM G q st) (wr := []) (c_X5_kindOf hx8) gX5_reduces_X5_kindOf rfl ⟨rfl, rfl⟩ hdX5_kindOf ⟨(Nat.le_of_ble_eq_true rfl), (Nat.le_of_ble_eq_true rfl)⟩ rfl hP (dd_M hD) hS rfl rfl (List.Perm.refl _) (List.Perm.refl _) hl.1 (Nat.le_of_ble_eq_true rfl) ⟨Nat.zero_le _, Nat.zero_le _⟩ rfl dX5_reduces_37 (fun H locs hP hS => ?_)
  refine lv_if_le (tgt := 47) hx hb dX5_reduces_40 (by decide) (fun c9 => ?_) (fun c9 => ?_)
  · have hf := if_t c9 hf
    refine lv_iconst (v := 0) hx hb dX5_reduces_47 (by decide) ?_
    refine lv_goto (tgt := 65) hx hb dX5_reduces_48 (by decide) ?_
    exact t_X5_reduces_65 C hD hf hP hS (lv_sub hl [0, 1, 2, 3] rfl)
  · have hf := if_f c9 hf
    refine lv_iconst (v := 1) hx hb dX5_reduces_43 (by decide) ?_
    refine lv_goto (tgt := 65) hx hb dX5_reduces_44 (by decide) ?_
    exact t_X5_reduces_65 C hD hf hP hS (lv_sub hl [0, 1, 2, 3] rfl)
set_option maxHeartbeats 4000000 in
set_option maxRecDepth 100000 in
theorem c_X5_reduces {l : Launch} {G : Gx} {q : Nat → Nat} {st : OSt} {a1 : Int32} {x : OSt} (hf : m_reduces st a1 = some x) : QM l G yX5_reduces wsX5_reduces rmX5_reduces [.ref (q 42), .int a1] (wM G q st) (wM G q x) none := by
  refine QM.of (cc := cX5_reduces) (maxL := 11) (ret := none) (by decide) rfl (Nat.le_of_ble_eq_true rfl) ?_
  intro p e s m below meth c A ls C hD hP hS hl
  have hx := C.1
  have hb := C.2.1
  have hl : lv_has ls 11 [(0, .ref (q 42)), (1, .int a1)] := hl
  unfold m_reduces at hf
  refine lv_aload_n hx hb dX5_reduces_0 rfl (lv_at hl 0 rfl) ?_
  refine lv_iload_n hx hb dX5_reduces_1 rfl (lv_at hl 1 rfl) ?_
  obtain ⟨x1, hx1, hf⟩ := bd_some hf
  refine q_Vi C (rc := (RX5, TX5, 42)) (q0 := 0) (ci := 5) (ws' := wM G q st) (wr := []) (c_X5_facing hx1) gX5_reduces_X5_facing rfl ⟨rfl, rfl⟩ hdX5_facing ⟨(Nat.le_of_ble_eq_true rfl), (Nat.le_of_ble_eq_true rfl)⟩ rfl hP (dd_M hD) hS rfl rfl (List.Perm.refl _) (List.Perm.refl _) hl.1 (Nat.le_of_ble_eq_true rfl) ⟨Nat.zero_le _, Nat.zero_le _⟩ rfl dX5_reduces_2 (fun H locs hP hS => ?_)
  refine lv_istore_n (lv' := [(2, .int x1), (0, .ref (q 42)), (1, .int a1)]) hx hb dX5_reduces_5 rfl hl (by decide) rfl (fun ls hl => ?_)
  refine lv_aload_n hx hb dX5_reduces_6 rfl (lv_at hl 1 rfl) ?_
  refine lv_iload_n hx hb dX5_reduces_7 rfl (lv_at hl 2 rfl) ?_
  obtain ⟨x2, hx2, hf⟩ := bd_some hf
  refine q_Vi C (rc := (RX5, TX5, 42)) (q0 := 0) (ci := 5) (ws' := wM G q st) (wr := []) (c_X5_ruleOf hx2) gX5_reduces_X5_ruleOf rfl ⟨rfl, rfl⟩ hdX5_ruleOf ⟨(Nat.le_of_ble_eq_true rfl), (Nat.le_of_ble_eq_true rfl)⟩ rfl hP (dd_M hD) hS rfl rfl (List.Perm.refl _) (List.Perm.refl _) hl.1 (Nat.le_of_ble_eq_true rfl) ⟨Nat.zero_le _, Nat.zero_le _⟩ rfl dX5_reduces_8 (fun H locs hP hS => ?_)
  refine lv_istore_n (lv' := [(3, .int x2), (2, .int x1), (0, .ref (q 42)), (1, .int a1)]) hx hb dX5_reduces_11 rfl hl (by decide) rfl (fun ls hl => ?_)
  refine lv_aload_n hx hb dX5_reduces_12 rfl (lv_at hl 2 rfl) ?_
  refine q_get C hP wM_o rfl hiX5_reduces_X5 1 (by decide) wdX5_reduces_1 rfl dX5_reduces_13 ?_
  refine lv_bipush (v := 8) hx hb dX5_reduces_16 (by decide) ?_
  refine lv_iload_n hx hb dX5_reduces_18 rfl (lv_at hl 0 rfl) ?_
  refine lv_iadd hx hb dX5_reduces_19 ?_
  refine lv_dup2_11 hx hb dX5_reduces_20 rfl rfl ?_
  obtain ⟨hin, hf⟩ := gd_some hf
  refine q_iald C hP wM_a_1 rfl hin dX5_reduces_21 ?_
  refine lv_iconst (v := 1) hx hb dX5_reduces_22 (by decide) ?_
  refine lv_iadd hx hb dX5_reduces_23 ?_
  obtain ⟨hin, hf⟩ := gd_some hf
  obtain ⟨s3, es3, hf⟩ := nm_ex hf
  refine q_iast C hP (dd_M hD) hS wM_a_1 rfl wM_sA_1 hin dX5_reduces_24 (fun H locs hP hS => ?_)
  rw [es3] at hP
  refine lv_iload_n hx hb dX5_reduces_25 rfl (lv_at hl 0 rfl) ?_
  refine lv_iconst (v := 3) hx hb dX5_reduces_26 (by decide) ?_
  refine lv_icmp_eq (tgt := 35) hx hb dX5_reduces_27 (by decide) (fun c4 => ?_) (fun c4 => ?_)
  · have hf := if_t c4 hf
    exact t_X5_reduces_35 C hD hf hP hS (lv_sub hl [2, 3, 1, 0] rfl)
  · have hf := if_f c4 hf
    refine lv_iload_n hx hb dX5_reduces_30 rfl (lv_at hl 0 rfl) ?_
    refine lv_iconst (v := 4) hx hb dX5_reduces_31 (by decide) ?_
    refine lv_icmp_ne (tgt := 51) hx hb dX5_reduces_32 (by decide) (fun c5 => ?_) (fun c5 => ?_)
    · have hf := if_f c5 hf
      refine lv_aload_n hx hb dX5_reduces_51 rfl (lv_at hl 2 rfl) ?_
      refine lv_iload_n hx hb dX5_reduces_52 rfl (lv_at hl 3 rfl) ?_
      obtain ⟨x6, hx6, hf⟩ := bd_some hf
      refine q_Vi C (rc := (RX5, TX5, 42)) (q0 := 0) (ci := 5) (ws' := wM G q s3) (wr := []) (c_X5_kindOf hx6) gX5_reduces_X5_kindOf rfl ⟨rfl, rfl⟩ hdX5_kindOf ⟨(Nat.le_of_ble_eq_true rfl), (Nat.le_of_ble_eq_true rfl)⟩ rfl hP (dd_M hD) hS rfl rfl (List.Perm.refl _) (List.Perm.refl _) hl.1 (Nat.le_of_ble_eq_true rfl) ⟨Nat.zero_le _, Nat.zero_le _⟩ rfl dX5_reduces_53 (fun H locs hP hS => ?_)
      refine lv_iconst (v := 1) hx hb dX5_reduces_56 (by decide) ?_
      refine lv_icmp_ne (tgt := 64) hx hb dX5_reduces_57 (by decide) (fun c7 => ?_) (fun c7 => ?_)
      · have hf := if_f c7 hf
        refine lv_iconst (v := 0) hx hb dX5_reduces_64 (by decide) ?_
        exact t_X5_reduces_65 C hD hf hP hS (lv_sub hl [2, 3, 1, 0] rfl)
      · have hf := if_t c7 hf
        refine lv_iconst (v := 1) hx hb dX5_reduces_60 (by decide) ?_
        refine lv_goto (tgt := 65) hx hb dX5_reduces_61 (by decide) ?_
        exact t_X5_reduces_65 C hD hf hP hS (lv_sub hl [2, 3, 1, 0] rfl)
    · have hf := if_t c5 hf
      exact t_X5_reduces_35 C hD hf hP hS (lv_sub hl [2, 3, 1, 0] rfl)

-- X5_chosen
theorem hiX5_chosen_X5 : ∀ w ∈ u_ws RX5 TX5 42, w ∈ wsX5_chosen := mem_run (i := 44) (by decide +kernel)
theorem wdX5_chosen_1 : (Cond.fieldLink RX5 252 "CombinatorRingModel" "drawn" "I") ∈ wsX5_chosen := List.mem_of_getElem? (i := 1) rfl
theorem wdX5_chosen_2 : (Cond.constant RX5 255 (1103515245)) ∈ wsX5_chosen := List.mem_of_getElem? (i := 2) rfl
def m_chosen_56 : Nat → OSt → Int32 → Int32 → Option (Int32)
  | 0, _, _, _ => none
  | n + 1, st, v3, v4 => bd (m_isPair st v4) fun x8 => if x8 = 0 then bd (m_isPair st v4) fun x10 => if x10 = 0 then m_chosen_56 n st (v3 - 0) (v4 + 1) else bd (m_canReduce st v4) fun x12 => if x12 = 0 then m_chosen_56 n st (v3 - 0) (v4 + 1) else m_chosen_56 n st (v3 - 1) (v4 + 1) else bd (m_canReduce st v4) fun x14 => if x14 = 0 then bd (m_isPair st v4) fun x16 => if x16 = 0 then m_chosen_56 n st (v3 - 0) (v4 + 1) else bd (m_canReduce st v4) fun x18 => if x18 = 0 then m_chosen_56 n st (v3 - 0) (v4 + 1) else m_chosen_56 n st (v3 - 1) (v4 + 1) else if v3 ≤ 0 then some v4 else bd (m_isPair st v4) fun x21 => if x21 = 0 then m_chosen_56 n st (v3 - 0) (v4 + 1) else bd (m_canReduce st v4) fun x23 => if x23 = 0 then m_chosen_56 n st (v3 - 0) (v4 + 1) else m_chosen_56 n st (v3 - 1) (v4 + 1)
def m_chosen_53 (st : OSt) (v3 : Int32) : Option (Int32 × OSt) := bd (m_chosen_56 20000 st v3 0) fun x7 => some (x7, st)
def m_chosen_44 (st : OSt) (v1 : Int32) (v2 : Int32) (v3 : Int32) : Option (Int32 × OSt) := if v1 = 1 then m_chosen_53 st (v2 - 1) else m_chosen_53 st v3
def m_chosen (st : OSt) (a1 : Int32) : Option (Int32 × OSt) := bd (m_pairs st 1) fun x1 => if x1 = 0 then some ((-1), st) else if a1 = 2 then nm (sI st 24 (((st.1 24) * 1103515245) + 12345)) fun s4 => gn x1 (nm ((((s4.1 24).toUInt32 >>> ((16 : Int32).toUInt32 &&& Int32.toUInt32 31)).toInt32 - ((s4.1 24).toUInt32 >>> ((16 : Int32).toUInt32 &&& Int32.toUInt32 31)).toInt32 / x1 * x1)) fun y5 => m_chosen_44 s4 a1 x1 y5) else m_chosen_44 st a1 x1 0
abbrev rmX5_chosen : Room := { frames := 5, cells := 0, slots := 0, locals := 110 }
theorem hdX5_chosen : yX5_chosen.cls = RX5 ∧ yX5_chosen.cls ≠ "java/lang/invoke/MethodHandle" ∧ yX5_chosen.cls ≠ "java/lang/invoke/VarHandle" ∧ (parseMethodDescriptor yX5_chosen.desc).map (fun d => d.parameters.length) = some 1 := by decide +kernel
set_option maxHeartbeats 4000000 in
set_option maxRecDepth 100000 in
theorem t_X5_chosen_56 {p : Program} {l : Launch} {e : Env} {s : State} {m : MethodId} {args : Array Value} {below : List Frame} {meth : Method} {c : Code} {Q : State → Prop} {A : Nat → Prop} {G : Gx} {q : Nat → Nat} {st0 : OSt} (C : Cx p s m args meth c G cX5_chosen wsX5_chosen RX5 (some .int) 5 A) (hD : va_D A (wM G q st0)) :
    ∀ {n : Nat} {st : OSt} {v3 : Int32} {v4 : Int32} {x : Int32}, m_chosen_56 n st v3 v4 = some x → ∀ {H : Heap} {locs : List Loc} {ls : Array Slot}, va_P G.1 vwCl (wM G q st) H → va_S A s.heap H locs → lv_has ls 5 [(0, .ref (q 42)), (3, .int v3), (4, .int v4)] → (∀ {H : Heap} {locs : List Loc} {ls : Array Slot}, va_P G.1 vwCl (wM G q st) H → va_S A s.heap H locs → lv_has ls 5 [(4, .int x)] → W p l e rmX5_chosen s m args below meth c H locs 0 0 Q (F0 m 110 ls [])) → W p l e rmX5_chosen s m args below meth c H locs 0 0 Q (F0 m 56 ls []) := by
  have hx := C.1
  have hb := C.2.1
  intro n
  induction n with
  | zero => intro st v3 v4 x hf; cases hf
  | succ n ih =>
    intro st v3 v4 x hf H locs ls hP hS hl kk
    rw [m_chosen_56] at hf
    refine lv_aload_n hx hb dX5_chosen_56 rfl (lv_at hl 0 rfl) ?_
    refine lv_iload hx hb dX5_chosen_57 (lv_at hl 2 rfl) ?_
    obtain ⟨x8, hx8, hf⟩ := bd_some hf
    refine q_Vi C (rc := (RX5, TX5, 42)) (q0 := 0) (ci := 5) (ws' := wM G q st) (wr := []) (c_X5_isPair hx8) gX5_chosen_X5_isPair rfl ⟨rfl, rfl⟩ hdX5_isPair ⟨(Nat.le_of_ble_eq_true rfl), (Nat.le_of_ble_eq_true rfl)⟩ rfl hP (dd_M hD) hS rfl rfl (List.Perm.refl _) (List.Perm.refl _) hl.1 (Nat.le_of_ble_eq_true rfl) ⟨Nat.zero_le _, Nat.zero_le _⟩ rfl dX5_chosen_59 (fun H locs hP hS => ?_)
    refine lv_if_eq (tgt := 78) hx hb dX5_chosen_62 (by decide) (fun c9 => ?_) (fun c9 => ?_)
    · have hf := if_t c9 hf
      refine lv_iload_n hx hb dX5_chosen_78 rfl (lv_at hl 1 rfl) ?_
      refine lv_aload_n hx hb dX5_chosen_79 rfl (lv_at hl 0 rfl) ?_
      refine lv_iload hx hb dX5_chosen_80 (lv_at hl 2 rfl) ?_
      obtain ⟨x10, hx10, hf⟩ := bd_some hf
      refine q_Vi C (rc := (RX5, TX5, 42)) (q0 := 0) (ci := 5) (ws' := wM G q st) (wr := []) (c_X5_isPair hx10) gX5_chosen_X5_isPair rfl ⟨rfl, rfl⟩ hdX5_isPair ⟨(Nat.le_of_ble_eq_true rfl), (Nat.le_of_ble_eq_true rfl)⟩ rfl hP (dd_M hD) hS rfl rfl (List.Perm.refl _) (List.Perm.refl _) hl.1 (Nat.le_of_ble_eq_true rfl) ⟨Nat.zero_le _, Nat.zero_le _⟩ rfl dX5_chosen_82 (fun H locs hP hS => ?_)
      refine lv_if_eq (tgt := 101) hx hb dX5_chosen_85 (by decide) (fun c11 => ?_) (fun c11 => ?_)
      · have hf := if_t c11 hf
        refine lv_iconst (v := 0) hx hb dX5_chosen_101 (by decide) ?_
        refine lv_isub hx hb dX5_chosen_102 ?_
        refine lv_istore_n (lv' := [(3, .int (v3 - 0)), (0, .ref (q 42)), (4, .int v4)]) hx hb dX5_chosen_103 rfl hl (by decide) rfl (fun ls hl => ?_)
        refine lv_iinc (v := (v4 + 1)) (lv' := [(4, .int (v4 + 1)), (3, .int (v3 - 0)), (0, .ref (q 42))]) hx hb dX5_chosen_104 hl (k := 2) rfl rfl (by decide) rfl (fun ls hl => ?_)
        refine lv_goto (tgt := 56) hx hb dX5_chosen_107 (by decide) ?_
        exact ih hf hP hS (lv_sub hl [2, 1, 0] rfl) kk
      · have hf := if_f c11 hf
        refine lv_aload_n hx hb dX5_chosen_88 rfl (lv_at hl 0 rfl) ?_
        refine lv_iload hx hb dX5_chosen_89 (lv_at hl 2 rfl) ?_
        obtain ⟨x12, hx12, hf⟩ := bd_some hf
        refine q_Vi C (rc := (RX5, TX5, 42)) (q0 := 0) (ci := 5) (ws' := wM G q st) (wr := []) (c_X5_canReduce hx12) gX5_chosen_X5_canReduce rfl ⟨rfl, rfl⟩ hdX5_canReduce ⟨(Nat.le_of_ble_eq_true rfl), (Nat.le_of_ble_eq_true rfl)⟩ rfl hP (dd_M hD) hS rfl rfl (List.Perm.refl _) (List.Perm.refl _) hl.1 (Nat.le_of_ble_eq_true rfl) ⟨Nat.zero_le _, Nat.zero_le _⟩ rfl dX5_chosen_91 (fun H locs hP hS => ?_)
        refine lv_if_eq (tgt := 101) hx hb dX5_chosen_94 (by decide) (fun c13 => ?_) (fun c13 => ?_)
        · have hf := if_t c13 hf
          refine lv_iconst (v := 0) hx hb dX5_chosen_101 (by decide) ?_
          refine lv_isub hx hb dX5_chosen_102 ?_
          refine lv_istore_n (lv' := [(3, .int (v3 - 0)), (0, .ref (q 42)), (4, .int v4)]) hx hb dX5_chosen_103 rfl hl (by decide) rfl (fun ls hl => ?_)
          refine lv_iinc (v := (v4 + 1)) (lv' := [(4, .int (v4 + 1)), (3, .int (v3 - 0)), (0, .ref (q 42))]) hx hb dX5_chosen_104 hl (k := 2) rfl rfl (by decide) rfl (fun ls hl => ?_)
          refine lv_goto (tgt := 56) hx hb dX5_chosen_107 (by decide) ?_
          exact ih hf hP hS (lv_sub hl [2, 1, 0] rfl) kk
        · have hf := if_f c13 hf
          refine lv_iconst (v := 1) hx hb dX5_chosen_97 (by decide) ?_
          refine lv_goto (tgt := 102) hx hb dX5_chosen_98 (by decide) ?_
          refine lv_isub hx hb dX5_chosen_102 ?_
          refine lv_istore_n (lv' := [(3, .int (v3 - 1)), (0, .ref (q 42)), (4, .int v4)]) hx hb dX5_chosen_103 rfl hl (by decide) rfl (fun ls hl => ?_)
          refine lv_iinc (v := (v4 + 1)) (lv' := [(4, .int (v4 + 1)), (3, .int (v3 - 1)), (0, .ref (q 42))]) hx hb dX5_chosen_104 hl (k := 2) rfl rfl (by decide) rfl (fun ls hl => ?_)
          refine lv_goto (tgt := 56) hx hb dX5_chosen_107 (by decide) ?_
          exact ih hf hP hS (lv_sub hl [2, 1, 0] rfl) kk
    · have hf := if_f c9 hf
      refine lv_aload_n hx hb dX5_chosen_65 rfl (lv_at hl 0 rfl) ?_
      refine lv_iload hx hb dX5_chosen_66 (lv_at hl 2 rfl) ?_
      obtain ⟨x14, hx14, hf⟩ := bd_some hf
      refine q_Vi C (rc := (RX5, TX5, 42)) (q0 := 0) (ci := 5) (ws' := wM G q st) (wr := []) (c_X5_canReduce hx14) gX5_chosen_X5_canReduce rfl ⟨rfl, rfl⟩ hdX5_canReduce ⟨(Nat.le_of_ble_eq_true rfl), (Nat.le_of_ble_eq_true rfl)⟩ rfl hP (dd_M hD) hS rfl rfl (List.Perm.refl _) (List.Perm.refl _) hl.1 (Nat.le_of_ble_eq_true rfl) ⟨Nat.zero_le _, Nat.zero_le _⟩ rfl dX5_chosen_68 (fun H locs hP hS => ?_)
      refine lv_if_eq (tgt := 78) hx hb dX5_chosen_71 (by decide) (fun c15 => ?_) (fun c15 => ?_)
      · have hf := if_t c15 hf
        refine lv_iload_n hx hb dX5_chosen_78 rfl (lv_at hl 1 rfl) ?_
        refine lv_aload_n hx hb dX5_chosen_79 rfl (lv_at hl 0 rfl) ?_
        refine lv_iload hx hb dX5_chosen_80 (lv_at hl 2 rfl) ?_
        obtain ⟨x16, hx16, hf⟩ := bd_some hf
        refine q_Vi C (rc := (RX5, TX5, 42)) (q0 := 0) (ci := 5) (ws' := wM G q st) (wr := []) (c_X5_isPair hx16) gX5_chosen_X5_isPair rfl ⟨rfl, rfl⟩ hdX5_isPair ⟨(Nat.le_of_ble_eq_true rfl), (Nat.le_of_ble_eq_true rfl)⟩ rfl hP (dd_M hD) hS rfl rfl (List.Perm.refl _) (List.Perm.refl _) hl.1 (Nat.le_of_ble_eq_true rfl) ⟨Nat.zero_le _, Nat.zero_le _⟩ rfl dX5_chosen_82 (fun H locs hP hS => ?_)
        refine lv_if_eq (tgt := 101) hx hb dX5_chosen_85 (by decide) (fun c17 => ?_) (fun c17 => ?_)
        · have hf := if_t c17 hf
          refine lv_iconst (v := 0) hx hb dX5_chosen_101 (by decide) ?_
          refine lv_isub hx hb dX5_chosen_102 ?_
          refine lv_istore_n (lv' := [(3, .int (v3 - 0)), (0, .ref (q 42)), (4, .int v4)]) hx hb dX5_chosen_103 rfl hl (by decide) rfl (fun ls hl => ?_)
          refine lv_iinc (v := (v4 + 1)) (lv' := [(4, .int (v4 + 1)), (3, .int (v3 - 0)), (0, .ref (q 42))]) hx hb dX5_chosen_104 hl (k := 2) rfl rfl (by decide) rfl (fun ls hl => ?_)
          refine lv_goto (tgt := 56) hx hb dX5_chosen_107 (by decide) ?_
          exact ih hf hP hS (lv_sub hl [2, 1, 0] rfl) kk
        · have hf := if_f c17 hf
          refine lv_aload_n hx hb dX5_chosen_88 rfl (lv_at hl 0 rfl) ?_
          refine lv_iload hx hb dX5_chosen_89 (lv_at hl 2 rfl) ?_
          obtain ⟨x18, hx18, hf⟩ := bd_some hf
          refine q_Vi C (rc := (RX5, TX5, 42)) (q0 := 0) (ci := 5) (ws' := wM G q st) (wr := []) (c_X5_canReduce hx18) gX5_chosen_X5_canReduce rfl ⟨rfl, rfl⟩ hdX5_canReduce ⟨(Nat.le_of_ble_eq_true rfl), (Nat.le_of_ble_eq_true rfl)⟩ rfl hP (dd_M hD) hS rfl rfl (List.Perm.refl _) (List.Perm.refl _) hl.1 (Nat.le_of_ble_eq_true rfl) ⟨Nat.zero_le _, Nat.zero_le _⟩ rfl dX5_chosen_91 (fun H locs hP hS => ?_)
          refine lv_if_eq (tgt := 101) hx hb dX5_chosen_94 (by decide) (fun c19 => ?_) (fun c19 => ?_)
          · have hf := if_t c19 hf
            refine lv_iconst (v := 0) hx hb dX5_chosen_101 (by decide) ?_
            refine lv_isub hx hb dX5_chosen_102 ?_
            refine lv_istore_n (lv' := [(3, .int (v3 - 0)), (0, .ref (q 42)), (4, .int v4)]) hx hb dX5_chosen_103 rfl hl (by decide) rfl (fun ls hl => ?_)
            refine lv_iinc (v := (v4 + 1)) (lv' := [(4, .int (v4 + 1)), (3, .int (v3 - 0)), (0, .ref (q 42))]) hx hb dX5_chosen_104 hl (k := 2) rfl rfl (by decide) rfl (fun ls hl => ?_)
            refine lv_goto (tgt := 56) hx hb dX5_chosen_107 (by decide) ?_
            exact ih hf hP hS (lv_sub hl [2, 1, 0] rfl) kk
          · have hf := if_f c19 hf
            refine lv_iconst (v := 1) hx hb dX5_chosen_97 (by decide) ?_
            refine lv_goto (tgt := 102) hx hb dX5_chosen_98 (by decide) ?_
            refine lv_isub hx hb dX5_chosen_102 ?_
            refine lv_istore_n (lv' := [(3, .int (v3 - 1)), (0, .ref (q 42)), (4, .int v4)]) hx hb dX5_chosen_103 rfl hl (by decide) rfl (fun ls hl => ?_)
            refine lv_iinc (v := (v4 + 1)) (lv' := [(4, .int (v4 + 1)), (3, .int (v3 - 1)), (0, .ref (q 42))]) hx hb dX5_chosen_104 hl (k := 2) rfl rfl (by decide) rfl (fun ls hl => ?_)
            refine lv_goto (tgt := 56) hx hb dX5_chosen_107 (by decide) ?_
            exact ih hf hP hS (lv_sub hl [2, 1, 0] rfl) kk
      · have hf := if_f c15 hf
        refine lv_iload_n hx hb dX5_chosen_74 rfl (lv_at hl 1 rfl) ?_
        refine lv_if_le (tgt := 110) hx hb dX5_chosen_75 (by decide) (fun c20 => ?_) (fun c20 => ?_)
        · have hf := if_t c20 hf
          cases hf
          exact kk hP hS (lv_sub hl [2] rfl)
        · have hf := if_f c20 hf
          refine lv_iload_n hx hb dX5_chosen_78 rfl (lv_at hl 1 rfl) ?_
          refine lv_aload_n hx hb dX5_chosen_79 rfl (lv_at hl 0 rfl) ?_
          refine lv_iload hx hb dX5_chosen_80 (lv_at hl 2 rfl) ?_
          obtain ⟨x21, hx21, hf⟩ := bd_some hf
          refine q_Vi C (rc := (RX5, TX5, 42)) (q0 := 0) (ci := 5) (ws' := wM G q st) (wr := []) (c_X5_isPair hx21) gX5_chosen_X5_isPair rfl ⟨rfl, rfl⟩ hdX5_isPair ⟨(Nat.le_of_ble_eq_true rfl), (Nat.le_of_ble_eq_true rfl)⟩ rfl hP (dd_M hD) hS rfl rfl (List.Perm.refl _) (List.Perm.refl _) hl.1 (Nat.le_of_ble_eq_true rfl) ⟨Nat.zero_le _, Nat.zero_le _⟩ rfl dX5_chosen_82 (fun H locs hP hS => ?_)
          refine lv_if_eq (tgt := 101) hx hb dX5_chosen_85 (by decide) (fun c22 => ?_) (fun c22 => ?_)
          · have hf := if_t c22 hf
            refine lv_iconst (v := 0) hx hb dX5_chosen_101 (by decide) ?_
            refine lv_isub hx hb dX5_chosen_102 ?_
            refine lv_istore_n (lv' := [(3, .int (v3 - 0)), (0, .ref (q 42)), (4, .int v4)]) hx hb dX5_chosen_103 rfl hl (by decide) rfl (fun ls hl => ?_)
            refine lv_iinc (v := (v4 + 1)) (lv' := [(4, .int (v4 + 1)), (3, .int (v3 - 0)), (0, .ref (q 42))]) hx hb dX5_chosen_104 hl (k := 2) rfl rfl (by decide) rfl (fun ls hl => ?_)
            refine lv_goto (tgt := 56) hx hb dX5_chosen_107 (by decide) ?_
            exact ih hf hP hS (lv_sub hl [2, 1, 0] rfl) kk
          · have hf := if_f c22 hf
            refine lv_aload_n hx hb dX5_chosen_88 rfl (lv_at hl 0 rfl) ?_
            refine lv_iload hx hb dX5_chosen_89 (lv_at hl 2 rfl) ?_
            obtain ⟨x23, hx23, hf⟩ := bd_some hf
            refine q_Vi C (rc := (RX5, TX5, 42)) (q0 := 0) (ci := 5) (ws' := wM G q st) (wr := []) (c_X5_canReduce hx23) gX5_chosen_X5_canReduce rfl ⟨rfl, rfl⟩ hdX5_canReduce ⟨(Nat.le_of_ble_eq_true rfl), (Nat.le_of_ble_eq_true rfl)⟩ rfl hP (dd_M hD) hS rfl rfl (List.Perm.refl _) (List.Perm.refl _) hl.1 (Nat.le_of_ble_eq_true rfl) ⟨Nat.zero_le _, Nat.zero_le _⟩ rfl dX5_chosen_91 (fun H locs hP hS => ?_)
            refine lv_if_eq (tgt := 101) hx hb dX5_chosen_94 (by decide) (fun c24 => ?_) (fun c24 => ?_)
            · have hf := if_t c24 hf
              refine lv_iconst (v := 0) hx hb dX5_chosen_101 (by decide) ?_
              refine lv_isub hx hb dX5_chosen_102 ?_
              refine lv_istore_n (lv' := [(3, .int (v3 - 0)), (0, .ref (q 42)), (4, .int v4)]) hx hb dX5_chosen_103 rfl hl (by decide) rfl (fun ls hl => ?_)
              refine lv_iinc (v := (v4 + 1)) (lv' := [(4, .int (v4 + 1)), (3, .int (v3 - 0)), (0, .ref (q 42))]) hx hb dX5_chosen_104 hl (k := 2) rfl rfl (by decide) rfl (fun ls hl => ?_)
              refine lv_goto (tgt := 56) hx hb dX5_chosen_107 (by decide) ?_
              exact ih hf hP hS (lv_sub hl [2, 1, 0] rfl) kk
            · have hf := if_f c24 hf
              refine lv_iconst (v := 1) hx hb dX5_chosen_97 (by decide) ?_
              refine lv_goto (tgt := 102) hx hb dX5_chosen_98 (by decide) ?_
              refine lv_isub hx hb dX5_chosen_102 ?_
              refine lv_istore_n (lv' := [(3, .int (v3 - 1)), (0, .ref (q 42)), (4, .int v4)]) hx hb dX5_chosen_103 rfl hl (by decide) rfl (fun ls hl => ?_)
              refine lv_iinc (v := (v4 + 1)) (lv' := [(4, .int (v4 + 1)), (3, .int (v3 - 1)), (0, .ref (q 42))]) hx hb dX5_chosen_104 hl (k := 2) rfl rfl (by decide) rfl (fun ls hl => ?_)
              refine lv_goto (tgt := 56) hx hb dX5_chosen_107 (by decide) ?_
              exact ih hf hP hS (lv_sub hl [2, 1, 0] rfl) kk
set_option maxHeartbeats 4000000 in
set_option maxRecDepth 100000 in
theorem t_X5_chosen_53 {p : Program} {l : Launch} {e : Env} {s : State} {m : MethodId} {args : Array Value} {below : List Frame} {meth : Method} {c : Code} {A : Nat → Prop} {G : Gx} {q : Nat → Nat} {st0 : OSt} (C : Cx p s m args meth c G cX5_chosen wsX5_chosen RX5 (some .int) 5 A) (hD : va_D A (wM G q st0)) :
    ∀ {st : OSt} {v3 : Int32} {x : Int32 × OSt}, m_chosen_53 st v3 = some x → ∀ {H : Heap} {locs : List Loc} {ls : Array Slot}, va_P G.1 vwCl (wM G q st) H → va_S A s.heap H locs → lv_has ls 5 [(0, .ref (q 42)), (3, .int v3)] → W p l e rmX5_chosen s m args below meth c H locs 0 0 (MQ below (qE G A (wM G q x.2) (some (.int x.1))) args s 0 0 A) (F0 m 53 ls []) := by
  have hx := C.1
  have hb := C.2.1
  intro st v3 x hf H locs ls hP hS hl
  unfold m_chosen_53 at hf
  refine lv_iconst (v := 0) hx hb dX5_chosen_53 (by decide) ?_
  refine lv_istore (lv' := [(4, .int 0), (0, .ref (q 42)), (3, .int v3)]) hx hb dX5_chosen_54 hl (by decide) rfl (fun ls hl => ?_)
  obtain ⟨x7, hx7, hf⟩ := bd_some hf
  refine t_X5_chosen_56 C hD hx7 hP hS (lv_sub hl [1, 2, 0] rfl) (fun {H locs ls} hP hS hl => ?_)
  refine lv_iload hx hb dX5_chosen_110 (lv_at hl 0 rfl) ?_
  cases hf
  exact q_iret C hP hS rfl dX5_chosen_112
set_option maxHeartbeats 4000000 in
set_option maxRecDepth 100000 in
theorem t_X5_chosen_44 {p : Program} {l : Launch} {e : Env} {s : State} {m : MethodId} {args : Array Value} {below : List Frame} {meth : Method} {c : Code} {A : Nat → Prop} {G : Gx} {q : Nat → Nat} {st0 : OSt} (C : Cx p s m args meth c G cX5_chosen wsX5_chosen RX5 (some .int) 5 A) (hD : va_D A (wM G q st0)) :
    ∀ {st : OSt} {v1 : Int32} {v2 : Int32} {v3 : Int32} {x : Int32 × OSt}, m_chosen_44 st v1 v2 v3 = some x → ∀ {H : Heap} {locs : List Loc} {ls : Array Slot}, va_P G.1 vwCl (wM G q st) H → va_S A s.heap H locs → lv_has ls 5 [(0, .ref (q 42)), (1, .int v1), (2, .int v2), (3, .int v3)] → W p l e rmX5_chosen s m args below meth c H locs 0 0 (MQ below (qE G A (wM G q x.2) (some (.int x.1))) args s 0 0 A) (F0 m 44 ls []) := by
  have hx := C.1
  have hb := C.2.1
  intro st v1 v2 v3 x hf H locs ls hP hS hl
  unfold m_chosen_44 at hf
  refine lv_iload_n hx hb dX5_chosen_44 rfl (lv_at hl 1 rfl) ?_
  refine lv_iconst (v := 1) hx hb dX5_chosen_45 (by decide) ?_
  refine lv_icmp_ne (tgt := 53) hx hb dX5_chosen_46 (by decide) (fun c6 => ?_) (fun c6 => ?_)
  · have hf := if_f c6 hf
    exact t_X5_chosen_53 C hD hf hP hS (lv_sub hl [0, 3] rfl)
  · have hf := if_t c6 hf
    refine lv_iload_n hx hb dX5_chosen_49 rfl (lv_at hl 2 rfl) ?_
    refine lv_iconst (v := 1) hx hb dX5_chosen_50 (by decide) ?_
    refine lv_isub hx hb dX5_chosen_51 ?_
    refine lv_istore_n (lv' := [(3, .int (v2 - 1)), (0, .ref (q 42)), (1, .int v1), (2, .int v2)]) hx hb dX5_chosen_52 rfl hl (by decide) rfl (fun ls hl => ?_)
    exact t_X5_chosen_53 C hD hf hP hS (lv_sub hl [1, 0] rfl)
set_option maxHeartbeats 4000000 in
set_option maxRecDepth 100000 in
theorem c_X5_chosen {l : Launch} {G : Gx} {q : Nat → Nat} {st : OSt} {a1 : Int32} {x : Int32 × OSt} (hf : m_chosen st a1 = some x) : QM l G yX5_chosen wsX5_chosen rmX5_chosen [.ref (q 42), .int a1] (wM G q st) (wM G q x.2) (some (.int x.1)) := by
  refine QM.of (cc := cX5_chosen) (maxL := 5) (ret := (some .int)) (by decide) rfl (Nat.le_of_ble_eq_true rfl) ?_
  intro p e s m below meth c A ls C hD hP hS hl
  have hx := C.1
  have hb := C.2.1
  have hl : lv_has ls 5 [(0, .ref (q 42)), (1, .int a1)] := hl
  unfold m_chosen at hf
  refine lv_aload_n hx hb dX5_chosen_0 rfl (lv_at hl 0 rfl) ?_
  refine lv_iconst (v := 1) hx hb dX5_chosen_1 (by decide) ?_
  obtain ⟨x1, hx1, hf⟩ := bd_some hf
  refine q_Vi C (rc := (RX5, TX5, 42)) (q0 := 0) (ci := 5) (ws' := wM G q st) (wr := []) (c_X5_pairs hx1) gX5_chosen_X5_pairs rfl ⟨rfl, rfl⟩ hdX5_pairs ⟨(Nat.le_of_ble_eq_true rfl), (Nat.le_of_ble_eq_true rfl)⟩ rfl hP (dd_M hD) hS rfl rfl (List.Perm.refl _) (List.Perm.refl _) hl.1 (Nat.le_of_ble_eq_true rfl) ⟨Nat.zero_le _, Nat.zero_le _⟩ rfl dX5_chosen_2 (fun H locs hP hS => ?_)
  refine lv_istore_n (lv' := [(2, .int x1), (0, .ref (q 42)), (1, .int a1)]) hx hb dX5_chosen_5 rfl hl (by decide) rfl (fun ls hl => ?_)
  refine lv_iload_n hx hb dX5_chosen_6 rfl (lv_at hl 0 rfl) ?_
  refine lv_if_ne (tgt := 12) hx hb dX5_chosen_7 (by decide) (fun c2 => ?_) (fun c2 => ?_)
  · have hf := if_f c2 hf
    refine lv_iconst (v := 0) hx hb dX5_chosen_12 (by decide) ?_
    refine lv_istore_n (lv' := [(3, .int 0), (2, .int x1), (0, .ref (q 42)), (1, .int a1)]) hx hb dX5_chosen_13 rfl hl (by decide) rfl (fun ls hl => ?_)
    refine lv_iload_n hx hb dX5_chosen_14 rfl (lv_at hl 3 rfl) ?_
    refine lv_iconst (v := 2) hx hb dX5_chosen_15 (by decide) ?_
    refine lv_icmp_ne (tgt := 44) hx hb dX5_chosen_16 (by decide) (fun c3 => ?_) (fun c3 => ?_)
    · have hf := if_f c3 hf
      exact t_X5_chosen_44 C hD hf hP hS (lv_sub hl [2, 3, 1, 0] rfl)
    · have hf := if_t c3 hf
      refine lv_aload_n hx hb dX5_chosen_19 rfl (lv_at hl 2 rfl) ?_
      refine lv_aload_n hx hb dX5_chosen_20 rfl (lv_at hl 2 rfl) ?_
      refine q_get C hP wM_o rfl hiX5_chosen_X5 24 (by decide) wdX5_chosen_1 rfl dX5_chosen_21 ?_
      refine lv_ldc (v := 1103515245) hx hb C.2.2.2.1 (C.2.2.2.2.1 _ wdX5_chosen_2) dX5_chosen_24 ?_
      refine lv_imul hx hb dX5_chosen_26 ?_
      refine lv_sipush (v := 12345) hx hb dX5_chosen_27 (by decide) ?_
      refine lv_iadd hx hb dX5_chosen_30 ?_
      obtain ⟨s4, es4, hf⟩ := nm_ex hf
      refine q_put C hP (dd_M hD) hS wM_o rfl hiX5_chosen_X5 tyX5_ok nmX5 24 (by decide) wdX5_chosen_1 rfl rfl rfl (Nat.le_of_ble_eq_true rfl) wM_sI_24 dX5_chosen_31 (fun H locs hP hS => ?_)
      rw [es4] at hP
      refine lv_aload_n hx hb dX5_chosen_34 rfl (lv_at hl 2 rfl) ?_
      refine q_get C hP wM_o rfl hiX5_chosen_X5 24 (by decide) wdX5_chosen_1 rfl dX5_chosen_35 ?_
      refine lv_bipush (v := 16) hx hb dX5_chosen_38 (by decide) ?_
      refine lv_iushr hx hb dX5_chosen_40 rfl ?_
      refine lv_iload_n hx hb dX5_chosen_41 rfl (lv_at hl 1 rfl) ?_
      obtain ⟨hne, hf⟩ := gn_some hf
      refine lv_irem hx hb dX5_chosen_42 hne ?_
      obtain ⟨y5, ey5, hf⟩ := nm_ex hf
      refine lv_tI ey5 ?_
      refine lv_istore_n (lv' := [(3, .int y5), (2, .int x1), (0, .ref (q 42)), (1, .int a1)]) hx hb dX5_chosen_43 rfl hl (by decide) rfl (fun ls hl => ?_)
      exact t_X5_chosen_44 C hD hf hP hS (lv_sub hl [2, 3, 1, 0] rfl)
  · have hf := if_t c2 hf
    refine lv_iconst (v := (-1)) hx hb dX5_chosen_10 (by decide) ?_
    cases hf
    exact q_iret C hP hS rfl dX5_chosen_11

-- X5_steps
theorem hiX5_steps_X5 : ∀ w ∈ u_ws RX5 TX5 42, w ∈ wsX5_steps := mem_run (i := 81) (by decide +kernel)
theorem wdX5_steps_2 : (Cond.fieldLink RX5 7 "CombinatorRingModel" "now" "[I") ∈ wsX5_steps := List.mem_of_getElem? (i := 2) rfl
theorem wdX5_steps_3 : (Cond.fieldLink RX5 256 "CombinatorRingModel" "mostNodes" "I") ∈ wsX5_steps := List.mem_of_getElem? (i := 3) rfl
theorem wdX5_steps_1 : (Cond.fieldLink RX5 252 "CombinatorRingModel" "drawn" "I") ∈ wsX5_steps := List.mem_of_getElem? (i := 1) rfl
def m_steps_18 : Nat → OSt → Int32 → Int32 → Int32 → Option (Int32 × OSt)
  | 0, _, _, _, _ => none
  | n + 1, st, v1, v2, v4 => if v2 ≤ v4 then some (v4, st) else bd (m_chosen st v1) fun x4 => if x4.1 = (-1) then some (v4, x4.2) else bd (m_reduces x4.2 x4.1) fun x6 => if (x6.2 1 1) ≤ (x6.1 25) then nm (sI x6 25 (x6.1 25)) fun s8 => m_steps_18 n s8 v1 v2 (v4 + 1) else nm (sI x6 25 (x6.2 1 1)) fun s9 => m_steps_18 n s9 v1 v2 (v4 + 1)
def m_steps (st : OSt) (a1 : Int32) (a2 : Int32) (a3 : Int32) : Option (Int32 × OSt) := nm (sI st 24 a3) fun s1 => nm (sI s1 25 (s1.2 1 1)) fun s2 => m_steps_18 20000 s2 a1 a2 0
abbrev rmX5_steps : Room := { frames := 6, cells := 0, slots := 0, locals := 134 }
theorem hdX5_steps : yX5_steps.cls = RX5 ∧ yX5_steps.cls ≠ "java/lang/invoke/MethodHandle" ∧ yX5_steps.cls ≠ "java/lang/invoke/VarHandle" ∧ (parseMethodDescriptor yX5_steps.desc).map (fun d => d.parameters.length) = some 3 := by decide +kernel
set_option maxHeartbeats 4000000 in
set_option maxRecDepth 100000 in
theorem t_X5_steps_18 {p : Program} {l : Launch} {e : Env} {s : State} {m : MethodId} {args : Array Value} {below : List Frame} {meth : Method} {c : Code} {A : Nat → Prop} {G : Gx} {q : Nat → Nat} {st0 : OSt} (C : Cx p s m args meth c G cX5_steps wsX5_steps RX5 (some .int) 6 A) (hD : va_D A (wM G q st0)) :
    ∀ {n : Nat} {st : OSt} {v1 : Int32} {v2 : Int32} {v4 : Int32} {x : Int32 × OSt}, m_steps_18 n st v1 v2 v4 = some x → ∀ {H : Heap} {locs : List Loc} {ls : Array Slot}, va_P G.1 vwCl (wM G q st) H → va_S A s.heap H locs → lv_has ls 6 [(0, .ref (q 42)), (1, .int v1), (2, .int v2), (4, .int v4)] → W p l e rmX5_steps s m args below meth c H locs 0 0 (MQ below (qE G A (wM G q x.2) (some (.int x.1))) args s 0 0 A) (F0 m 18 ls []) := by
  have hx := C.1
  have hb := C.2.1
  intro n
  induction n with
  | zero => intro st v1 v2 v4 x hf; cases hf
  | succ n ih =>
    intro st v1 v2 v4 x hf H locs ls hP hS hl
    rw [m_steps_18] at hf
    refine lv_iload hx hb dX5_steps_18 (lv_at hl 3 rfl) ?_
    refine lv_iload_n hx hb dX5_steps_20 rfl (lv_at hl 2 rfl) ?_
    refine lv_icmp_ge (tgt := 82) hx hb dX5_steps_21 (by decide) (fun c3 => ?_) (fun c3 => ?_)
    · have hf := if_t c3 hf
      refine lv_iload hx hb dX5_steps_82 (lv_at hl 3 rfl) ?_
      cases hf
      exact q_iret C hP hS rfl dX5_steps_84
    · have hf := if_f c3 hf
      refine lv_aload_n hx hb dX5_steps_24 rfl (lv_at hl 0 rfl) ?_
      refine lv_iload_n hx hb dX5_steps_25 rfl (lv_at hl 1 rfl) ?_
      obtain ⟨x4, hx4, hf⟩ := bd_some hf
      refine q_Vi C (rc := (RX5, TX5, 42)) (q0 := 0) (ci := 5) (ws' := wM G q x4.2) (wr := []) (c_X5_chosen hx4) gX5_steps_X5_chosen rfl ⟨rfl, rfl⟩ hdX5_chosen ⟨(Nat.le_of_ble_eq_true rfl), (Nat.le_of_ble_eq_true rfl)⟩ rfl hP (dd_M hD) hS rfl rfl (List.Perm.refl _) (List.Perm.refl _) hl.1 (Nat.le_of_ble_eq_true rfl) ⟨Nat.zero_le _, Nat.zero_le _⟩ rfl dX5_steps_26 (fun H locs hP hS => ?_)
      refine lv_istore (lv' := [(5, .int x4.1), (0, .ref (q 42)), (1, .int v1), (2, .int v2), (4, .int v4)]) hx hb dX5_steps_29 hl (by decide) rfl (fun ls hl => ?_)
      refine lv_iload hx hb dX5_steps_31 (lv_at hl 0 rfl) ?_
      refine lv_iconst (v := (-1)) hx hb dX5_steps_33 (by decide) ?_
      refine lv_icmp_ne (tgt := 40) hx hb dX5_steps_34 (by decide) (fun c5 => ?_) (fun c5 => ?_)
      · have hf := if_f c5 hf
        refine lv_aload_n hx hb dX5_steps_40 rfl (lv_at hl 1 rfl) ?_
        refine lv_iload hx hb dX5_steps_41 (lv_at hl 0 rfl) ?_
        obtain ⟨x6, hx6, hf⟩ := bd_some hf
        refine q_Vv C (rc := (RX5, TX5, 42)) (q0 := 0) (ci := 5) (ws' := wM G q x6) (wr := []) (c_X5_reduces hx6) gX5_steps_X5_reduces rfl ⟨rfl, rfl⟩ hdX5_reduces ⟨(Nat.le_of_ble_eq_true rfl), (Nat.le_of_ble_eq_true rfl)⟩ rfl hP (dd_M hD) hS rfl rfl (List.Perm.refl _) (List.Perm.refl _) hl.1 (Nat.le_of_ble_eq_true rfl) ⟨Nat.zero_le _, Nat.zero_le _⟩ rfl dX5_steps_43 (fun H locs hP hS => ?_)
        refine lv_iinc (v := (v4 + 1)) (lv' := [(4, .int (v4 + 1)), (5, .int x4.1), (0, .ref (q 42)), (1, .int v1), (2, .int v2)]) hx hb dX5_steps_46 hl (k := 4) rfl rfl (by decide) rfl (fun ls hl => ?_)
        refine lv_aload_n hx hb dX5_steps_49 rfl (lv_at hl 2 rfl) ?_
        refine lv_aload_n hx hb dX5_steps_50 rfl (lv_at hl 2 rfl) ?_
        refine q_get C hP wM_o rfl hiX5_steps_X5 1 (by decide) wdX5_steps_2 rfl dX5_steps_51 ?_
        refine lv_iconst (v := 1) hx hb dX5_steps_54 (by decide) ?_
        refine q_iald C hP wM_a_1 (j := 1) (by decide) (vp_k (j := 1) (by decide) (by decide) (by decide)) dX5_steps_55 ?_
        refine lv_aload_n hx hb dX5_steps_56 rfl (lv_at hl 2 rfl) ?_
        refine q_get C hP wM_o rfl hiX5_steps_X5 25 (by decide) wdX5_steps_3 rfl dX5_steps_57 ?_
        refine lv_icmp_le (tgt := 72) hx hb dX5_steps_60 (by decide) (fun c7 => ?_) (fun c7 => ?_)
        · have hf := if_t c7 hf
          refine lv_aload_n hx hb dX5_steps_72 rfl (lv_at hl 2 rfl) ?_
          refine q_get C hP wM_o rfl hiX5_steps_X5 25 (by decide) wdX5_steps_3 rfl dX5_steps_73 ?_
          obtain ⟨s8, es8, hf⟩ := nm_ex hf
          refine q_put C hP (dd_M hD) hS wM_o rfl hiX5_steps_X5 tyX5_ok nmX5 25 (by decide) wdX5_steps_3 rfl rfl rfl (Nat.le_of_ble_eq_true rfl) wM_sI_25 dX5_steps_76 (fun H locs hP hS => ?_)
          rw [es8] at hP
          refine lv_goto (tgt := 18) hx hb dX5_steps_79 (by decide) ?_
          exact ih hf hP hS (lv_sub hl [2, 3, 4, 0] rfl)
        · have hf := if_f c7 hf
          refine lv_aload_n hx hb dX5_steps_63 rfl (lv_at hl 2 rfl) ?_
          refine q_get C hP wM_o rfl hiX5_steps_X5 1 (by decide) wdX5_steps_2 rfl dX5_steps_64 ?_
          refine lv_iconst (v := 1) hx hb dX5_steps_67 (by decide) ?_
          refine q_iald C hP wM_a_1 (j := 1) (by decide) (vp_k (j := 1) (by decide) (by decide) (by decide)) dX5_steps_68 ?_
          refine lv_goto (tgt := 76) hx hb dX5_steps_69 (by decide) ?_
          obtain ⟨s9, es9, hf⟩ := nm_ex hf
          refine q_put C hP (dd_M hD) hS wM_o rfl hiX5_steps_X5 tyX5_ok nmX5 25 (by decide) wdX5_steps_3 rfl rfl rfl (Nat.le_of_ble_eq_true rfl) wM_sI_25 dX5_steps_76 (fun H locs hP hS => ?_)
          rw [es9] at hP
          refine lv_goto (tgt := 18) hx hb dX5_steps_79 (by decide) ?_
          exact ih hf hP hS (lv_sub hl [2, 3, 4, 0] rfl)
      · have hf := if_t c5 hf
        refine lv_iload hx hb dX5_steps_37 (lv_at hl 4 rfl) ?_
        cases hf
        exact q_iret C hP hS rfl dX5_steps_39
set_option maxHeartbeats 4000000 in
set_option maxRecDepth 100000 in
theorem c_X5_steps {l : Launch} {G : Gx} {q : Nat → Nat} {st : OSt} {a1 : Int32} {a2 : Int32} {a3 : Int32} {x : Int32 × OSt} (hf : m_steps st a1 a2 a3 = some x) : QM l G yX5_steps wsX5_steps rmX5_steps [.ref (q 42), .int a1, .int a2, .int a3] (wM G q st) (wM G q x.2) (some (.int x.1)) := by
  refine QM.of (cc := cX5_steps) (maxL := 6) (ret := (some .int)) (by decide) rfl (Nat.le_of_ble_eq_true rfl) ?_
  intro p e s m below meth c A ls C hD hP hS hl
  have hx := C.1
  have hb := C.2.1
  have hl : lv_has ls 6 [(0, .ref (q 42)), (1, .int a1), (2, .int a2), (3, .int a3)] := hl
  unfold m_steps at hf
  refine lv_aload_n hx hb dX5_steps_0 rfl (lv_at hl 0 rfl) ?_
  refine lv_iload_n hx hb dX5_steps_1 rfl (lv_at hl 3 rfl) ?_
  obtain ⟨s1, es1, hf⟩ := nm_ex hf
  refine q_put C hP (dd_M hD) hS wM_o rfl hiX5_steps_X5 tyX5_ok nmX5 24 (by decide) wdX5_steps_1 rfl rfl rfl (Nat.le_of_ble_eq_true rfl) wM_sI_24 dX5_steps_2 (fun H locs hP hS => ?_)
  rw [es1] at hP
  refine lv_aload_n hx hb dX5_steps_5 rfl (lv_at hl 0 rfl) ?_
  refine lv_aload_n hx hb dX5_steps_6 rfl (lv_at hl 0 rfl) ?_
  refine q_get C hP wM_o rfl hiX5_steps_X5 1 (by decide) wdX5_steps_2 rfl dX5_steps_7 ?_
  refine lv_iconst (v := 1) hx hb dX5_steps_10 (by decide) ?_
  refine q_iald C hP wM_a_1 (j := 1) (by decide) (vp_k (j := 1) (by decide) (by decide) (by decide)) dX5_steps_11 ?_
  obtain ⟨s2, es2, hf⟩ := nm_ex hf
  refine q_put C hP (dd_M hD) hS wM_o rfl hiX5_steps_X5 tyX5_ok nmX5 25 (by decide) wdX5_steps_3 rfl rfl rfl (Nat.le_of_ble_eq_true rfl) wM_sI_25 dX5_steps_12 (fun H locs hP hS => ?_)
  rw [es2] at hP
  refine lv_iconst (v := 0) hx hb dX5_steps_15 (by decide) ?_
  refine lv_istore (lv' := [(4, .int 0), (0, .ref (q 42)), (1, .int a1), (2, .int a2), (3, .int a3)]) hx hb dX5_steps_16 hl (by decide) rfl (fun ls hl => ?_)
  exact t_X5_steps_18 C hD hf hP hS (lv_sub hl [1, 2, 3, 0] rfl)

-- X5_goesRound
theorem hiX5_goesRound_X5 : ∀ w ∈ u_ws RX5 TX5 42, w ∈ wsX5_goesRound := mem_run (i := 71) (by decide +kernel)
theorem wdX5_goesRound_1 : (Cond.fieldLink RX5 52 "CombinatorRingModel" "rounded" "[I") ∈ wsX5_goesRound := List.mem_of_getElem? (i := 1) rfl
def m_goesRound_4 : Nat → OSt → Int32 → Int32 → Option (OSt × Int32)
  | 0, _, _, _ => none
  | n + 1, st, v1, v2 => if 300 ≤ v2 then some (st, v1) else bd (m_isPair st v2) fun x4 => if x4 = 0 then m_goesRound_4 n st v1 (v2 + 1) else gd v1 150 (nm (sA st 27 (upd (st.2 27) v1.toNatClampNeg v2)) fun s6 => m_goesRound_4 n s6 (v1 + 1) (v2 + 1))
def m_goesRound_39 : Nat → OSt → Int32 → Int32 → Int32 → Option (OSt × Int32)
  | 0, _, _, _, _ => none
  | n + 1, st, v1, v2, v3 => if v1 ≤ v3 then some (st, v2) else gd v3 150 (bd (m_canReduce st (st.2 27 v3.toNatClampNeg)) fun x8 => if x8 = 0 then m_goesRound_39 n st v1 v2 (v3 + 1) else gd v3 150 (bd (m_reduces st (st.2 27 v3.toNatClampNeg)) fun x10 => m_goesRound_39 n x10 v1 (v2 + 1) (v3 + 1)))
def m_goesRound (st : OSt)  : Option (Int32 × OSt) := bd (m_goesRound_4 20000 st 0 0) fun x1 => bd (m_goesRound_39 20000 x1.1 x1.2 0 0) fun x2 => some (x2.2, x2.1)
abbrev rmX5_goesRound : Room := { frames := 4, cells := 0, slots := 0, locals := 96 }
theorem hdX5_goesRound : yX5_goesRound.cls = RX5 ∧ yX5_goesRound.cls ≠ "java/lang/invoke/MethodHandle" ∧ yX5_goesRound.cls ≠ "java/lang/invoke/VarHandle" ∧ (parseMethodDescriptor yX5_goesRound.desc).map (fun d => d.parameters.length) = some 0 := by decide +kernel
set_option maxHeartbeats 4000000 in
set_option maxRecDepth 100000 in
theorem t_X5_goesRound_4 {p : Program} {l : Launch} {e : Env} {s : State} {m : MethodId} {args : Array Value} {below : List Frame} {meth : Method} {c : Code} {Q : State → Prop} {A : Nat → Prop} {G : Gx} {q : Nat → Nat} {st0 : OSt} (C : Cx p s m args meth c G cX5_goesRound wsX5_goesRound RX5 (some .int) 4 A) (hD : va_D A (wM G q st0)) :
    ∀ {n : Nat} {st : OSt} {v1 : Int32} {v2 : Int32} {x : OSt × Int32}, m_goesRound_4 n st v1 v2 = some x → ∀ {H : Heap} {locs : List Loc} {ls : Array Slot}, va_P G.1 vwCl (wM G q st) H → va_S A s.heap H locs → lv_has ls 4 [(0, .ref (q 42)), (1, .int v1), (2, .int v2)] → (∀ {H : Heap} {locs : List Loc} {ls : Array Slot}, va_P G.1 vwCl (wM G q x.1) H → va_S A s.heap H locs → lv_has ls 4 [(0, .ref (q 42)), (1, .int x.2)] → W p l e rmX5_goesRound s m args below meth c H locs 0 0 Q (F0 m 35 ls [])) → W p l e rmX5_goesRound s m args below meth c H locs 0 0 Q (F0 m 4 ls []) := by
  have hx := C.1
  have hb := C.2.1
  intro n
  induction n with
  | zero => intro st v1 v2 x hf; cases hf
  | succ n ih =>
    intro st v1 v2 x hf H locs ls hP hS hl kk
    rw [m_goesRound_4] at hf
    refine lv_iload_n hx hb dX5_goesRound_4 rfl (lv_at hl 2 rfl) ?_
    refine lv_sipush (v := 300) hx hb dX5_goesRound_5 (by decide) ?_
    refine lv_icmp_ge (tgt := 35) hx hb dX5_goesRound_8 (by decide) (fun c3 => ?_) (fun c3 => ?_)
    · have hf := if_t c3 hf
      cases hf
      exact kk hP hS (lv_sub hl [0, 1] rfl)
    · have hf := if_f c3 hf
      refine lv_aload_n hx hb dX5_goesRound_11 rfl (lv_at hl 0 rfl) ?_
      refine lv_iload_n hx hb dX5_goesRound_12 rfl (lv_at hl 2 rfl) ?_
      obtain ⟨x4, hx4, hf⟩ := bd_some hf
      refine q_Vi C (rc := (RX5, TX5, 42)) (q0 := 0) (ci := 5) (ws' := wM G q st) (wr := []) (c_X5_isPair hx4) gX5_goesRound_X5_isPair rfl ⟨rfl, rfl⟩ hdX5_isPair ⟨(Nat.le_of_ble_eq_true rfl), (Nat.le_of_ble_eq_true rfl)⟩ rfl hP (dd_M hD) hS rfl rfl (List.Perm.refl _) (List.Perm.refl _) hl.1 (Nat.le_of_ble_eq_true rfl) ⟨Nat.zero_le _, Nat.zero_le _⟩ rfl dX5_goesRound_13 (fun H locs hP hS => ?_)
      refine lv_if_eq (tgt := 29) hx hb dX5_goesRound_16 (by decide) (fun c5 => ?_) (fun c5 => ?_)
      · have hf := if_t c5 hf
        refine lv_iinc (v := (v2 + 1)) (lv' := [(2, .int (v2 + 1)), (0, .ref (q 42)), (1, .int v1)]) hx hb dX5_goesRound_29 hl (k := 2) rfl rfl (by decide) rfl (fun ls hl => ?_)
        refine lv_goto (tgt := 4) hx hb dX5_goesRound_32 (by decide) ?_
        exact ih hf hP hS (lv_sub hl [1, 2, 0] rfl) kk
      · have hf := if_f c5 hf
        refine lv_aload_n hx hb dX5_goesRound_19 rfl (lv_at hl 0 rfl) ?_
        refine q_get C hP wM_o rfl hiX5_goesRound_X5 27 (by decide) wdX5_goesRound_1 rfl dX5_goesRound_20 ?_
        refine lv_iload_n hx hb dX5_goesRound_23 rfl (lv_at hl 1 rfl) ?_
        refine lv_iload_n hx hb dX5_goesRound_24 rfl (lv_at hl 2 rfl) ?_
        obtain ⟨hin, hf⟩ := gd_some hf
        obtain ⟨s6, es6, hf⟩ := nm_ex hf
        refine q_iast C hP (dd_M hD) hS wM_a_27 rfl wM_sA_27 hin dX5_goesRound_25 (fun H locs hP hS => ?_)
        rw [es6] at hP
        refine lv_iinc (v := (v1 + 1)) (lv' := [(1, .int (v1 + 1)), (0, .ref (q 42)), (2, .int v2)]) hx hb dX5_goesRound_26 hl (k := 1) rfl rfl (by decide) rfl (fun ls hl => ?_)
        refine lv_iinc (v := (v2 + 1)) (lv' := [(2, .int (v2 + 1)), (1, .int (v1 + 1)), (0, .ref (q 42))]) hx hb dX5_goesRound_29 hl (k := 2) rfl rfl (by decide) rfl (fun ls hl => ?_)
        refine lv_goto (tgt := 4) hx hb dX5_goesRound_32 (by decide) ?_
        exact ih hf hP hS (lv_sub hl [2, 1, 0] rfl) kk
set_option maxHeartbeats 4000000 in
set_option maxRecDepth 100000 in
theorem t_X5_goesRound_39 {p : Program} {l : Launch} {e : Env} {s : State} {m : MethodId} {args : Array Value} {below : List Frame} {meth : Method} {c : Code} {Q : State → Prop} {A : Nat → Prop} {G : Gx} {q : Nat → Nat} {st0 : OSt} (C : Cx p s m args meth c G cX5_goesRound wsX5_goesRound RX5 (some .int) 4 A) (hD : va_D A (wM G q st0)) :
    ∀ {n : Nat} {st : OSt} {v1 : Int32} {v2 : Int32} {v3 : Int32} {x : OSt × Int32}, m_goesRound_39 n st v1 v2 v3 = some x → ∀ {H : Heap} {locs : List Loc} {ls : Array Slot}, va_P G.1 vwCl (wM G q st) H → va_S A s.heap H locs → lv_has ls 4 [(0, .ref (q 42)), (1, .int v1), (2, .int v2), (3, .int v3)] → (∀ {H : Heap} {locs : List Loc} {ls : Array Slot}, va_P G.1 vwCl (wM G q x.1) H → va_S A s.heap H locs → lv_has ls 4 [(2, .int x.2)] → W p l e rmX5_goesRound s m args below meth c H locs 0 0 Q (F0 m 76 ls [])) → W p l e rmX5_goesRound s m args below meth c H locs 0 0 Q (F0 m 39 ls []) := by
  have hx := C.1
  have hb := C.2.1
  intro n
  induction n with
  | zero => intro st v1 v2 v3 x hf; cases hf
  | succ n ih =>
    intro st v1 v2 v3 x hf H locs ls hP hS hl kk
    rw [m_goesRound_39] at hf
    refine lv_iload_n hx hb dX5_goesRound_39 rfl (lv_at hl 3 rfl) ?_
    refine lv_iload_n hx hb dX5_goesRound_40 rfl (lv_at hl 1 rfl) ?_
    refine lv_icmp_ge (tgt := 76) hx hb dX5_goesRound_41 (by decide) (fun c7 => ?_) (fun c7 => ?_)
    · have hf := if_t c7 hf
      cases hf
      exact kk hP hS (lv_sub hl [2] rfl)
    · have hf := if_f c7 hf
      refine lv_aload_n hx hb dX5_goesRound_44 rfl (lv_at hl 0 rfl) ?_
      refine lv_aload_n hx hb dX5_goesRound_45 rfl (lv_at hl 0 rfl) ?_
      refine q_get C hP wM_o rfl hiX5_goesRound_X5 27 (by decide) wdX5_goesRound_1 rfl dX5_goesRound_46 ?_
      refine lv_iload_n hx hb dX5_goesRound_49 rfl (lv_at hl 3 rfl) ?_
      obtain ⟨hin, hf⟩ := gd_some hf
      refine q_iald C hP wM_a_27 rfl hin dX5_goesRound_50 ?_
      obtain ⟨x8, hx8, hf⟩ := bd_some hf
      refine q_Vi C (rc := (RX5, TX5, 42)) (q0 := 0) (ci := 5) (ws' := wM G q st) (wr := []) (c_X5_canReduce hx8) gX5_goesRound_X5_canReduce rfl ⟨rfl, rfl⟩ hdX5_canReduce ⟨(Nat.le_of_ble_eq_true rfl), (Nat.le_of_ble_eq_true rfl)⟩ rfl hP (dd_M hD) hS rfl rfl (List.Perm.refl _) (List.Perm.refl _) hl.1 (Nat.le_of_ble_eq_true rfl) ⟨Nat.zero_le _, Nat.zero_le _⟩ rfl dX5_goesRound_51 (fun H locs hP hS => ?_)
      refine lv_if_eq (tgt := 70) hx hb dX5_goesRound_54 (by decide) (fun c9 => ?_) (fun c9 => ?_)
      · have hf := if_t c9 hf
        refine lv_iinc (v := (v3 + 1)) (lv' := [(3, .int (v3 + 1)), (0, .ref (q 42)), (1, .int v1), (2, .int v2)]) hx hb dX5_goesRound_70 hl (k := 3) rfl rfl (by decide) rfl (fun ls hl => ?_)
        refine lv_goto (tgt := 39) hx hb dX5_goesRound_73 (by decide) ?_
        exact ih hf hP hS (lv_sub hl [1, 2, 3, 0] rfl) kk
      · have hf := if_f c9 hf
        refine lv_aload_n hx hb dX5_goesRound_57 rfl (lv_at hl 0 rfl) ?_
        refine lv_aload_n hx hb dX5_goesRound_58 rfl (lv_at hl 0 rfl) ?_
        refine q_get C hP wM_o rfl hiX5_goesRound_X5 27 (by decide) wdX5_goesRound_1 rfl dX5_goesRound_59 ?_
        refine lv_iload_n hx hb dX5_goesRound_62 rfl (lv_at hl 3 rfl) ?_
        obtain ⟨hin, hf⟩ := gd_some hf
        refine q_iald C hP wM_a_27 rfl hin dX5_goesRound_63 ?_
        obtain ⟨x10, hx10, hf⟩ := bd_some hf
        refine q_Vv C (rc := (RX5, TX5, 42)) (q0 := 0) (ci := 5) (ws' := wM G q x10) (wr := []) (c_X5_reduces hx10) gX5_goesRound_X5_reduces rfl ⟨rfl, rfl⟩ hdX5_reduces ⟨(Nat.le_of_ble_eq_true rfl), (Nat.le_of_ble_eq_true rfl)⟩ rfl hP (dd_M hD) hS rfl rfl (List.Perm.refl _) (List.Perm.refl _) hl.1 (Nat.le_of_ble_eq_true rfl) ⟨Nat.zero_le _, Nat.zero_le _⟩ rfl dX5_goesRound_64 (fun H locs hP hS => ?_)
        refine lv_iinc (v := (v2 + 1)) (lv' := [(2, .int (v2 + 1)), (0, .ref (q 42)), (1, .int v1), (3, .int v3)]) hx hb dX5_goesRound_67 hl (k := 2) rfl rfl (by decide) rfl (fun ls hl => ?_)
        refine lv_iinc (v := (v3 + 1)) (lv' := [(3, .int (v3 + 1)), (2, .int (v2 + 1)), (0, .ref (q 42)), (1, .int v1)]) hx hb dX5_goesRound_70 hl (k := 3) rfl rfl (by decide) rfl (fun ls hl => ?_)
        refine lv_goto (tgt := 39) hx hb dX5_goesRound_73 (by decide) ?_
        exact ih hf hP hS (lv_sub hl [2, 3, 1, 0] rfl) kk
set_option maxHeartbeats 4000000 in
set_option maxRecDepth 100000 in
theorem c_X5_goesRound {l : Launch} {G : Gx} {q : Nat → Nat} {st : OSt}  {x : Int32 × OSt} (hf : m_goesRound st = some x) : QM l G yX5_goesRound wsX5_goesRound rmX5_goesRound [.ref (q 42)] (wM G q st) (wM G q x.2) (some (.int x.1)) := by
  refine QM.of (cc := cX5_goesRound) (maxL := 4) (ret := (some .int)) (by decide) rfl (Nat.le_of_ble_eq_true rfl) ?_
  intro p e s m below meth c A ls C hD hP hS hl
  have hx := C.1
  have hb := C.2.1
  have hl : lv_has ls 4 [(0, .ref (q 42))] := hl
  unfold m_goesRound at hf
  refine lv_iconst (v := 0) hx hb dX5_goesRound_0 (by decide) ?_
  refine lv_istore_n (lv' := [(1, .int 0), (0, .ref (q 42))]) hx hb dX5_goesRound_1 rfl hl (by decide) rfl (fun ls hl => ?_)
  refine lv_iconst (v := 0) hx hb dX5_goesRound_2 (by decide) ?_
  refine lv_istore_n (lv' := [(2, .int 0), (1, .int 0), (0, .ref (q 42))]) hx hb dX5_goesRound_3 rfl hl (by decide) rfl (fun ls hl => ?_)
  obtain ⟨x1, hx1, hf⟩ := bd_some hf
  refine t_X5_goesRound_4 C hD hx1 hP hS (lv_sub hl [2, 1, 0] rfl) (fun {H locs ls} hP hS hl => ?_)
  refine lv_iconst (v := 0) hx hb dX5_goesRound_35 (by decide) ?_
  refine lv_istore_n (lv' := [(2, .int 0), (0, .ref (q 42)), (1, .int x1.2)]) hx hb dX5_goesRound_36 rfl hl (by decide) rfl (fun ls hl => ?_)
  refine lv_iconst (v := 0) hx hb dX5_goesRound_37 (by decide) ?_
  refine lv_istore_n (lv' := [(3, .int 0), (2, .int 0), (0, .ref (q 42)), (1, .int x1.2)]) hx hb dX5_goesRound_38 rfl hl (by decide) rfl (fun ls hl => ?_)
  obtain ⟨x2, hx2, hf⟩ := bd_some hf
  refine t_X5_goesRound_39 C hD hx2 hP hS (lv_sub hl [2, 3, 1, 0] rfl) (fun {H locs ls} hP hS hl => ?_)
  refine lv_iload_n hx hb dX5_goesRound_76 rfl (lv_at hl 0 rfl) ?_
  cases hf
  exact q_iret C hP hS rfl dX5_goesRound_77

-- X5_roots
theorem hiX5_roots_X5 : ∀ w ∈ u_ws RX5 TX5 42, w ∈ wsX5_roots := mem_run (i := 2) (by decide +kernel)
theorem wdX5_roots_1 : (Cond.fieldLink RX5 7 "CombinatorRingModel" "now" "[I") ∈ wsX5_roots := List.mem_of_getElem? (i := 1) rfl
def m_roots_4 : Nat → OSt → Int32 → Int32 → Option (Int32)
  | 0, _, _, _ => none
  | n + 1, st, v1, v2 => if 16 ≤ v2 then some v1 else gd (14 + v2) 1646 (nm ((v1 + (st.2 1 (14 + v2).toNatClampNeg))) fun y3 => m_roots_4 n st y3 (v2 + 1))
def m_roots (st : OSt)  : Option (Int32) := bd (m_roots_4 20000 st 0 0) fun x1 => some x1
abbrev rmX5_roots : Room := { frames := 0, cells := 0, slots := 0, locals := 0 }
theorem hdX5_roots : yX5_roots.cls = RX5 ∧ yX5_roots.cls ≠ "java/lang/invoke/MethodHandle" ∧ yX5_roots.cls ≠ "java/lang/invoke/VarHandle" ∧ (parseMethodDescriptor yX5_roots.desc).map (fun d => d.parameters.length) = some 0 := by decide +kernel
set_option maxHeartbeats 4000000 in
set_option maxRecDepth 100000 in
theorem t_X5_roots_4 {p : Program} {l : Launch} {e : Env} {s : State} {m : MethodId} {args : Array Value} {below : List Frame} {meth : Method} {c : Code} {Q : State → Prop} {A : Nat → Prop} {G : Gx} {q : Nat → Nat} {st0 : OSt} (C : Cx p s m args meth c G cX5_roots wsX5_roots RX5 (some .int) 3 A) (hD : va_D A (wM G q st0)) :
    ∀ {n : Nat} {st : OSt} {v1 : Int32} {v2 : Int32} {x : Int32}, m_roots_4 n st v1 v2 = some x → ∀ {H : Heap} {locs : List Loc} {ls : Array Slot}, va_P G.1 vwCl (wM G q st) H → va_S A s.heap H locs → lv_has ls 3 [(0, .ref (q 42)), (1, .int v1), (2, .int v2)] → (∀ {H : Heap} {locs : List Loc} {ls : Array Slot}, va_P G.1 vwCl (wM G q st) H → va_S A s.heap H locs → lv_has ls 3 [(1, .int x)] → W p l e rmX5_roots s m args below meth c H locs 0 0 Q (F0 m 28 ls [])) → W p l e rmX5_roots s m args below meth c H locs 0 0 Q (F0 m 4 ls []) := by
  have hx := C.1
  have hb := C.2.1
  intro n
  induction n with
  | zero => intro st v1 v2 x hf; cases hf
  | succ n ih =>
    intro st v1 v2 x hf H locs ls hP hS hl kk
    rw [m_roots_4] at hf
    refine lv_iload_n hx hb dX5_roots_4 rfl (lv_at hl 2 rfl) ?_
    refine lv_bipush (v := 16) hx hb dX5_roots_5 (by decide) ?_
    refine lv_icmp_ge (tgt := 28) hx hb dX5_roots_7 (by decide) (fun c2 => ?_) (fun c2 => ?_)
    · have hf := if_t c2 hf
      cases hf
      exact kk hP hS (lv_sub hl [1] rfl)
    · have hf := if_f c2 hf
      refine lv_iload_n hx hb dX5_roots_10 rfl (lv_at hl 1 rfl) ?_
      refine lv_aload_n hx hb dX5_roots_11 rfl (lv_at hl 0 rfl) ?_
      refine q_get C hP wM_o rfl hiX5_roots_X5 1 (by decide) wdX5_roots_1 rfl dX5_roots_12 ?_
      refine lv_bipush (v := 14) hx hb dX5_roots_15 (by decide) ?_
      refine lv_iload_n hx hb dX5_roots_17 rfl (lv_at hl 2 rfl) ?_
      refine lv_iadd hx hb dX5_roots_18 ?_
      obtain ⟨hin, hf⟩ := gd_some hf
      refine q_iald C hP wM_a_1 rfl hin dX5_roots_19 ?_
      refine lv_iadd hx hb dX5_roots_20 ?_
      obtain ⟨y3, ey3, hf⟩ := nm_ex hf
      refine lv_tI ey3 ?_
      refine lv_istore_n (lv' := [(1, .int y3), (0, .ref (q 42)), (2, .int v2)]) hx hb dX5_roots_21 rfl hl (by decide) rfl (fun ls hl => ?_)
      refine lv_iinc (v := (v2 + 1)) (lv' := [(2, .int (v2 + 1)), (1, .int y3), (0, .ref (q 42))]) hx hb dX5_roots_22 hl (k := 2) rfl rfl (by decide) rfl (fun ls hl => ?_)
      refine lv_goto (tgt := 4) hx hb dX5_roots_25 (by decide) ?_
      exact ih hf hP hS (lv_sub hl [2, 1, 0] rfl) kk
set_option maxHeartbeats 4000000 in
set_option maxRecDepth 100000 in
theorem c_X5_roots {l : Launch} {G : Gx} {q : Nat → Nat} {st : OSt}  {x : Int32} (hf : m_roots st = some x) : QM l G yX5_roots wsX5_roots rmX5_roots [.ref (q 42)] (wM G q st) (wM G q st) (some (.int x)) := by
  refine QM.of (cc := cX5_roots) (maxL := 3) (ret := (some .int)) (by decide) rfl (Nat.le_of_ble_eq_true rfl) ?_
  intro p e s m below meth c A ls C hD hP hS hl
  have hx := C.1
  have hb := C.2.1
  have hl : lv_has ls 3 [(0, .ref (q 42))] := hl
  unfold m_roots at hf
  refine lv_iconst (v := 0) hx hb dX5_roots_0 (by decide) ?_
  refine lv_istore_n (lv' := [(1, .int 0), (0, .ref (q 42))]) hx hb dX5_roots_1 rfl hl (by decide) rfl (fun ls hl => ?_)
  refine lv_iconst (v := 0) hx hb dX5_roots_2 (by decide) ?_
  refine lv_istore_n (lv' := [(2, .int 0), (1, .int 0), (0, .ref (q 42))]) hx hb dX5_roots_3 rfl hl (by decide) rfl (fun ls hl => ?_)
  obtain ⟨x1, hx1, hf⟩ := bd_some hf
  refine t_X5_roots_4 C hD hx1 hP hS (lv_sub hl [2, 1, 0] rfl) (fun {H locs ls} hP hS hl => ?_)
  refine lv_iload_n hx hb dX5_roots_28 rfl (lv_at hl 0 rfl) ?_
  cases hf
  exact q_iret C hP hS rfl dX5_roots_29

-- X5_count
theorem hiX5_count_X5 : ∀ w ∈ u_ws RX5 TX5 42, w ∈ wsX5_count := mem_run (i := 50) (by decide +kernel)
theorem wdX5_count_2 : (Cond.fieldLink RX5 7 "CombinatorRingModel" "now" "[I") ∈ wsX5_count := List.mem_of_getElem? (i := 2) rfl
theorem wdX5_count_3 : (Cond.fieldLink RX5 79 "CombinatorRingModel" "hasImage" "[Z") ∈ wsX5_count := List.mem_of_getElem? (i := 3) rfl
theorem wdX5_count_4 : (Cond.fieldLink RX5 212 "CombinatorRingModel" "backMany" "I") ∈ wsX5_count := List.mem_of_getElem? (i := 4) rfl
theorem wdX5_count_5 : (Cond.fieldLink RX5 93 "CombinatorRingModel" "taped" "I") ∈ wsX5_count := List.mem_of_getElem? (i := 5) rfl
theorem wdX5_count_1 : (Cond.fieldLink RX5 1 "CombinatorRingModel" "thrown" "I") ∈ wsX5_count := List.mem_of_getElem? (i := 1) rfl
def m_count (st : OSt) (a1 : Int32) : Option (Int32 × OSt) := nm (sI st 0 0) fun s1 => if a1 = 0 then some ((s1.2 1 0), s1) else if a1 = 1 then some ((s1.2 1 1), s1) else if a1 = 2 then some ((s1.2 1 2), s1) else if a1 = 3 then some ((s1.2 1 3), s1) else if a1 = 4 then bd (m_pairs s1 0) fun x2 => some (x2, s1) else if a1 = 5 then bd (m_pairs s1 1) fun x3 => some (x3, s1) else if a1 = 6 then bd (m_roots s1) fun x4 => some (x4, s1) else if a1 = 7 then some ((s1.2 1 6), s1) else if a1 = 8 then some ((s1.2 1 7), s1) else if a1 = 9 then some ((s1.2 1 5), s1) else if a1 = 10 then some (((s1.2 1 4) - 1), s1) else if a1 = 11 then if (s1.2 40 0) = 0 then if (s1.2 40 1) = 0 then some ((0 + 0), s1) else some ((0 + 1), s1) else if (s1.2 40 1) = 0 then some ((1 + 0), s1) else some ((1 + 1), s1) else if a1 = 12 then some ((s1.1 37), s1) else if a1 = 13 then some ((s1.1 3), s1) else some ((-1), s1)
abbrev rmX5_count : Room := { frames := 5, cells := 0, slots := 0, locals := 110 }
theorem hdX5_count : yX5_count.cls = RX5 ∧ yX5_count.cls ≠ "java/lang/invoke/MethodHandle" ∧ yX5_count.cls ≠ "java/lang/invoke/VarHandle" ∧ (parseMethodDescriptor yX5_count.desc).map (fun d => d.parameters.length) = some 1 := by decide +kernel
set_option maxHeartbeats 4000000 in
set_option maxRecDepth 100000 in
theorem c_X5_count {l : Launch} {G : Gx} {q : Nat → Nat} {st : OSt} {a1 : Int32} {x : Int32 × OSt} (hf : m_count st a1 = some x) : QM l G yX5_count wsX5_count rmX5_count [.ref (q 42), .int a1] (wM G q st) (wM G q x.2) (some (.int x.1)) := by
  refine QM.of (cc := cX5_count) (maxL := 2) (ret := (some .int)) (by decide) rfl (Nat.le_of_ble_eq_true rfl) ?_
  intro p e s m below meth c A ls C hD hP hS hl
  have hx := C.1
  have hb := C.2.1
  have hl : lv_has ls 2 [(0, .ref (q 42)), (1, .int a1)] := hl
  unfold m_count at hf
  refine lv_aload_n hx hb dX5_count_0 rfl (lv_at hl 0 rfl) ?_
  refine lv_iconst (v := 0) hx hb dX5_count_1 (by decide) ?_
  obtain ⟨s1, es1, hf⟩ := nm_ex hf
  refine q_put C hP (dd_M hD) hS wM_o rfl hiX5_count_X5 tyX5_ok nmX5 0 (by decide) wdX5_count_1 rfl rfl rfl (Nat.le_of_ble_eq_true rfl) wM_sI_0 dX5_count_2 (fun H locs hP hS => ?_)
  rw [es1] at hP
  refine lv_iload_n hx hb dX5_count_5 rfl (lv_at hl 1 rfl) ?_
  by_cases c8 : a1 = 0
  · have hf := if_t c8 hf
    refine lv_tableIn (off := 70) (tgt := 76) hx hb dX5_count_6 (by rw [c8]; decide) (by rw [c8]; decide) (by rw [c8]; rfl) (by decide) ?_
    refine lv_aload_n hx hb dX5_count_76 rfl (lv_at hl 0 rfl) ?_
    refine q_get C hP wM_o rfl hiX5_count_X5 1 (by decide) wdX5_count_2 rfl dX5_count_77 ?_
    refine lv_iconst (v := 0) hx hb dX5_count_80 (by decide) ?_
    refine q_iald C hP wM_a_1 (j := 0) (by decide) (vp_k (j := 0) (by decide) (by decide) (by decide)) dX5_count_81 ?_
    cases hf
    exact q_iret C hP hS rfl dX5_count_82
  have hf := if_f c8 hf
  by_cases c9 : a1 = 1
  · have hf := if_t c9 hf
    refine lv_tableIn (off := 77) (tgt := 83) hx hb dX5_count_6 (by rw [c9]; decide) (by rw [c9]; decide) (by rw [c9]; rfl) (by decide) ?_
    refine lv_aload_n hx hb dX5_count_83 rfl (lv_at hl 0 rfl) ?_
    refine q_get C hP wM_o rfl hiX5_count_X5 1 (by decide) wdX5_count_2 rfl dX5_count_84 ?_
    refine lv_iconst (v := 1) hx hb dX5_count_87 (by decide) ?_
    refine q_iald C hP wM_a_1 (j := 1) (by decide) (vp_k (j := 1) (by decide) (by decide) (by decide)) dX5_count_88 ?_
    cases hf
    exact q_iret C hP hS rfl dX5_count_89
  have hf := if_f c9 hf
  by_cases c10 : a1 = 2
  · have hf := if_t c10 hf
    refine lv_tableIn (off := 84) (tgt := 90) hx hb dX5_count_6 (by rw [c10]; decide) (by rw [c10]; decide) (by rw [c10]; rfl) (by decide) ?_
    refine lv_aload_n hx hb dX5_count_90 rfl (lv_at hl 0 rfl) ?_
    refine q_get C hP wM_o rfl hiX5_count_X5 1 (by decide) wdX5_count_2 rfl dX5_count_91 ?_
    refine lv_iconst (v := 2) hx hb dX5_count_94 (by decide) ?_
    refine q_iald C hP wM_a_1 (j := 2) (by decide) (vp_k (j := 2) (by decide) (by decide) (by decide)) dX5_count_95 ?_
    cases hf
    exact q_iret C hP hS rfl dX5_count_96
  have hf := if_f c10 hf
  by_cases c11 : a1 = 3
  · have hf := if_t c11 hf
    refine lv_tableIn (off := 91) (tgt := 97) hx hb dX5_count_6 (by rw [c11]; decide) (by rw [c11]; decide) (by rw [c11]; rfl) (by decide) ?_
    refine lv_aload_n hx hb dX5_count_97 rfl (lv_at hl 0 rfl) ?_
    refine q_get C hP wM_o rfl hiX5_count_X5 1 (by decide) wdX5_count_2 rfl dX5_count_98 ?_
    refine lv_iconst (v := 3) hx hb dX5_count_101 (by decide) ?_
    refine q_iald C hP wM_a_1 (j := 3) (by decide) (vp_k (j := 3) (by decide) (by decide) (by decide)) dX5_count_102 ?_
    cases hf
    exact q_iret C hP hS rfl dX5_count_103
  have hf := if_f c11 hf
  by_cases c12 : a1 = 4
  · have hf := if_t c12 hf
    refine lv_tableIn (off := 98) (tgt := 104) hx hb dX5_count_6 (by rw [c12]; decide) (by rw [c12]; decide) (by rw [c12]; rfl) (by decide) ?_
    refine lv_aload_n hx hb dX5_count_104 rfl (lv_at hl 0 rfl) ?_
    refine lv_iconst (v := 0) hx hb dX5_count_105 (by decide) ?_
    obtain ⟨x2, hx2, hf⟩ := bd_some hf
    refine q_Vi C (rc := (RX5, TX5, 42)) (q0 := 0) (ci := 5) (ws' := wM G q s1) (wr := []) (c_X5_pairs hx2) gX5_count_X5_pairs rfl ⟨rfl, rfl⟩ hdX5_pairs ⟨(Nat.le_of_ble_eq_true rfl), (Nat.le_of_ble_eq_true rfl)⟩ rfl hP (dd_M hD) hS rfl rfl (List.Perm.refl _) (List.Perm.refl _) hl.1 (Nat.le_of_ble_eq_true rfl) ⟨Nat.zero_le _, Nat.zero_le _⟩ rfl dX5_count_106 (fun H locs hP hS => ?_)
    cases hf
    exact q_iret C hP hS rfl dX5_count_109
  have hf := if_f c12 hf
  by_cases c13 : a1 = 5
  · have hf := if_t c13 hf
    refine lv_tableIn (off := 104) (tgt := 110) hx hb dX5_count_6 (by rw [c13]; decide) (by rw [c13]; decide) (by rw [c13]; rfl) (by decide) ?_
    refine lv_aload_n hx hb dX5_count_110 rfl (lv_at hl 0 rfl) ?_
    refine lv_iconst (v := 1) hx hb dX5_count_111 (by decide) ?_
    obtain ⟨x3, hx3, hf⟩ := bd_some hf
    refine q_Vi C (rc := (RX5, TX5, 42)) (q0 := 0) (ci := 5) (ws' := wM G q s1) (wr := []) (c_X5_pairs hx3) gX5_count_X5_pairs rfl ⟨rfl, rfl⟩ hdX5_pairs ⟨(Nat.le_of_ble_eq_true rfl), (Nat.le_of_ble_eq_true rfl)⟩ rfl hP (dd_M hD) hS rfl rfl (List.Perm.refl _) (List.Perm.refl _) hl.1 (Nat.le_of_ble_eq_true rfl) ⟨Nat.zero_le _, Nat.zero_le _⟩ rfl dX5_count_112 (fun H locs hP hS => ?_)
    cases hf
    exact q_iret C hP hS rfl dX5_count_115
  have hf := if_f c13 hf
  by_cases c14 : a1 = 6
  · have hf := if_t c14 hf
    refine lv_tableIn (off := 110) (tgt := 116) hx hb dX5_count_6 (by rw [c14]; decide) (by rw [c14]; decide) (by rw [c14]; rfl) (by decide) ?_
    refine lv_aload_n hx hb dX5_count_116 rfl (lv_at hl 0 rfl) ?_
    obtain ⟨x4, hx4, hf⟩ := bd_some hf
    refine q_Vi C (rc := (RX5, TX5, 42)) (q0 := 0) (ci := 5) (ws' := wM G q s1) (wr := []) (c_X5_roots hx4) gX5_count_X5_roots rfl ⟨rfl, rfl⟩ hdX5_roots ⟨(Nat.le_of_ble_eq_true rfl), (Nat.le_of_ble_eq_true rfl)⟩ rfl hP (dd_M hD) hS rfl rfl (List.Perm.refl _) (List.Perm.refl _) hl.1 (Nat.le_of_ble_eq_true rfl) ⟨Nat.zero_le _, Nat.zero_le _⟩ rfl dX5_count_117 (fun H locs hP hS => ?_)
    cases hf
    exact q_iret C hP hS rfl dX5_count_120
  have hf := if_f c14 hf
  by_cases c15 : a1 = 7
  · have hf := if_t c15 hf
    refine lv_tableIn (off := 115) (tgt := 121) hx hb dX5_count_6 (by rw [c15]; decide) (by rw [c15]; decide) (by rw [c15]; rfl) (by decide) ?_
    refine lv_aload_n hx hb dX5_count_121 rfl (lv_at hl 0 rfl) ?_
    refine q_get C hP wM_o rfl hiX5_count_X5 1 (by decide) wdX5_count_2 rfl dX5_count_122 ?_
    refine lv_bipush (v := 6) hx hb dX5_count_125 (by decide) ?_
    refine q_iald C hP wM_a_1 (j := 6) (by decide) (vp_k (j := 6) (by decide) (by decide) (by decide)) dX5_count_127 ?_
    cases hf
    exact q_iret C hP hS rfl dX5_count_128
  have hf := if_f c15 hf
  by_cases c16 : a1 = 8
  · have hf := if_t c16 hf
    refine lv_tableIn (off := 123) (tgt := 129) hx hb dX5_count_6 (by rw [c16]; decide) (by rw [c16]; decide) (by rw [c16]; rfl) (by decide) ?_
    refine lv_aload_n hx hb dX5_count_129 rfl (lv_at hl 0 rfl) ?_
    refine q_get C hP wM_o rfl hiX5_count_X5 1 (by decide) wdX5_count_2 rfl dX5_count_130 ?_
    refine lv_bipush (v := 7) hx hb dX5_count_133 (by decide) ?_
    refine q_iald C hP wM_a_1 (j := 7) (by decide) (vp_k (j := 7) (by decide) (by decide) (by decide)) dX5_count_135 ?_
    cases hf
    exact q_iret C hP hS rfl dX5_count_136
  have hf := if_f c16 hf
  by_cases c17 : a1 = 9
  · have hf := if_t c17 hf
    refine lv_tableIn (off := 131) (tgt := 137) hx hb dX5_count_6 (by rw [c17]; decide) (by rw [c17]; decide) (by rw [c17]; rfl) (by decide) ?_
    refine lv_aload_n hx hb dX5_count_137 rfl (lv_at hl 0 rfl) ?_
    refine q_get C hP wM_o rfl hiX5_count_X5 1 (by decide) wdX5_count_2 rfl dX5_count_138 ?_
    refine lv_iconst (v := 5) hx hb dX5_count_141 (by decide) ?_
    refine q_iald C hP wM_a_1 (j := 5) (by decide) (vp_k (j := 5) (by decide) (by decide) (by decide)) dX5_count_142 ?_
    cases hf
    exact q_iret C hP hS rfl dX5_count_143
  have hf := if_f c17 hf
  by_cases c18 : a1 = 10
  · have hf := if_t c18 hf
    refine lv_tableIn (off := 138) (tgt := 144) hx hb dX5_count_6 (by rw [c18]; decide) (by rw [c18]; decide) (by rw [c18]; rfl) (by decide) ?_
    refine lv_aload_n hx hb dX5_count_144 rfl (lv_at hl 0 rfl) ?_
    refine q_get C hP wM_o rfl hiX5_count_X5 1 (by decide) wdX5_count_2 rfl dX5_count_145 ?_
    refine lv_iconst (v := 4) hx hb dX5_count_148 (by decide) ?_
    refine q_iald C hP wM_a_1 (j := 4) (by decide) (vp_k (j := 4) (by decide) (by decide) (by decide)) dX5_count_149 ?_
    refine lv_iconst (v := 1) hx hb dX5_count_150 (by decide) ?_
    refine lv_isub hx hb dX5_count_151 ?_
    cases hf
    exact q_iret C hP hS rfl dX5_count_152
  have hf := if_f c18 hf
  by_cases c19 : a1 = 11
  · have hf := if_t c19 hf
    refine lv_tableIn (off := 147) (tgt := 153) hx hb dX5_count_6 (by rw [c19]; decide) (by rw [c19]; decide) (by rw [c19]; rfl) (by decide) ?_
    refine lv_aload_n hx hb dX5_count_153 rfl (lv_at hl 0 rfl) ?_
    refine q_get C hP wM_o rfl hiX5_count_X5 40 (by decide) wdX5_count_3 rfl dX5_count_154 ?_
    refine lv_iconst (v := 0) hx hb dX5_count_157 (by decide) ?_
    refine q_zald C hP wM_a_40 (j := 0) (by decide) (vp_k (j := 0) (by decide) (by decide) (by decide)) dX5_count_158 ?_
    refine lv_if_eq (tgt := 166) hx hb dX5_count_159 (by decide) (fun c5 => ?_) (fun c5 => ?_)
    · have hf := if_t c5 hf
      refine lv_iconst (v := 0) hx hb dX5_count_166 (by decide) ?_
      refine lv_aload_n hx hb dX5_count_167 rfl (lv_at hl 0 rfl) ?_
      refine q_get C hP wM_o rfl hiX5_count_X5 40 (by decide) wdX5_count_3 rfl dX5_count_168 ?_
      refine lv_iconst (v := 1) hx hb dX5_count_171 (by decide) ?_
      refine q_zald C hP wM_a_40 (j := 1) (by decide) (vp_k (j := 1) (by decide) (by decide) (by decide)) dX5_count_172 ?_
      refine lv_if_eq (tgt := 180) hx hb dX5_count_173 (by decide) (fun c6 => ?_) (fun c6 => ?_)
      · have hf := if_t c6 hf
        refine lv_iconst (v := 0) hx hb dX5_count_180 (by decide) ?_
        refine lv_iadd hx hb dX5_count_181 ?_
        cases hf
        exact q_iret C hP hS rfl dX5_count_182
      · have hf := if_f c6 hf
        refine lv_iconst (v := 1) hx hb dX5_count_176 (by decide) ?_
        refine lv_goto (tgt := 181) hx hb dX5_count_177 (by decide) ?_
        refine lv_iadd hx hb dX5_count_181 ?_
        cases hf
        exact q_iret C hP hS rfl dX5_count_182
    · have hf := if_f c5 hf
      refine lv_iconst (v := 1) hx hb dX5_count_162 (by decide) ?_
      refine lv_goto (tgt := 167) hx hb dX5_count_163 (by decide) ?_
      refine lv_aload_n hx hb dX5_count_167 rfl (lv_at hl 0 rfl) ?_
      refine q_get C hP wM_o rfl hiX5_count_X5 40 (by decide) wdX5_count_3 rfl dX5_count_168 ?_
      refine lv_iconst (v := 1) hx hb dX5_count_171 (by decide) ?_
      refine q_zald C hP wM_a_40 (j := 1) (by decide) (vp_k (j := 1) (by decide) (by decide) (by decide)) dX5_count_172 ?_
      refine lv_if_eq (tgt := 180) hx hb dX5_count_173 (by decide) (fun c7 => ?_) (fun c7 => ?_)
      · have hf := if_t c7 hf
        refine lv_iconst (v := 0) hx hb dX5_count_180 (by decide) ?_
        refine lv_iadd hx hb dX5_count_181 ?_
        cases hf
        exact q_iret C hP hS rfl dX5_count_182
      · have hf := if_f c7 hf
        refine lv_iconst (v := 1) hx hb dX5_count_176 (by decide) ?_
        refine lv_goto (tgt := 181) hx hb dX5_count_177 (by decide) ?_
        refine lv_iadd hx hb dX5_count_181 ?_
        cases hf
        exact q_iret C hP hS rfl dX5_count_182
  have hf := if_f c19 hf
  by_cases c20 : a1 = 12
  · have hf := if_t c20 hf
    refine lv_tableIn (off := 177) (tgt := 183) hx hb dX5_count_6 (by rw [c20]; decide) (by rw [c20]; decide) (by rw [c20]; rfl) (by decide) ?_
    refine lv_aload_n hx hb dX5_count_183 rfl (lv_at hl 0 rfl) ?_
    refine q_get C hP wM_o rfl hiX5_count_X5 37 (by decide) wdX5_count_4 rfl dX5_count_184 ?_
    cases hf
    exact q_iret C hP hS rfl dX5_count_187
  have hf := if_f c20 hf
  by_cases c21 : a1 = 13
  · have hf := if_t c21 hf
    refine lv_tableIn (off := 182) (tgt := 188) hx hb dX5_count_6 (by rw [c21]; decide) (by rw [c21]; decide) (by rw [c21]; rfl) (by decide) ?_
    refine lv_aload_n hx hb dX5_count_188 rfl (lv_at hl 0 rfl) ?_
    refine q_get C hP wM_o rfl hiX5_count_X5 3 (by decide) wdX5_count_5 rfl dX5_count_189 ?_
    cases hf
    exact q_iret C hP hS rfl dX5_count_192
  have hf := if_f c21 hf
  refine lv_tableOut (tgt := 193) hx hb dX5_count_6 ?_ (by decide) ?_
  · have z0 := lv_neT (a := 0) c8 (by decide); have z1 := lv_neT (a := 1) c9 (by decide); have z2 := lv_neT (a := 2) c10 (by decide); have z3 := lv_neT (a := 3) c11 (by decide); have z4 := lv_neT (a := 4) c12 (by decide); have z5 := lv_neT (a := 5) c13 (by decide); have z6 := lv_neT (a := 6) c14 (by decide); have z7 := lv_neT (a := 7) c15 (by decide); have z8 := lv_neT (a := 8) c16 (by decide); have z9 := lv_neT (a := 9) c17 (by decide); have z10 := lv_neT (a := 10) c18 (by decide); have z11 := lv_neT (a := 11) c19 (by decide); have z12 := lv_neT (a := 12) c20 (by decide); have z13 := lv_neT (a := 13) c21 (by decide); omega
  refine lv_iconst (v := (-1)) hx hb dX5_count_193 (by decide) ?_
  cases hf
  exact q_iret C hP hS rfl dX5_count_194

-- X5_rule
theorem hiX5_rule_X5 : ∀ w ∈ u_ws RX5 TX5 42, w ∈ wsX5_rule := mem_run (i := 7) (by decide +kernel)
theorem wdX5_rule_2 : (Cond.fieldLink RX5 7 "CombinatorRingModel" "now" "[I") ∈ wsX5_rule := List.mem_of_getElem? (i := 2) rfl
theorem wdX5_rule_1 : (Cond.fieldLink RX5 1 "CombinatorRingModel" "thrown" "I") ∈ wsX5_rule := List.mem_of_getElem? (i := 1) rfl
def m_rule (st : OSt) (a1 : Int32) : Option (Int32 × OSt) := nm (sI st 0 0) fun s1 => bd (m_within a1 0 5) fun x2 => if x2 = 0 then some ((-1), s1) else gd (8 + a1) 1646 (some ((s1.2 1 (8 + a1).toNatClampNeg), s1))
abbrev rmX5_rule : Room := { frames := 1, cells := 0, slots := 0, locals := 22 }
theorem hdX5_rule : yX5_rule.cls = RX5 ∧ yX5_rule.cls ≠ "java/lang/invoke/MethodHandle" ∧ yX5_rule.cls ≠ "java/lang/invoke/VarHandle" ∧ (parseMethodDescriptor yX5_rule.desc).map (fun d => d.parameters.length) = some 1 := by decide +kernel
set_option maxHeartbeats 4000000 in
set_option maxRecDepth 100000 in
theorem c_X5_rule {l : Launch} {G : Gx} {q : Nat → Nat} {st : OSt} {a1 : Int32} {x : Int32 × OSt} (hf : m_rule st a1 = some x) : QM l G yX5_rule wsX5_rule rmX5_rule [.ref (q 42), .int a1] (wM G q st) (wM G q x.2) (some (.int x.1)) := by
  refine QM.of (cc := cX5_rule) (maxL := 2) (ret := (some .int)) (by decide) rfl (Nat.le_of_ble_eq_true rfl) ?_
  intro p e s m below meth c A ls C hD hP hS hl
  have hx := C.1
  have hb := C.2.1
  have hl : lv_has ls 2 [(0, .ref (q 42)), (1, .int a1)] := hl
  unfold m_rule at hf
  refine lv_aload_n hx hb dX5_rule_0 rfl (lv_at hl 0 rfl) ?_
  refine lv_iconst (v := 0) hx hb dX5_rule_1 (by decide) ?_
  obtain ⟨s1, es1, hf⟩ := nm_ex hf
  refine q_put C hP (dd_M hD) hS wM_o rfl hiX5_rule_X5 tyX5_ok nmX5 0 (by decide) wdX5_rule_1 rfl rfl rfl (Nat.le_of_ble_eq_true rfl) wM_sI_0 dX5_rule_2 (fun H locs hP hS => ?_)
  rw [es1] at hP
  refine lv_iload_n hx hb dX5_rule_5 rfl (lv_at hl 1 rfl) ?_
  refine lv_iconst (v := 0) hx hb dX5_rule_6 (by decide) ?_
  refine lv_iconst (v := 5) hx hb dX5_rule_7 (by decide) ?_
  obtain ⟨x2, hx2, hf⟩ := bd_some hf
  refine q_Si C (ws' := wM G q s1) (wr := []) (c_X5_within (w := wM G q s1) hx2) gX5_rule_X5_within rfl ⟨rfl, rfl⟩ hdX5_within ⟨(Nat.le_of_ble_eq_true rfl), (Nat.le_of_ble_eq_true rfl)⟩ rfl hP (dd_M hD) hS (List.Perm.refl _) (List.Perm.refl _) hl.1 (Nat.le_of_ble_eq_true rfl) ⟨Nat.zero_le _, Nat.zero_le _⟩ rfl dX5_rule_8 (fun H locs hP hS => ?_)
  refine lv_if_eq (tgt := 26) hx hb dX5_rule_11 (by decide) (fun c3 => ?_) (fun c3 => ?_)
  · have hf := if_t c3 hf
    refine lv_iconst (v := (-1)) hx hb dX5_rule_26 (by decide) ?_
    cases hf
    exact q_iret C hP hS rfl dX5_rule_27
  · have hf := if_f c3 hf
    refine lv_aload_n hx hb dX5_rule_14 rfl (lv_at hl 0 rfl) ?_
    refine q_get C hP wM_o rfl hiX5_rule_X5 1 (by decide) wdX5_rule_2 rfl dX5_rule_15 ?_
    refine lv_bipush (v := 8) hx hb dX5_rule_18 (by decide) ?_
    refine lv_iload_n hx hb dX5_rule_20 rfl (lv_at hl 1 rfl) ?_
    refine lv_iadd hx hb dX5_rule_21 ?_
    obtain ⟨hin, hf⟩ := gd_some hf
    refine q_iald C hP wM_a_1 rfl hin dX5_rule_22 ?_
    refine lv_goto (tgt := 27) hx hb dX5_rule_23 (by decide) ?_
    cases hf
    exact q_iret C hP hS rfl dX5_rule_27

-- X5_kind
theorem hiX5_kind_X5 : ∀ w ∈ u_ws RX5 TX5 42, w ∈ wsX5_kind := mem_run (i := 15) (by decide +kernel)
theorem wdX5_kind_1 : (Cond.fieldLink RX5 1 "CombinatorRingModel" "thrown" "I") ∈ wsX5_kind := List.mem_of_getElem? (i := 1) rfl
def m_kind (st : OSt) (a1 : Int32) : Option (Int32 × OSt) := nm (sI st 0 0) fun s1 => bd (m_isNode s1 a1) fun x2 => if x2 = 0 then some ((-1), s1) else bd (m_kindOf s1 a1) fun x4 => some (x4, s1)
abbrev rmX5_kind : Room := { frames := 2, cells := 0, slots := 0, locals := 43 }
theorem hdX5_kind : yX5_kind.cls = RX5 ∧ yX5_kind.cls ≠ "java/lang/invoke/MethodHandle" ∧ yX5_kind.cls ≠ "java/lang/invoke/VarHandle" ∧ (parseMethodDescriptor yX5_kind.desc).map (fun d => d.parameters.length) = some 1 := by decide +kernel
set_option maxHeartbeats 4000000 in
set_option maxRecDepth 100000 in
theorem c_X5_kind {l : Launch} {G : Gx} {q : Nat → Nat} {st : OSt} {a1 : Int32} {x : Int32 × OSt} (hf : m_kind st a1 = some x) : QM l G yX5_kind wsX5_kind rmX5_kind [.ref (q 42), .int a1] (wM G q st) (wM G q x.2) (some (.int x.1)) := by
  refine QM.of (cc := cX5_kind) (maxL := 2) (ret := (some .int)) (by decide) rfl (Nat.le_of_ble_eq_true rfl) ?_
  intro p e s m below meth c A ls C hD hP hS hl
  have hx := C.1
  have hb := C.2.1
  have hl : lv_has ls 2 [(0, .ref (q 42)), (1, .int a1)] := hl
  unfold m_kind at hf
  refine lv_aload_n hx hb dX5_kind_0 rfl (lv_at hl 0 rfl) ?_
  refine lv_iconst (v := 0) hx hb dX5_kind_1 (by decide) ?_
  obtain ⟨s1, es1, hf⟩ := nm_ex hf
  refine q_put C hP (dd_M hD) hS wM_o rfl hiX5_kind_X5 tyX5_ok nmX5 0 (by decide) wdX5_kind_1 rfl rfl rfl (Nat.le_of_ble_eq_true rfl) wM_sI_0 dX5_kind_2 (fun H locs hP hS => ?_)
  rw [es1] at hP
  refine lv_aload_n hx hb dX5_kind_5 rfl (lv_at hl 0 rfl) ?_
  refine lv_iload_n hx hb dX5_kind_6 rfl (lv_at hl 1 rfl) ?_
  obtain ⟨x2, hx2, hf⟩ := bd_some hf
  refine q_Vi C (rc := (RX5, TX5, 42)) (q0 := 0) (ci := 5) (ws' := wM G q s1) (wr := []) (c_X5_isNode hx2) gX5_kind_X5_isNode rfl ⟨rfl, rfl⟩ hdX5_isNode ⟨(Nat.le_of_ble_eq_true rfl), (Nat.le_of_ble_eq_true rfl)⟩ rfl hP (dd_M hD) hS rfl rfl (List.Perm.refl _) (List.Perm.refl _) hl.1 (Nat.le_of_ble_eq_true rfl) ⟨Nat.zero_le _, Nat.zero_le _⟩ rfl dX5_kind_7 (fun H locs hP hS => ?_)
  refine lv_if_eq (tgt := 21) hx hb dX5_kind_10 (by decide) (fun c3 => ?_) (fun c3 => ?_)
  · have hf := if_t c3 hf
    refine lv_iconst (v := (-1)) hx hb dX5_kind_21 (by decide) ?_
    cases hf
    exact q_iret C hP hS rfl dX5_kind_22
  · have hf := if_f c3 hf
    refine lv_aload_n hx hb dX5_kind_13 rfl (lv_at hl 0 rfl) ?_
    refine lv_iload_n hx hb dX5_kind_14 rfl (lv_at hl 1 rfl) ?_
    obtain ⟨x4, hx4, hf⟩ := bd_some hf
    refine q_Vi C (rc := (RX5, TX5, 42)) (q0 := 0) (ci := 5) (ws' := wM G q s1) (wr := []) (c_X5_kindOf hx4) gX5_kind_X5_kindOf rfl ⟨rfl, rfl⟩ hdX5_kindOf ⟨(Nat.le_of_ble_eq_true rfl), (Nat.le_of_ble_eq_true rfl)⟩ rfl hP (dd_M hD) hS rfl rfl (List.Perm.refl _) (List.Perm.refl _) hl.1 (Nat.le_of_ble_eq_true rfl) ⟨Nat.zero_le _, Nat.zero_le _⟩ rfl dX5_kind_15 (fun H locs hP hS => ?_)
    refine lv_goto (tgt := 22) hx hb dX5_kind_18 (by decide) ?_
    cases hf
    exact q_iret C hP hS rfl dX5_kind_22

-- X5_link
theorem hiX5_link_X5 : ∀ w ∈ u_ws RX5 TX5 42, w ∈ wsX5_link := mem_run (i := 19) (by decide +kernel)
theorem wdX5_link_1 : (Cond.fieldLink RX5 1 "CombinatorRingModel" "thrown" "I") ∈ wsX5_link := List.mem_of_getElem? (i := 1) rfl
def m_link (st : OSt) (a1 : Int32) (a2 : Int32) : Option (Int32 × OSt) := nm (sI st 0 0) fun s1 => bd (m_isNode s1 a1) fun x2 => if x2 = 0 then some ((-1), s1) else bd (m_kindOf s1 a1) fun x4 => if x4 = 0 then bd (m_within a2 0 0) fun x9 => if x9 = 0 then some ((-1), s1) else bd (m_linkOf s1 ((3 * a1) + a2)) fun x11 => some (x11, s1) else bd (m_within a2 0 2) fun x6 => if x6 = 0 then some ((-1), s1) else bd (m_linkOf s1 ((3 * a1) + a2)) fun x8 => some (x8, s1)
abbrev rmX5_link : Room := { frames := 2, cells := 0, slots := 0, locals := 43 }
theorem hdX5_link : yX5_link.cls = RX5 ∧ yX5_link.cls ≠ "java/lang/invoke/MethodHandle" ∧ yX5_link.cls ≠ "java/lang/invoke/VarHandle" ∧ (parseMethodDescriptor yX5_link.desc).map (fun d => d.parameters.length) = some 2 := by decide +kernel
set_option maxHeartbeats 4000000 in
set_option maxRecDepth 100000 in
theorem c_X5_link {l : Launch} {G : Gx} {q : Nat → Nat} {st : OSt} {a1 : Int32} {a2 : Int32} {x : Int32 × OSt} (hf : m_link st a1 a2 = some x) : QM l G yX5_link wsX5_link rmX5_link [.ref (q 42), .int a1, .int a2] (wM G q st) (wM G q x.2) (some (.int x.1)) := by
  refine QM.of (cc := cX5_link) (maxL := 3) (ret := (some .int)) (by decide) rfl (Nat.le_of_ble_eq_true rfl) ?_
  intro p e s m below meth c A ls C hD hP hS hl
  have hx := C.1
  have hb := C.2.1
  have hl : lv_has ls 3 [(0, .ref (q 42)), (1, .int a1), (2, .int a2)] := hl
  unfold m_link at hf
  refine lv_aload_n hx hb dX5_link_0 rfl (lv_at hl 0 rfl) ?_
  refine lv_iconst (v := 0) hx hb dX5_link_1 (by decide) ?_
  obtain ⟨s1, es1, hf⟩ := nm_ex hf
  refine q_put C hP (dd_M hD) hS wM_o rfl hiX5_link_X5 tyX5_ok nmX5 0 (by decide) wdX5_link_1 rfl rfl rfl (Nat.le_of_ble_eq_true rfl) wM_sI_0 dX5_link_2 (fun H locs hP hS => ?_)
  rw [es1] at hP
  refine lv_aload_n hx hb dX5_link_5 rfl (lv_at hl 0 rfl) ?_
  refine lv_iload_n hx hb dX5_link_6 rfl (lv_at hl 1 rfl) ?_
  obtain ⟨x2, hx2, hf⟩ := bd_some hf
  refine q_Vi C (rc := (RX5, TX5, 42)) (q0 := 0) (ci := 5) (ws' := wM G q s1) (wr := []) (c_X5_isNode hx2) gX5_link_X5_isNode rfl ⟨rfl, rfl⟩ hdX5_isNode ⟨(Nat.le_of_ble_eq_true rfl), (Nat.le_of_ble_eq_true rfl)⟩ rfl hP (dd_M hD) hS rfl rfl (List.Perm.refl _) (List.Perm.refl _) hl.1 (Nat.le_of_ble_eq_true rfl) ⟨Nat.zero_le _, Nat.zero_le _⟩ rfl dX5_link_7 (fun H locs hP hS => ?_)
  refine lv_if_eq (tgt := 46) hx hb dX5_link_10 (by decide) (fun c3 => ?_) (fun c3 => ?_)
  · have hf := if_t c3 hf
    refine lv_iconst (v := (-1)) hx hb dX5_link_46 (by decide) ?_
    cases hf
    exact q_iret C hP hS rfl dX5_link_47
  · have hf := if_f c3 hf
    refine lv_iload_n hx hb dX5_link_13 rfl (lv_at hl 2 rfl) ?_
    refine lv_iconst (v := 0) hx hb dX5_link_14 (by decide) ?_
    refine lv_aload_n hx hb dX5_link_15 rfl (lv_at hl 0 rfl) ?_
    refine lv_iload_n hx hb dX5_link_16 rfl (lv_at hl 1 rfl) ?_
    obtain ⟨x4, hx4, hf⟩ := bd_some hf
    refine q_Vi C (rc := (RX5, TX5, 42)) (q0 := 0) (ci := 5) (ws' := wM G q s1) (wr := []) (c_X5_kindOf hx4) gX5_link_X5_kindOf rfl ⟨rfl, rfl⟩ hdX5_kindOf ⟨(Nat.le_of_ble_eq_true rfl), (Nat.le_of_ble_eq_true rfl)⟩ rfl hP (dd_M hD) hS rfl rfl (List.Perm.refl _) (List.Perm.refl _) hl.1 (Nat.le_of_ble_eq_true rfl) ⟨Nat.zero_le _, Nat.zero_le _⟩ rfl dX5_link_17 (fun H locs hP hS => ?_)
    refine lv_if_ne (tgt := 27) hx hb dX5_link_20 (by decide) (fun c5 => ?_) (fun c5 => ?_)
    · have hf := if_f c5 hf
      refine lv_iconst (v := 2) hx hb dX5_link_27 (by decide) ?_
      obtain ⟨x6, hx6, hf⟩ := bd_some hf
      refine q_Si C (ws' := wM G q s1) (wr := []) (c_X5_within (w := wM G q s1) hx6) gX5_link_X5_within rfl ⟨rfl, rfl⟩ hdX5_within ⟨(Nat.le_of_ble_eq_true rfl), (Nat.le_of_ble_eq_true rfl)⟩ rfl hP (dd_M hD) hS (List.Perm.refl _) (List.Perm.refl _) hl.1 (Nat.le_of_ble_eq_true rfl) ⟨Nat.zero_le _, Nat.zero_le _⟩ rfl dX5_link_28 (fun H locs hP hS => ?_)
      refine lv_if_eq (tgt := 46) hx hb dX5_link_31 (by decide) (fun c7 => ?_) (fun c7 => ?_)
      · have hf := if_t c7 hf
        refine lv_iconst (v := (-1)) hx hb dX5_link_46 (by decide) ?_
        cases hf
        exact q_iret C hP hS rfl dX5_link_47
      · have hf := if_f c7 hf
        refine lv_aload_n hx hb dX5_link_34 rfl (lv_at hl 0 rfl) ?_
        refine lv_iconst (v := 3) hx hb dX5_link_35 (by decide) ?_
        refine lv_iload_n hx hb dX5_link_36 rfl (lv_at hl 1 rfl) ?_
        refine lv_imul hx hb dX5_link_37 ?_
        refine lv_iload_n hx hb dX5_link_38 rfl (lv_at hl 2 rfl) ?_
        refine lv_iadd hx hb dX5_link_39 ?_
        obtain ⟨x8, hx8, hf⟩ := bd_some hf
        refine q_Vi C (rc := (RX5, TX5, 42)) (q0 := 0) (ci := 5) (ws' := wM G q s1) (wr := []) (c_X5_linkOf hx8) gX5_link_X5_linkOf rfl ⟨rfl, rfl⟩ hdX5_linkOf ⟨(Nat.le_of_ble_eq_true rfl), (Nat.le_of_ble_eq_true rfl)⟩ rfl hP (dd_M hD) hS rfl rfl (List.Perm.refl _) (List.Perm.refl _) hl.1 (Nat.le_of_ble_eq_true rfl) ⟨Nat.zero_le _, Nat.zero_le _⟩ rfl dX5_link_40 (fun H locs hP hS => ?_)
        refine lv_goto (tgt := 47) hx hb dX5_link_43 (by decide) ?_
        cases hf
        exact q_iret C hP hS rfl dX5_link_47
    · have hf := if_t c5 hf
      refine lv_iconst (v := 0) hx hb dX5_link_23 (by decide) ?_
      refine lv_goto (tgt := 28) hx hb dX5_link_24 (by decide) ?_
      obtain ⟨x9, hx9, hf⟩ := bd_some hf
      refine q_Si C (ws' := wM G q s1) (wr := []) (c_X5_within (w := wM G q s1) hx9) gX5_link_X5_within rfl ⟨rfl, rfl⟩ hdX5_within ⟨(Nat.le_of_ble_eq_true rfl), (Nat.le_of_ble_eq_true rfl)⟩ rfl hP (dd_M hD) hS (List.Perm.refl _) (List.Perm.refl _) hl.1 (Nat.le_of_ble_eq_true rfl) ⟨Nat.zero_le _, Nat.zero_le _⟩ rfl dX5_link_28 (fun H locs hP hS => ?_)
      refine lv_if_eq (tgt := 46) hx hb dX5_link_31 (by decide) (fun c10 => ?_) (fun c10 => ?_)
      · have hf := if_t c10 hf
        refine lv_iconst (v := (-1)) hx hb dX5_link_46 (by decide) ?_
        cases hf
        exact q_iret C hP hS rfl dX5_link_47
      · have hf := if_f c10 hf
        refine lv_aload_n hx hb dX5_link_34 rfl (lv_at hl 0 rfl) ?_
        refine lv_iconst (v := 3) hx hb dX5_link_35 (by decide) ?_
        refine lv_iload_n hx hb dX5_link_36 rfl (lv_at hl 1 rfl) ?_
        refine lv_imul hx hb dX5_link_37 ?_
        refine lv_iload_n hx hb dX5_link_38 rfl (lv_at hl 2 rfl) ?_
        refine lv_iadd hx hb dX5_link_39 ?_
        obtain ⟨x11, hx11, hf⟩ := bd_some hf
        refine q_Vi C (rc := (RX5, TX5, 42)) (q0 := 0) (ci := 5) (ws' := wM G q s1) (wr := []) (c_X5_linkOf hx11) gX5_link_X5_linkOf rfl ⟨rfl, rfl⟩ hdX5_linkOf ⟨(Nat.le_of_ble_eq_true rfl), (Nat.le_of_ble_eq_true rfl)⟩ rfl hP (dd_M hD) hS rfl rfl (List.Perm.refl _) (List.Perm.refl _) hl.1 (Nat.le_of_ble_eq_true rfl) ⟨Nat.zero_le _, Nat.zero_le _⟩ rfl dX5_link_40 (fun H locs hP hS => ?_)
        refine lv_goto (tgt := 47) hx hb dX5_link_43 (by decide) ?_
        cases hf
        exact q_iret C hP hS rfl dX5_link_47

-- X5_isRoot
theorem hiX5_isRoot_X5 : ∀ w ∈ u_ws RX5 TX5 42, w ∈ wsX5_isRoot := mem_run (i := 6) (by decide +kernel)
theorem wdX5_isRoot_1 : (Cond.fieldLink RX5 7 "CombinatorRingModel" "now" "[I") ∈ wsX5_isRoot := List.mem_of_getElem? (i := 1) rfl
def m_isRoot (st : OSt) (a1 : Int32) : Option (Int32) := bd (m_within a1 0 15) fun x1 => if x1 = 0 then some 0 else gd (14 + a1) 1646 (if (st.2 1 (14 + a1).toNatClampNeg) = 1 then some 1 else some 0)
abbrev rmX5_isRoot : Room := { frames := 1, cells := 0, slots := 0, locals := 22 }
theorem hdX5_isRoot : yX5_isRoot.cls = RX5 ∧ yX5_isRoot.cls ≠ "java/lang/invoke/MethodHandle" ∧ yX5_isRoot.cls ≠ "java/lang/invoke/VarHandle" ∧ (parseMethodDescriptor yX5_isRoot.desc).map (fun d => d.parameters.length) = some 1 := by decide +kernel
set_option maxHeartbeats 4000000 in
set_option maxRecDepth 100000 in
theorem c_X5_isRoot {l : Launch} {G : Gx} {q : Nat → Nat} {st : OSt} {a1 : Int32} {x : Int32} (hf : m_isRoot st a1 = some x) : QM l G yX5_isRoot wsX5_isRoot rmX5_isRoot [.ref (q 42), .int a1] (wM G q st) (wM G q st) (some (.int x)) := by
  refine QM.of (cc := cX5_isRoot) (maxL := 2) (ret := (some .boolean)) (by decide) rfl (Nat.le_of_ble_eq_true rfl) ?_
  intro p e s m below meth c A ls C hD hP hS hl
  have hx := C.1
  have hb := C.2.1
  have hl : lv_has ls 2 [(0, .ref (q 42)), (1, .int a1)] := hl
  unfold m_isRoot at hf
  refine lv_iload_n hx hb dX5_isRoot_0 rfl (lv_at hl 1 rfl) ?_
  refine lv_iconst (v := 0) hx hb dX5_isRoot_1 (by decide) ?_
  refine lv_bipush (v := 15) hx hb dX5_isRoot_2 (by decide) ?_
  obtain ⟨x1, hx1, hf⟩ := bd_some hf
  refine q_Si C (ws' := wM G q st) (wr := []) (c_X5_within (w := wM G q st) hx1) gX5_isRoot_X5_within rfl ⟨rfl, rfl⟩ hdX5_within ⟨(Nat.le_of_ble_eq_true rfl), (Nat.le_of_ble_eq_true rfl)⟩ rfl hP (dd_M hD) hS (List.Perm.refl _) (List.Perm.refl _) hl.1 (Nat.le_of_ble_eq_true rfl) ⟨Nat.zero_le _, Nat.zero_le _⟩ rfl dX5_isRoot_4 (fun H locs hP hS => ?_)
  refine lv_if_eq (tgt := 27) hx hb dX5_isRoot_7 (by decide) (fun c2 => ?_) (fun c2 => ?_)
  · have hf := if_t c2 hf
    refine lv_iconst (v := 0) hx hb dX5_isRoot_27 (by decide) ?_
    cases hf
    exact q_zret C hP hS rfl (gb_nar (Or.inl rfl)) dX5_isRoot_28
  · have hf := if_f c2 hf
    refine lv_aload_n hx hb dX5_isRoot_10 rfl (lv_at hl 0 rfl) ?_
    refine q_get C hP wM_o rfl hiX5_isRoot_X5 1 (by decide) wdX5_isRoot_1 rfl dX5_isRoot_11 ?_
    refine lv_bipush (v := 14) hx hb dX5_isRoot_14 (by decide) ?_
    refine lv_iload_n hx hb dX5_isRoot_16 rfl (lv_at hl 1 rfl) ?_
    refine lv_iadd hx hb dX5_isRoot_17 ?_
    obtain ⟨hin, hf⟩ := gd_some hf
    refine q_iald C hP wM_a_1 rfl hin dX5_isRoot_18 ?_
    refine lv_iconst (v := 1) hx hb dX5_isRoot_19 (by decide) ?_
    refine lv_icmp_ne (tgt := 27) hx hb dX5_isRoot_20 (by decide) (fun c3 => ?_) (fun c3 => ?_)
    · have hf := if_f c3 hf
      refine lv_iconst (v := 0) hx hb dX5_isRoot_27 (by decide) ?_
      cases hf
      exact q_zret C hP hS rfl (gb_nar (Or.inl rfl)) dX5_isRoot_28
    · have hf := if_t c3 hf
      refine lv_iconst (v := 1) hx hb dX5_isRoot_23 (by decide) ?_
      refine lv_goto (tgt := 28) hx hb dX5_isRoot_24 (by decide) ?_
      cases hf
      exact q_zret C hP hS rfl (gb_nar (Or.inr rfl)) dX5_isRoot_28

-- X5_root
theorem hiX5_root_X5 : ∀ w ∈ u_ws RX5 TX5 42, w ∈ wsX5_root := mem_run (i := 15) (by decide +kernel)
theorem wdX5_root_1 : (Cond.fieldLink RX5 1 "CombinatorRingModel" "thrown" "I") ∈ wsX5_root := List.mem_of_getElem? (i := 1) rfl
def m_root (st : OSt) (a1 : Int32) : Option (Int32 × OSt) := nm (sI st 0 0) fun s1 => bd (m_isRoot s1 a1) fun x2 => if x2 = 0 then some ((-1), s1) else bd (m_linkOf s1 (1000 + a1)) fun x4 => some (x4, s1)
abbrev rmX5_root : Room := { frames := 2, cells := 0, slots := 0, locals := 43 }
theorem hdX5_root : yX5_root.cls = RX5 ∧ yX5_root.cls ≠ "java/lang/invoke/MethodHandle" ∧ yX5_root.cls ≠ "java/lang/invoke/VarHandle" ∧ (parseMethodDescriptor yX5_root.desc).map (fun d => d.parameters.length) = some 1 := by decide +kernel
set_option maxHeartbeats 4000000 in
set_option maxRecDepth 100000 in
theorem c_X5_root {l : Launch} {G : Gx} {q : Nat → Nat} {st : OSt} {a1 : Int32} {x : Int32 × OSt} (hf : m_root st a1 = some x) : QM l G yX5_root wsX5_root rmX5_root [.ref (q 42), .int a1] (wM G q st) (wM G q x.2) (some (.int x.1)) := by
  refine QM.of (cc := cX5_root) (maxL := 2) (ret := (some .int)) (by decide) rfl (Nat.le_of_ble_eq_true rfl) ?_
  intro p e s m below meth c A ls C hD hP hS hl
  have hx := C.1
  have hb := C.2.1
  have hl : lv_has ls 2 [(0, .ref (q 42)), (1, .int a1)] := hl
  unfold m_root at hf
  refine lv_aload_n hx hb dX5_root_0 rfl (lv_at hl 0 rfl) ?_
  refine lv_iconst (v := 0) hx hb dX5_root_1 (by decide) ?_
  obtain ⟨s1, es1, hf⟩ := nm_ex hf
  refine q_put C hP (dd_M hD) hS wM_o rfl hiX5_root_X5 tyX5_ok nmX5 0 (by decide) wdX5_root_1 rfl rfl rfl (Nat.le_of_ble_eq_true rfl) wM_sI_0 dX5_root_2 (fun H locs hP hS => ?_)
  rw [es1] at hP
  refine lv_aload_n hx hb dX5_root_5 rfl (lv_at hl 0 rfl) ?_
  refine lv_iload_n hx hb dX5_root_6 rfl (lv_at hl 1 rfl) ?_
  obtain ⟨x2, hx2, hf⟩ := bd_some hf
  refine q_Vi C (rc := (RX5, TX5, 42)) (q0 := 0) (ci := 5) (ws' := wM G q s1) (wr := []) (c_X5_isRoot hx2) gX5_root_X5_isRoot rfl ⟨rfl, rfl⟩ hdX5_isRoot ⟨(Nat.le_of_ble_eq_true rfl), (Nat.le_of_ble_eq_true rfl)⟩ rfl hP (dd_M hD) hS rfl rfl (List.Perm.refl _) (List.Perm.refl _) hl.1 (Nat.le_of_ble_eq_true rfl) ⟨Nat.zero_le _, Nat.zero_le _⟩ rfl dX5_root_7 (fun H locs hP hS => ?_)
  refine lv_if_eq (tgt := 25) hx hb dX5_root_10 (by decide) (fun c3 => ?_) (fun c3 => ?_)
  · have hf := if_t c3 hf
    refine lv_iconst (v := (-1)) hx hb dX5_root_25 (by decide) ?_
    cases hf
    exact q_iret C hP hS rfl dX5_root_26
  · have hf := if_f c3 hf
    refine lv_aload_n hx hb dX5_root_13 rfl (lv_at hl 0 rfl) ?_
    refine lv_sipush (v := 1000) hx hb dX5_root_14 (by decide) ?_
    refine lv_iload_n hx hb dX5_root_17 rfl (lv_at hl 1 rfl) ?_
    refine lv_iadd hx hb dX5_root_18 ?_
    obtain ⟨x4, hx4, hf⟩ := bd_some hf
    refine q_Vi C (rc := (RX5, TX5, 42)) (q0 := 0) (ci := 5) (ws' := wM G q s1) (wr := []) (c_X5_linkOf hx4) gX5_root_X5_linkOf rfl ⟨rfl, rfl⟩ hdX5_linkOf ⟨(Nat.le_of_ble_eq_true rfl), (Nat.le_of_ble_eq_true rfl)⟩ rfl hP (dd_M hD) hS rfl rfl (List.Perm.refl _) (List.Perm.refl _) hl.1 (Nat.le_of_ble_eq_true rfl) ⟨Nat.zero_le _, Nat.zero_le _⟩ rfl dX5_root_19 (fun H locs hP hS => ?_)
    refine lv_goto (tgt := 26) hx hb dX5_root_22 (by decide) ?_
    cases hf
    exact q_iret C hP hS rfl dX5_root_26

-- X5_rootAt
theorem hiX5_rootAt_X5 : ∀ w ∈ u_ws RX5 TX5 42, w ∈ wsX5_rootAt := mem_run (i := 11) (by decide +kernel)
theorem wdX5_rootAt_1 : (Cond.fieldLink RX5 1 "CombinatorRingModel" "thrown" "I") ∈ wsX5_rootAt := List.mem_of_getElem? (i := 1) rfl
def m_rootAt_9 : Nat → OSt → Int32 → Int32 → Option (Int32 × OSt)
  | 0, _, _, _ => none
  | n + 1, st, v2, v3 => if 16 ≤ v3 then some ((-1), st) else bd (m_isRoot st v3) fun x3 => if x3 = 0 then m_rootAt_9 n st v2 (v3 + 1) else if v2 = 0 then some (v3, st) else m_rootAt_9 n st (v2 + (-1)) (v3 + 1)
def m_rootAt (st : OSt) (a1 : Int32) : Option (Int32 × OSt) := nm (sI st 0 0) fun s1 => m_rootAt_9 20000 s1 a1 0
abbrev rmX5_rootAt : Room := { frames := 2, cells := 0, slots := 0, locals := 43 }
theorem hdX5_rootAt : yX5_rootAt.cls = RX5 ∧ yX5_rootAt.cls ≠ "java/lang/invoke/MethodHandle" ∧ yX5_rootAt.cls ≠ "java/lang/invoke/VarHandle" ∧ (parseMethodDescriptor yX5_rootAt.desc).map (fun d => d.parameters.length) = some 1 := by decide +kernel
set_option maxHeartbeats 4000000 in
set_option maxRecDepth 100000 in
theorem t_X5_rootAt_9 {p : Program} {l : Launch} {e : Env} {s : State} {m : MethodId} {args : Array Value} {below : List Frame} {meth : Method} {c : Code} {A : Nat → Prop} {G : Gx} {q : Nat → Nat} {st0 : OSt} (C : Cx p s m args meth c G cX5_rootAt wsX5_rootAt RX5 (some .int) 4 A) (hD : va_D A (wM G q st0)) :
    ∀ {n : Nat} {st : OSt} {v2 : Int32} {v3 : Int32} {x : Int32 × OSt}, m_rootAt_9 n st v2 v3 = some x → ∀ {H : Heap} {locs : List Loc} {ls : Array Slot}, va_P G.1 vwCl (wM G q st) H → va_S A s.heap H locs → lv_has ls 4 [(0, .ref (q 42)), (2, .int v2), (3, .int v3)] → W p l e rmX5_rootAt s m args below meth c H locs 0 0 (MQ below (qE G A (wM G q x.2) (some (.int x.1))) args s 0 0 A) (F0 m 9 ls []) := by
  have hx := C.1
  have hb := C.2.1
  intro n
  induction n with
  | zero => intro st v2 v3 x hf; cases hf
  | succ n ih =>
    intro st v2 v3 x hf H locs ls hP hS hl
    rw [m_rootAt_9] at hf
    refine lv_iload_n hx hb dX5_rootAt_9 rfl (lv_at hl 2 rfl) ?_
    refine lv_bipush (v := 16) hx hb dX5_rootAt_10 (by decide) ?_
    refine lv_icmp_ge (tgt := 38) hx hb dX5_rootAt_12 (by decide) (fun c2 => ?_) (fun c2 => ?_)
    · have hf := if_t c2 hf
      refine lv_iconst (v := (-1)) hx hb dX5_rootAt_38 (by decide) ?_
      cases hf
      exact q_iret C hP hS rfl dX5_rootAt_39
    · have hf := if_f c2 hf
      refine lv_aload_n hx hb dX5_rootAt_15 rfl (lv_at hl 0 rfl) ?_
      refine lv_iload_n hx hb dX5_rootAt_16 rfl (lv_at hl 2 rfl) ?_
      obtain ⟨x3, hx3, hf⟩ := bd_some hf
      refine q_Vi C (rc := (RX5, TX5, 42)) (q0 := 0) (ci := 5) (ws' := wM G q st) (wr := []) (c_X5_isRoot hx3) gX5_rootAt_X5_isRoot rfl ⟨rfl, rfl⟩ hdX5_isRoot ⟨(Nat.le_of_ble_eq_true rfl), (Nat.le_of_ble_eq_true rfl)⟩ rfl hP (dd_M hD) hS rfl rfl (List.Perm.refl _) (List.Perm.refl _) hl.1 (Nat.le_of_ble_eq_true rfl) ⟨Nat.zero_le _, Nat.zero_le _⟩ rfl dX5_rootAt_17 (fun H locs hP hS => ?_)
      refine lv_if_eq (tgt := 32) hx hb dX5_rootAt_20 (by decide) (fun c4 => ?_) (fun c4 => ?_)
      · have hf := if_t c4 hf
        refine lv_iinc (v := (v3 + 1)) (lv' := [(3, .int (v3 + 1)), (0, .ref (q 42)), (2, .int v2)]) hx hb dX5_rootAt_32 hl (k := 2) rfl rfl (by decide) rfl (fun ls hl => ?_)
        refine lv_goto (tgt := 9) hx hb dX5_rootAt_35 (by decide) ?_
        exact ih hf hP hS (lv_sub hl [1, 2, 0] rfl)
      · have hf := if_f c4 hf
        refine lv_iload_n hx hb dX5_rootAt_23 rfl (lv_at hl 1 rfl) ?_
        refine lv_if_ne (tgt := 29) hx hb dX5_rootAt_24 (by decide) (fun c5 => ?_) (fun c5 => ?_)
        · have hf := if_f c5 hf
          refine lv_iinc (v := (v2 + (-1))) (lv' := [(2, .int (v2 + (-1))), (0, .ref (q 42)), (3, .int v3)]) hx hb dX5_rootAt_29 hl (k := 1) rfl rfl (by decide) rfl (fun ls hl => ?_)
          refine lv_iinc (v := (v3 + 1)) (lv' := [(3, .int (v3 + 1)), (2, .int (v2 + (-1))), (0, .ref (q 42))]) hx hb dX5_rootAt_32 hl (k := 2) rfl rfl (by decide) rfl (fun ls hl => ?_)
          refine lv_goto (tgt := 9) hx hb dX5_rootAt_35 (by decide) ?_
          exact ih hf hP hS (lv_sub hl [2, 1, 0] rfl)
        · have hf := if_t c5 hf
          refine lv_iload_n hx hb dX5_rootAt_27 rfl (lv_at hl 2 rfl) ?_
          cases hf
          exact q_iret C hP hS rfl dX5_rootAt_28
set_option maxHeartbeats 4000000 in
set_option maxRecDepth 100000 in
theorem c_X5_rootAt {l : Launch} {G : Gx} {q : Nat → Nat} {st : OSt} {a1 : Int32} {x : Int32 × OSt} (hf : m_rootAt st a1 = some x) : QM l G yX5_rootAt wsX5_rootAt rmX5_rootAt [.ref (q 42), .int a1] (wM G q st) (wM G q x.2) (some (.int x.1)) := by
  refine QM.of (cc := cX5_rootAt) (maxL := 4) (ret := (some .int)) (by decide) rfl (Nat.le_of_ble_eq_true rfl) ?_
  intro p e s m below meth c A ls C hD hP hS hl
  have hx := C.1
  have hb := C.2.1
  have hl : lv_has ls 4 [(0, .ref (q 42)), (1, .int a1)] := hl
  unfold m_rootAt at hf
  refine lv_aload_n hx hb dX5_rootAt_0 rfl (lv_at hl 0 rfl) ?_
  refine lv_iconst (v := 0) hx hb dX5_rootAt_1 (by decide) ?_
  obtain ⟨s1, es1, hf⟩ := nm_ex hf
  refine q_put C hP (dd_M hD) hS wM_o rfl hiX5_rootAt_X5 tyX5_ok nmX5 0 (by decide) wdX5_rootAt_1 rfl rfl rfl (Nat.le_of_ble_eq_true rfl) wM_sI_0 dX5_rootAt_2 (fun H locs hP hS => ?_)
  rw [es1] at hP
  refine lv_iload_n hx hb dX5_rootAt_5 rfl (lv_at hl 1 rfl) ?_
  refine lv_istore_n (lv' := [(2, .int a1), (0, .ref (q 42)), (1, .int a1)]) hx hb dX5_rootAt_6 rfl hl (by decide) rfl (fun ls hl => ?_)
  refine lv_iconst (v := 0) hx hb dX5_rootAt_7 (by decide) ?_
  refine lv_istore_n (lv' := [(3, .int 0), (2, .int a1), (0, .ref (q 42)), (1, .int a1)]) hx hb dX5_rootAt_8 rfl hl (by decide) rfl (fun ls hl => ?_)
  exact t_X5_rootAt_9 C hD hf hP hS (lv_sub hl [2, 1, 0] rfl)

-- X5_pair
theorem hiX5_pair_X5 : ∀ w ∈ u_ws RX5 TX5 42, w ∈ wsX5_pair := mem_run (i := 39) (by decide +kernel)
theorem wdX5_pair_1 : (Cond.fieldLink RX5 1 "CombinatorRingModel" "thrown" "I") ∈ wsX5_pair := List.mem_of_getElem? (i := 1) rfl
def m_pair_21 : Nat → OSt → Int32 → Int32 → Int32 → Option (Int32 × OSt)
  | 0, _, _, _, _ => none
  | n + 1, st, v2, v3, v4 => if 300 ≤ v4 then some ((-1), st) else bd (m_isPair st v4) fun x5 => if x5 = 0 then m_pair_21 n st v2 v3 (v4 + 1) else if v3 = 0 then if v2 = 0 then some (v4, st) else if v2 = 1 then bd (m_facing st v4) fun x14 => some (x14, st) else if v2 = 2 then bd (m_ruleOf st v4) fun x13 => some (x13, st) else bd (m_canReduce st v4) fun x11 => if x11 = 0 then some (0, st) else some (1, st) else m_pair_21 n st v2 (v3 + (-1)) (v4 + 1)
def m_pair (st : OSt) (a1 : Int32) (a2 : Int32) : Option (Int32 × OSt) := nm (sI st 0 0) fun s1 => bd (m_within a2 0 3) fun x2 => if x2 = 0 then some ((-1), s1) else m_pair_21 20000 s1 a2 a1 0
abbrev rmX5_pair : Room := { frames := 4, cells := 0, slots := 0, locals := 87 }
theorem hdX5_pair : yX5_pair.cls = RX5 ∧ yX5_pair.cls ≠ "java/lang/invoke/MethodHandle" ∧ yX5_pair.cls ≠ "java/lang/invoke/VarHandle" ∧ (parseMethodDescriptor yX5_pair.desc).map (fun d => d.parameters.length) = some 2 := by decide +kernel
set_option maxHeartbeats 4000000 in
set_option maxRecDepth 100000 in
theorem t_X5_pair_21 {p : Program} {l : Launch} {e : Env} {s : State} {m : MethodId} {args : Array Value} {below : List Frame} {meth : Method} {c : Code} {A : Nat → Prop} {G : Gx} {q : Nat → Nat} {st0 : OSt} (C : Cx p s m args meth c G cX5_pair wsX5_pair RX5 (some .int) 5 A) (hD : va_D A (wM G q st0)) :
    ∀ {n : Nat} {st : OSt} {v2 : Int32} {v3 : Int32} {v4 : Int32} {x : Int32 × OSt}, m_pair_21 n st v2 v3 v4 = some x → ∀ {H : Heap} {locs : List Loc} {ls : Array Slot}, va_P G.1 vwCl (wM G q st) H → va_S A s.heap H locs → lv_has ls 5 [(0, .ref (q 42)), (2, .int v2), (3, .int v3), (4, .int v4)] → W p l e rmX5_pair s m args below meth c H locs 0 0 (MQ below (qE G A (wM G q x.2) (some (.int x.1))) args s 0 0 A) (F0 m 21 ls []) := by
  have hx := C.1
  have hb := C.2.1
  intro n
  induction n with
  | zero => intro st v2 v3 v4 x hf; cases hf
  | succ n ih =>
    intro st v2 v3 v4 x hf H locs ls hP hS hl
    rw [m_pair_21] at hf
    refine lv_iload hx hb dX5_pair_21 (lv_at hl 3 rfl) ?_
    refine lv_sipush (v := 300) hx hb dX5_pair_23 (by decide) ?_
    refine lv_icmp_ge (tgt := 103) hx hb dX5_pair_26 (by decide) (fun c4 => ?_) (fun c4 => ?_)
    · have hf := if_t c4 hf
      refine lv_iconst (v := (-1)) hx hb dX5_pair_103 (by decide) ?_
      cases hf
      exact q_iret C hP hS rfl dX5_pair_104
    · have hf := if_f c4 hf
      refine lv_aload_n hx hb dX5_pair_29 rfl (lv_at hl 0 rfl) ?_
      refine lv_iload hx hb dX5_pair_30 (lv_at hl 3 rfl) ?_
      obtain ⟨x5, hx5, hf⟩ := bd_some hf
      refine q_Vi C (rc := (RX5, TX5, 42)) (q0 := 0) (ci := 5) (ws' := wM G q st) (wr := []) (c_X5_isPair hx5) gX5_pair_X5_isPair rfl ⟨rfl, rfl⟩ hdX5_isPair ⟨(Nat.le_of_ble_eq_true rfl), (Nat.le_of_ble_eq_true rfl)⟩ rfl hP (dd_M hD) hS rfl rfl (List.Perm.refl _) (List.Perm.refl _) hl.1 (Nat.le_of_ble_eq_true rfl) ⟨Nat.zero_le _, Nat.zero_le _⟩ rfl dX5_pair_32 (fun H locs hP hS => ?_)
      refine lv_if_eq (tgt := 97) hx hb dX5_pair_35 (by decide) (fun c6 => ?_) (fun c6 => ?_)
      · have hf := if_t c6 hf
        refine lv_iinc (v := (v4 + 1)) (lv' := [(4, .int (v4 + 1)), (0, .ref (q 42)), (2, .int v2), (3, .int v3)]) hx hb dX5_pair_97 hl (k := 3) rfl rfl (by decide) rfl (fun ls hl => ?_)
        refine lv_goto (tgt := 21) hx hb dX5_pair_100 (by decide) ?_
        exact ih hf hP hS (lv_sub hl [1, 2, 3, 0] rfl)
      · have hf := if_f c6 hf
        refine lv_iload_n hx hb dX5_pair_38 rfl (lv_at hl 2 rfl) ?_
        refine lv_if_ne (tgt := 94) hx hb dX5_pair_39 (by decide) (fun c7 => ?_) (fun c7 => ?_)
        · have hf := if_f c7 hf
          refine lv_iinc (v := (v3 + (-1))) (lv' := [(3, .int (v3 + (-1))), (0, .ref (q 42)), (2, .int v2), (4, .int v4)]) hx hb dX5_pair_94 hl (k := 2) rfl rfl (by decide) rfl (fun ls hl => ?_)
          refine lv_iinc (v := (v4 + 1)) (lv' := [(4, .int (v4 + 1)), (3, .int (v3 + (-1))), (0, .ref (q 42)), (2, .int v2)]) hx hb dX5_pair_97 hl (k := 3) rfl rfl (by decide) rfl (fun ls hl => ?_)
          refine lv_goto (tgt := 21) hx hb dX5_pair_100 (by decide) ?_
          exact ih hf hP hS (lv_sub hl [2, 3, 1, 0] rfl)
        · have hf := if_t c7 hf
          refine lv_iload_n hx hb dX5_pair_42 rfl (lv_at hl 1 rfl) ?_
          refine lv_if_ne (tgt := 51) hx hb dX5_pair_43 (by decide) (fun c8 => ?_) (fun c8 => ?_)
          · have hf := if_f c8 hf
            refine lv_iload_n hx hb dX5_pair_51 rfl (lv_at hl 1 rfl) ?_
            refine lv_iconst (v := 1) hx hb dX5_pair_52 (by decide) ?_
            refine lv_icmp_ne (tgt := 65) hx hb dX5_pair_53 (by decide) (fun c9 => ?_) (fun c9 => ?_)
            · have hf := if_f c9 hf
              refine lv_iload_n hx hb dX5_pair_65 rfl (lv_at hl 1 rfl) ?_
              refine lv_iconst (v := 2) hx hb dX5_pair_66 (by decide) ?_
              refine lv_icmp_ne (tgt := 79) hx hb dX5_pair_67 (by decide) (fun c10 => ?_) (fun c10 => ?_)
              · have hf := if_f c10 hf
                refine lv_aload_n hx hb dX5_pair_79 rfl (lv_at hl 0 rfl) ?_
                refine lv_iload hx hb dX5_pair_80 (lv_at hl 3 rfl) ?_
                obtain ⟨x11, hx11, hf⟩ := bd_some hf
                refine q_Vi C (rc := (RX5, TX5, 42)) (q0 := 0) (ci := 5) (ws' := wM G q st) (wr := []) (c_X5_canReduce hx11) gX5_pair_X5_canReduce rfl ⟨rfl, rfl⟩ hdX5_canReduce ⟨(Nat.le_of_ble_eq_true rfl), (Nat.le_of_ble_eq_true rfl)⟩ rfl hP (dd_M hD) hS rfl rfl (List.Perm.refl _) (List.Perm.refl _) hl.1 (Nat.le_of_ble_eq_true rfl) ⟨Nat.zero_le _, Nat.zero_le _⟩ rfl dX5_pair_82 (fun H locs hP hS => ?_)
                refine lv_if_eq (tgt := 92) hx hb dX5_pair_85 (by decide) (fun c12 => ?_) (fun c12 => ?_)
                · have hf := if_t c12 hf
                  refine lv_iconst (v := 0) hx hb dX5_pair_92 (by decide) ?_
                  cases hf
                  exact q_iret C hP hS rfl dX5_pair_93
                · have hf := if_f c12 hf
                  refine lv_iconst (v := 1) hx hb dX5_pair_88 (by decide) ?_
                  refine lv_goto (tgt := 93) hx hb dX5_pair_89 (by decide) ?_
                  cases hf
                  exact q_iret C hP hS rfl dX5_pair_93
              · have hf := if_t c10 hf
                refine lv_aload_n hx hb dX5_pair_70 rfl (lv_at hl 0 rfl) ?_
                refine lv_iload hx hb dX5_pair_71 (lv_at hl 3 rfl) ?_
                obtain ⟨x13, hx13, hf⟩ := bd_some hf
                refine q_Vi C (rc := (RX5, TX5, 42)) (q0 := 0) (ci := 5) (ws' := wM G q st) (wr := []) (c_X5_ruleOf hx13) gX5_pair_X5_ruleOf rfl ⟨rfl, rfl⟩ hdX5_ruleOf ⟨(Nat.le_of_ble_eq_true rfl), (Nat.le_of_ble_eq_true rfl)⟩ rfl hP (dd_M hD) hS rfl rfl (List.Perm.refl _) (List.Perm.refl _) hl.1 (Nat.le_of_ble_eq_true rfl) ⟨Nat.zero_le _, Nat.zero_le _⟩ rfl dX5_pair_73 (fun H locs hP hS => ?_)
                refine lv_goto (tgt := 93) hx hb dX5_pair_76 (by decide) ?_
                cases hf
                exact q_iret C hP hS rfl dX5_pair_93
            · have hf := if_t c9 hf
              refine lv_aload_n hx hb dX5_pair_56 rfl (lv_at hl 0 rfl) ?_
              refine lv_iload hx hb dX5_pair_57 (lv_at hl 3 rfl) ?_
              obtain ⟨x14, hx14, hf⟩ := bd_some hf
              refine q_Vi C (rc := (RX5, TX5, 42)) (q0 := 0) (ci := 5) (ws' := wM G q st) (wr := []) (c_X5_facing hx14) gX5_pair_X5_facing rfl ⟨rfl, rfl⟩ hdX5_facing ⟨(Nat.le_of_ble_eq_true rfl), (Nat.le_of_ble_eq_true rfl)⟩ rfl hP (dd_M hD) hS rfl rfl (List.Perm.refl _) (List.Perm.refl _) hl.1 (Nat.le_of_ble_eq_true rfl) ⟨Nat.zero_le _, Nat.zero_le _⟩ rfl dX5_pair_59 (fun H locs hP hS => ?_)
              refine lv_goto (tgt := 93) hx hb dX5_pair_62 (by decide) ?_
              cases hf
              exact q_iret C hP hS rfl dX5_pair_93
          · have hf := if_t c8 hf
            refine lv_iload hx hb dX5_pair_46 (lv_at hl 3 rfl) ?_
            refine lv_goto (tgt := 93) hx hb dX5_pair_48 (by decide) ?_
            cases hf
            exact q_iret C hP hS rfl dX5_pair_93
set_option maxHeartbeats 4000000 in
set_option maxRecDepth 100000 in
theorem c_X5_pair {l : Launch} {G : Gx} {q : Nat → Nat} {st : OSt} {a1 : Int32} {a2 : Int32} {x : Int32 × OSt} (hf : m_pair st a1 a2 = some x) : QM l G yX5_pair wsX5_pair rmX5_pair [.ref (q 42), .int a1, .int a2] (wM G q st) (wM G q x.2) (some (.int x.1)) := by
  refine QM.of (cc := cX5_pair) (maxL := 5) (ret := (some .int)) (by decide) rfl (Nat.le_of_ble_eq_true rfl) ?_
  intro p e s m below meth c A ls C hD hP hS hl
  have hx := C.1
  have hb := C.2.1
  have hl : lv_has ls 5 [(0, .ref (q 42)), (1, .int a1), (2, .int a2)] := hl
  unfold m_pair at hf
  refine lv_aload_n hx hb dX5_pair_0 rfl (lv_at hl 0 rfl) ?_
  refine lv_iconst (v := 0) hx hb dX5_pair_1 (by decide) ?_
  obtain ⟨s1, es1, hf⟩ := nm_ex hf
  refine q_put C hP (dd_M hD) hS wM_o rfl hiX5_pair_X5 tyX5_ok nmX5 0 (by decide) wdX5_pair_1 rfl rfl rfl (Nat.le_of_ble_eq_true rfl) wM_sI_0 dX5_pair_2 (fun H locs hP hS => ?_)
  rw [es1] at hP
  refine lv_iload_n hx hb dX5_pair_5 rfl (lv_at hl 2 rfl) ?_
  refine lv_iconst (v := 0) hx hb dX5_pair_6 (by decide) ?_
  refine lv_iconst (v := 3) hx hb dX5_pair_7 (by decide) ?_
  obtain ⟨x2, hx2, hf⟩ := bd_some hf
  refine q_Si C (ws' := wM G q s1) (wr := []) (c_X5_within (w := wM G q s1) hx2) gX5_pair_X5_within rfl ⟨rfl, rfl⟩ hdX5_within ⟨(Nat.le_of_ble_eq_true rfl), (Nat.le_of_ble_eq_true rfl)⟩ rfl hP (dd_M hD) hS (List.Perm.refl _) (List.Perm.refl _) hl.1 (Nat.le_of_ble_eq_true rfl) ⟨Nat.zero_le _, Nat.zero_le _⟩ rfl dX5_pair_8 (fun H locs hP hS => ?_)
  refine lv_if_ne (tgt := 16) hx hb dX5_pair_11 (by decide) (fun c3 => ?_) (fun c3 => ?_)
  · have hf := if_f c3 hf
    refine lv_iload_n hx hb dX5_pair_16 rfl (lv_at hl 1 rfl) ?_
    refine lv_istore_n (lv' := [(3, .int a1), (0, .ref (q 42)), (1, .int a1), (2, .int a2)]) hx hb dX5_pair_17 rfl hl (by decide) rfl (fun ls hl => ?_)
    refine lv_iconst (v := 0) hx hb dX5_pair_18 (by decide) ?_
    refine lv_istore (lv' := [(4, .int 0), (3, .int a1), (0, .ref (q 42)), (1, .int a1), (2, .int a2)]) hx hb dX5_pair_19 hl (by decide) rfl (fun ls hl => ?_)
    exact t_X5_pair_21 C hD hf hP hS (lv_sub hl [2, 4, 1, 0] rfl)
  · have hf := if_t c3 hf
    refine lv_iconst (v := (-1)) hx hb dX5_pair_14 (by decide) ?_
    cases hf
    exact q_iret C hP hS rfl dX5_pair_15

-- X5_next
theorem hiX5_next_X5 : ∀ w ∈ u_ws RX5 TX5 42, w ∈ wsX5_next := mem_run (i := 3) (by decide +kernel)
theorem wdX5_next_2 : (Cond.fieldLink RX5 7 "CombinatorRingModel" "now" "[I") ∈ wsX5_next := List.mem_of_getElem? (i := 2) rfl
theorem wdX5_next_1 : (Cond.fieldLink RX5 1 "CombinatorRingModel" "thrown" "I") ∈ wsX5_next := List.mem_of_getElem? (i := 1) rfl
def m_next (st : OSt) (a1 : Int32) : Option (Int32 × OSt) := nm (sI st 0 0) fun s1 => if 0 ≤ a1 then if (s1.2 1 5) ≤ a1 then nm ((((s1.2 1 4).toInt64 + a1.toInt64) - (s1.2 1 5).toInt64)) fun y4 => if 0 ≤ (lg_cmp y4 ((s1.2 1 0).toInt64)) then some ((-1), s1) else some (y4.toInt32, s1) else gd (((330 + (s1.2 1 5)) - 1) - a1) 1646 (some ((s1.2 1 (((330 + (s1.2 1 5)) - 1) - a1).toNatClampNeg), s1)) else some ((-1), s1)
abbrev rmX5_next : Room := { frames := 0, cells := 0, slots := 0, locals := 0 }
theorem hdX5_next : yX5_next.cls = RX5 ∧ yX5_next.cls ≠ "java/lang/invoke/MethodHandle" ∧ yX5_next.cls ≠ "java/lang/invoke/VarHandle" ∧ (parseMethodDescriptor yX5_next.desc).map (fun d => d.parameters.length) = some 1 := by decide +kernel
set_option maxHeartbeats 4000000 in
set_option maxRecDepth 100000 in
theorem c_X5_next {l : Launch} {G : Gx} {q : Nat → Nat} {st : OSt} {a1 : Int32} {x : Int32 × OSt} (hf : m_next st a1 = some x) : QM l G yX5_next wsX5_next rmX5_next [.ref (q 42), .int a1] (wM G q st) (wM G q x.2) (some (.int x.1)) := by
  refine QM.of (cc := cX5_next) (maxL := 4) (ret := (some .int)) (by decide) rfl (Nat.le_of_ble_eq_true rfl) ?_
  intro p e s m below meth c A ls C hD hP hS hl
  have hx := C.1
  have hb := C.2.1
  have hl : lv_has ls 4 [(0, .ref (q 42)), (1, .int a1)] := hl
  unfold m_next at hf
  refine lv_aload_n hx hb dX5_next_0 rfl (lv_at hl 0 rfl) ?_
  refine lv_iconst (v := 0) hx hb dX5_next_1 (by decide) ?_
  obtain ⟨s1, es1, hf⟩ := nm_ex hf
  refine q_put C hP (dd_M hD) hS wM_o rfl hiX5_next_X5 tyX5_ok nmX5 0 (by decide) wdX5_next_1 rfl rfl rfl (Nat.le_of_ble_eq_true rfl) wM_sI_0 dX5_next_2 (fun H locs hP hS => ?_)
  rw [es1] at hP
  refine lv_iload_n hx hb dX5_next_5 rfl (lv_at hl 1 rfl) ?_
  refine lv_if_ge (tgt := 11) hx hb dX5_next_6 (by decide) (fun c2 => ?_) (fun c2 => ?_)
  · have hf := if_t c2 hf
    refine lv_iload_n hx hb dX5_next_11 rfl (lv_at hl 1 rfl) ?_
    refine lv_aload_n hx hb dX5_next_12 rfl (lv_at hl 0 rfl) ?_
    refine q_get C hP wM_o rfl hiX5_next_X5 1 (by decide) wdX5_next_2 rfl dX5_next_13 ?_
    refine lv_iconst (v := 5) hx hb dX5_next_16 (by decide) ?_
    refine q_iald C hP wM_a_1 (j := 5) (by decide) (vp_k (j := 5) (by decide) (by decide) (by decide)) dX5_next_17 ?_
    refine lv_icmp_ge (tgt := 41) hx hb dX5_next_18 (by decide) (fun c3 => ?_) (fun c3 => ?_)
    · have hf := if_t c3 hf
      refine lv_aload_n hx hb dX5_next_41 rfl (lv_at hl 0 rfl) ?_
      refine q_get C hP wM_o rfl hiX5_next_X5 1 (by decide) wdX5_next_2 rfl dX5_next_42 ?_
      refine lv_iconst (v := 4) hx hb dX5_next_45 (by decide) ?_
      refine q_iald C hP wM_a_1 (j := 4) (by decide) (vp_k (j := 4) (by decide) (by decide) (by decide)) dX5_next_46 ?_
      refine lv_i2l hx hb dX5_next_47 rfl ?_
      refine lv_iload_n hx hb dX5_next_48 rfl (lv_at hl 1 rfl) ?_
      refine lv_i2l hx hb dX5_next_49 rfl ?_
      refine lv_ladd hx hb dX5_next_50 ?_
      refine lv_aload_n hx hb dX5_next_51 rfl (lv_at hl 0 rfl) ?_
      refine q_get C hP wM_o rfl hiX5_next_X5 1 (by decide) wdX5_next_2 rfl dX5_next_52 ?_
      refine lv_iconst (v := 5) hx hb dX5_next_55 (by decide) ?_
      refine q_iald C hP wM_a_1 (j := 5) (by decide) (vp_k (j := 5) (by decide) (by decide) (by decide)) dX5_next_56 ?_
      refine lv_i2l hx hb dX5_next_57 rfl ?_
      refine lv_lsub hx hb dX5_next_58 ?_
      obtain ⟨y4, ey4, hf⟩ := nm_ex hf
      refine lv_tL ey4 ?_
      refine lv_lstore_n (lv' := [(2, .long y4), (0, .ref (q 42)), (1, .int a1)]) hx hb dX5_next_59 rfl hl (by decide) rfl (fun ls hl => ?_)
      refine lv_lload_n hx hb dX5_next_60 rfl (lv_at hl 0 rfl) ?_
      refine lv_aload_n hx hb dX5_next_61 rfl (lv_at hl 1 rfl) ?_
      refine q_get C hP wM_o rfl hiX5_next_X5 1 (by decide) wdX5_next_2 rfl dX5_next_62 ?_
      refine lv_iconst (v := 0) hx hb dX5_next_65 (by decide) ?_
      refine q_iald C hP wM_a_1 (j := 0) (by decide) (vp_k (j := 0) (by decide) (by decide) (by decide)) dX5_next_66 ?_
      refine lv_i2l hx hb dX5_next_67 rfl ?_
      refine W.lcmp hx hb dX5_next_68 ?_
      refine lv_if_ge (tgt := 77) hx hb dX5_next_69 (by decide) (fun c5 => ?_) (fun c5 => ?_)
      · have hf := if_t c5 hf
        refine lv_iconst (v := (-1)) hx hb dX5_next_77 (by decide) ?_
        cases hf
        exact q_iret C hP hS rfl dX5_next_78
      · have hf := if_f c5 hf
        refine lv_lload_n hx hb dX5_next_72 rfl (lv_at hl 0 rfl) ?_
        refine lv_l2i hx hb dX5_next_73 rfl ?_
        refine lv_goto (tgt := 78) hx hb dX5_next_74 (by decide) ?_
        cases hf
        exact q_iret C hP hS rfl dX5_next_78
    · have hf := if_f c3 hf
      refine lv_aload_n hx hb dX5_next_21 rfl (lv_at hl 0 rfl) ?_
      refine q_get C hP wM_o rfl hiX5_next_X5 1 (by decide) wdX5_next_2 rfl dX5_next_22 ?_
      refine lv_sipush (v := 330) hx hb dX5_next_25 (by decide) ?_
      refine lv_aload_n hx hb dX5_next_28 rfl (lv_at hl 0 rfl) ?_
      refine q_get C hP wM_o rfl hiX5_next_X5 1 (by decide) wdX5_next_2 rfl dX5_next_29 ?_
      refine lv_iconst (v := 5) hx hb dX5_next_32 (by decide) ?_
      refine q_iald C hP wM_a_1 (j := 5) (by decide) (vp_k (j := 5) (by decide) (by decide) (by decide)) dX5_next_33 ?_
      refine lv_iadd hx hb dX5_next_34 ?_
      refine lv_iconst (v := 1) hx hb dX5_next_35 (by decide) ?_
      refine lv_isub hx hb dX5_next_36 ?_
      refine lv_iload_n hx hb dX5_next_37 rfl (lv_at hl 1 rfl) ?_
      refine lv_isub hx hb dX5_next_38 ?_
      obtain ⟨hin, hf⟩ := gd_some hf
      refine q_iald C hP wM_a_1 rfl hin dX5_next_39 ?_
      cases hf
      exact q_iret C hP hS rfl dX5_next_40
  · have hf := if_f c2 hf
    refine lv_iconst (v := (-1)) hx hb dX5_next_9 (by decide) ?_
    cases hf
    exact q_iret C hP hS rfl dX5_next_10
