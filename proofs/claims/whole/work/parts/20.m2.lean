-- X5_number
theorem hiX5_number_X5 : ∀ w ∈ u_ws RX5 TX5 42, w ∈ wsX5_number := mem_run (i := 51) (by decide +kernel)
theorem wdX5_number_1 : (Cond.fieldLink RX5 109 "CombinatorRingModel" "from" "I") ∈ wsX5_number := List.mem_of_getElem? (i := 1) rfl
theorem wdX5_number_2 : (Cond.fieldLink RX5 118 "CombinatorRingModel" "token" "I") ∈ wsX5_number := List.mem_of_getElem? (i := 2) rfl
theorem wdX5_number_3 : (Cond.fieldLink RX5 112 "CombinatorRingModel" "value" "I") ∈ wsX5_number := List.mem_of_getElem? (i := 3) rfl
theorem wdX5_number_4 : (Cond.fieldLink RX5 149 "CombinatorRingModel" "end" "I") ∈ wsX5_number := List.mem_of_getElem? (i := 4) rfl
def m_number (st : OSt)  : Option (Int32 × OSt) := bd (m_go st) fun x1 => if (x1.1 7) = 2 then if (x1.1 8) ≤ 20 then bd (m_hasRoom x1 ((2 * (x1.1 8)) + 1)) fun x4 => if x4 = 0 then bd (m_badAt x1 (st.1 5) 5) fun x9 => gb x9.1 (some (x9.1, x9.2)) else bd (m_makesNumber x1 (x1.1 8)) fun x6 => nm (sI x6.2 16 x6.1) fun s7 => bd (m_go s7) fun x8 => some (1, x8) else bd (m_bad x1 3) fun x10 => gb x10.1 (some (x10.1, x10.2)) else bd (m_bad x1 1) fun x11 => gb x11.1 (some (x11.1, x11.2))
abbrev rmX5_number : Room := { frames := 2, cells := 0, slots := 0, locals := 48 }
theorem hdX5_number : yX5_number.cls = RX5 ∧ yX5_number.cls ≠ "java/lang/invoke/MethodHandle" ∧ yX5_number.cls ≠ "java/lang/invoke/VarHandle" ∧ (parseMethodDescriptor yX5_number.desc).map (fun d => d.parameters.length) = some 0 := by decide +kernel
set_option maxHeartbeats 4000000 in
set_option maxRecDepth 100000 in
theorem c_X5_number {l : Launch} {G : Gx} {q : Nat → Nat} {st : OSt}  {x : Int32 × OSt} (hf : m_number st = some x) : QM l G yX5_number wsX5_number rmX5_number [.ref (q 42)] (wM G q st) (wM G q x.2) (some (.int x.1)) := by
  refine QM.of (cc := cX5_number) (maxL := 2) (ret := (some .boolean)) (by decide) rfl (Nat.le_of_ble_eq_true rfl) ?_
  intro p e s m below meth c A ls C hD hP hS hl
  have hx := C.1
  have hb := C.2.1
  have hl : lv_has ls 2 [(0, .ref (q 42))] := hl
  unfold m_number at hf
  refine lv_aload_n hx hb dX5_number_0 rfl (lv_at hl 0 rfl) ?_
  refine q_get C hP wM_o rfl hiX5_number_X5 5 (by decide) wdX5_number_1 rfl dX5_number_1 ?_
  refine lv_istore_n (lv' := [(1, .int (st.1 5)), (0, .ref (q 42))]) hx hb dX5_number_4 rfl hl (by decide) rfl (fun ls hl => ?_)
  refine lv_aload_n hx hb dX5_number_5 rfl (lv_at hl 1 rfl) ?_
  obtain ⟨x1, hx1, hf⟩ := bd_some hf
  refine q_Vv C (rc := (RX5, TX5, 42)) (q0 := 0) (ci := 5) (ws' := wM G q x1) (wr := []) (c_X5_go hx1) gX5_number_X5_go rfl ⟨rfl, rfl⟩ hdX5_go ⟨(Nat.le_of_ble_eq_true rfl), (Nat.le_of_ble_eq_true rfl)⟩ rfl hP (dd_M hD) hS rfl rfl (List.Perm.refl _) (List.Perm.refl _) hl.1 (Nat.le_of_ble_eq_true rfl) ⟨Nat.zero_le _, Nat.zero_le _⟩ rfl dX5_number_6 (fun H locs hP hS => ?_)
  refine lv_aload_n hx hb dX5_number_9 rfl (lv_at hl 1 rfl) ?_
  refine q_get C hP wM_o rfl hiX5_number_X5 7 (by decide) wdX5_number_2 rfl dX5_number_10 ?_
  refine lv_iconst (v := 2) hx hb dX5_number_13 (by decide) ?_
  refine lv_icmp_eq (tgt := 23) hx hb dX5_number_14 (by decide) (fun c2 => ?_) (fun c2 => ?_)
  · have hf := if_t c2 hf
    refine lv_aload_n hx hb dX5_number_23 rfl (lv_at hl 1 rfl) ?_
    refine q_get C hP wM_o rfl hiX5_number_X5 8 (by decide) wdX5_number_3 rfl dX5_number_24 ?_
    refine lv_bipush (v := 20) hx hb dX5_number_27 (by decide) ?_
    refine lv_icmp_le (tgt := 38) hx hb dX5_number_29 (by decide) (fun c3 => ?_) (fun c3 => ?_)
    · have hf := if_t c3 hf
      refine lv_aload_n hx hb dX5_number_38 rfl (lv_at hl 1 rfl) ?_
      refine lv_iconst (v := 2) hx hb dX5_number_39 (by decide) ?_
      refine lv_aload_n hx hb dX5_number_40 rfl (lv_at hl 1 rfl) ?_
      refine q_get C hP wM_o rfl hiX5_number_X5 8 (by decide) wdX5_number_3 rfl dX5_number_41 ?_
      refine lv_imul hx hb dX5_number_44 ?_
      refine lv_iconst (v := 1) hx hb dX5_number_45 (by decide) ?_
      refine lv_iadd hx hb dX5_number_46 ?_
      obtain ⟨x4, hx4, hf⟩ := bd_some hf
      refine q_Vi C (rc := (RX5, TX5, 42)) (q0 := 0) (ci := 5) (ws' := wM G q x1) (wr := []) (c_X5_hasRoom hx4) gX5_number_X5_hasRoom rfl ⟨rfl, rfl⟩ hdX5_hasRoom ⟨(Nat.le_of_ble_eq_true rfl), (Nat.le_of_ble_eq_true rfl)⟩ rfl hP (dd_M hD) hS rfl rfl (List.Perm.refl _) (List.Perm.refl _) hl.1 (Nat.le_of_ble_eq_true rfl) ⟨Nat.zero_le _, Nat.zero_le _⟩ rfl dX5_number_47 (fun H locs hP hS => ?_)
      refine lv_if_ne (tgt := 60) hx hb dX5_number_50 (by decide) (fun c5 => ?_) (fun c5 => ?_)
      · have hf := if_f c5 hf
        refine lv_aload_n hx hb dX5_number_60 rfl (lv_at hl 1 rfl) ?_
        refine lv_aload_n hx hb dX5_number_61 rfl (lv_at hl 1 rfl) ?_
        refine lv_aload_n hx hb dX5_number_62 rfl (lv_at hl 1 rfl) ?_
        refine q_get C hP wM_o rfl hiX5_number_X5 8 (by decide) wdX5_number_3 rfl dX5_number_63 ?_
        obtain ⟨x6, hx6, hf⟩ := bd_some hf
        refine q_Vi C (rc := (RX5, TX5, 42)) (q0 := 0) (ci := 5) (ws' := wM G q x6.2) (wr := []) (c_X5_makesNumber hx6) gX5_number_X5_makesNumber rfl ⟨rfl, rfl⟩ hdX5_makesNumber ⟨(Nat.le_of_ble_eq_true rfl), (Nat.le_of_ble_eq_true rfl)⟩ rfl hP (dd_M hD) hS rfl rfl (List.Perm.refl _) (List.Perm.refl _) hl.1 (Nat.le_of_ble_eq_true rfl) ⟨Nat.zero_le _, Nat.zero_le _⟩ rfl dX5_number_66 (fun H locs hP hS => ?_)
        obtain ⟨s7, es7, hf⟩ := nm_ex hf
        refine q_put C hP (dd_M hD) hS wM_o rfl hiX5_number_X5 tyX5_ok nmX5 16 (by decide) wdX5_number_4 rfl rfl rfl (Nat.le_of_ble_eq_true rfl) wM_sI_16 dX5_number_69 (fun H locs hP hS => ?_)
        rw [es7] at hP
        refine lv_aload_n hx hb dX5_number_72 rfl (lv_at hl 1 rfl) ?_
        obtain ⟨x8, hx8, hf⟩ := bd_some hf
        refine q_Vv C (rc := (RX5, TX5, 42)) (q0 := 0) (ci := 5) (ws' := wM G q x8) (wr := []) (c_X5_go hx8) gX5_number_X5_go rfl ⟨rfl, rfl⟩ hdX5_go ⟨(Nat.le_of_ble_eq_true rfl), (Nat.le_of_ble_eq_true rfl)⟩ rfl hP (dd_M hD) hS rfl rfl (List.Perm.refl _) (List.Perm.refl _) hl.1 (Nat.le_of_ble_eq_true rfl) ⟨Nat.zero_le _, Nat.zero_le _⟩ rfl dX5_number_73 (fun H locs hP hS => ?_)
        refine lv_iconst (v := 1) hx hb dX5_number_76 (by decide) ?_
        cases hf
        exact q_zret C hP hS rfl (gb_nar (Or.inr rfl)) dX5_number_77
      · have hf := if_t c5 hf
        refine lv_aload_n hx hb dX5_number_53 rfl (lv_at hl 1 rfl) ?_
        refine lv_iload_n hx hb dX5_number_54 rfl (lv_at hl 0 rfl) ?_
        refine lv_iconst (v := 5) hx hb dX5_number_55 (by decide) ?_
        obtain ⟨x9, hx9, hf⟩ := bd_some hf
        refine q_Vi C (rc := (RX5, TX5, 42)) (q0 := 0) (ci := 5) (ws' := wM G q x9.2) (wr := []) (c_X5_badAt hx9) gX5_number_X5_badAt rfl ⟨rfl, rfl⟩ hdX5_badAt ⟨(Nat.le_of_ble_eq_true rfl), (Nat.le_of_ble_eq_true rfl)⟩ rfl hP (dd_M hD) hS rfl rfl (List.Perm.refl _) (List.Perm.refl _) hl.1 (Nat.le_of_ble_eq_true rfl) ⟨Nat.zero_le _, Nat.zero_le _⟩ rfl dX5_number_56 (fun H locs hP hS => ?_)
        obtain ⟨hb9, hf⟩ := gb_some hf
        cases hf
        exact q_zret C hP hS rfl (gb_nar hb9) dX5_number_59
    · have hf := if_f c3 hf
      refine lv_aload_n hx hb dX5_number_32 rfl (lv_at hl 1 rfl) ?_
      refine lv_iconst (v := 3) hx hb dX5_number_33 (by decide) ?_
      obtain ⟨x10, hx10, hf⟩ := bd_some hf
      refine q_Vi C (rc := (RX5, TX5, 42)) (q0 := 0) (ci := 5) (ws' := wM G q x10.2) (wr := []) (c_X5_bad hx10) gX5_number_X5_bad rfl ⟨rfl, rfl⟩ hdX5_bad ⟨(Nat.le_of_ble_eq_true rfl), (Nat.le_of_ble_eq_true rfl)⟩ rfl hP (dd_M hD) hS rfl rfl (List.Perm.refl _) (List.Perm.refl _) hl.1 (Nat.le_of_ble_eq_true rfl) ⟨Nat.zero_le _, Nat.zero_le _⟩ rfl dX5_number_34 (fun H locs hP hS => ?_)
      obtain ⟨hb9, hf⟩ := gb_some hf
      cases hf
      exact q_zret C hP hS rfl (gb_nar hb9) dX5_number_37
  · have hf := if_f c2 hf
    refine lv_aload_n hx hb dX5_number_17 rfl (lv_at hl 1 rfl) ?_
    refine lv_iconst (v := 1) hx hb dX5_number_18 (by decide) ?_
    obtain ⟨x11, hx11, hf⟩ := bd_some hf
    refine q_Vi C (rc := (RX5, TX5, 42)) (q0 := 0) (ci := 5) (ws' := wM G q x11.2) (wr := []) (c_X5_bad hx11) gX5_number_X5_bad rfl ⟨rfl, rfl⟩ hdX5_bad ⟨(Nat.le_of_ble_eq_true rfl), (Nat.le_of_ble_eq_true rfl)⟩ rfl hP (dd_M hD) hS rfl rfl (List.Perm.refl _) (List.Perm.refl _) hl.1 (Nat.le_of_ble_eq_true rfl) ⟨Nat.zero_le _, Nat.zero_le _⟩ rfl dX5_number_19 (fun H locs hP hS => ?_)
    obtain ⟨hb9, hf⟩ := gb_some hf
    cases hf
    exact q_zret C hP hS rfl (gb_nar hb9) dX5_number_22

-- X5_list
theorem hiX5_list_X5 : ∀ w ∈ u_ws RX5 TX5 42, w ∈ wsX5_list := mem_run (i := 56) (by decide +kernel)
theorem wdX5_list_1 : (Cond.fieldLink RX5 109 "CombinatorRingModel" "from" "I") ∈ wsX5_list := List.mem_of_getElem? (i := 1) rfl
theorem wdX5_list_2 : (Cond.fieldLink RX5 118 "CombinatorRingModel" "token" "I") ∈ wsX5_list := List.mem_of_getElem? (i := 2) rfl
theorem wdX5_list_5 : (Cond.fieldLink RX5 149 "CombinatorRingModel" "end" "I") ∈ wsX5_list := List.mem_of_getElem? (i := 5) rfl
theorem wdX5_list_3 : (Cond.fieldLink RX5 112 "CombinatorRingModel" "value" "I") ∈ wsX5_list := List.mem_of_getElem? (i := 3) rfl
theorem wdX5_list_4 : (Cond.fieldLink RX5 30 "CombinatorRingModel" "listed" "[I") ∈ wsX5_list := List.mem_of_getElem? (i := 4) rfl
def m_list_118 : Nat → OSt → Int32 → Int32 → Int32 → Int32 → Option (OSt × Int32 × Int32)
  | 0, _, _, _, _, _ => none
  | n + 1, st, v2, v4, v5, v6 => if v2 ≤ v6 then some (st, v4, v5) else bd (m_makes st 1) fun x31 => gd v6 10 (bd (m_makesNumber x31.2 (x31.2.2 17 v6.toNatClampNeg)) fun x32 => bd (m_links x32.2 ((3 * x31.1) + 1) x32.1) fun x33 => if v4 = (-1) then m_list_118 n x33 v2 ((3 * x31.1) + 2) (3 * x31.1) (v6 + 1) else bd (m_links x33 v4 (3 * x31.1)) fun x35 => m_list_118 n x35 v2 ((3 * x31.1) + 2) v5 (v6 + 1))
def m_list_13 : Nat → OSt → Int32 → Int32 → Int32 → Option (Int32 × OSt)
  | 0, _, _, _, _ => none
  | n + 1, st, v1, v2, v3 => if (st.1 7) = 2 then if (st.1 8) ≤ 9 then if v2 = 10 then bd (m_bad st 4) fun x28 => gb x28.1 (some (x28.1, x28.2)) else gd v2 10 (nm (sA st 17 (upd (st.2 17) v2.toNatClampNeg (st.1 8))) fun s25 => nm ((v3 + ((2 * (s25.1 8)) + 2))) fun y26 => bd (m_go s25) fun x27 => m_list_13 n x27 v1 (v2 + 1) y26) else bd (m_bad st 3) fun x29 => gb x29.1 (some (x29.1, x29.2)) else bd (m_is st 62) fun x3 => if x3 = 0 then bd (m_bad st 1) fun x22 => gb x22.1 (some (x22.1, x22.2)) else bd (m_hasRoom st v3) fun x5 => if x5 = 0 then bd (m_badAt st v1 5) fun x21 => gb x21.1 (some (x21.1, x21.2)) else bd (m_list_118 20000 st v2 (-1) (-1) 0) fun x7 => bd (m_makes x7.1 0) fun x8 => if x7.2.1 = (-1) then if x7.2.1 = (-1) then nm (sI x8.2 16 (3 * x8.1)) fun s13 => bd (m_go s13) fun x14 => some (1, x14) else nm (sI x8.2 16 x7.2.2) fun s11 => bd (m_go s11) fun x12 => some (1, x12) else bd (m_links x8.2 x7.2.1 (3 * x8.1)) fun x15 => if x7.2.1 = (-1) then nm (sI x15 16 (3 * x8.1)) fun s19 => bd (m_go s19) fun x20 => some (1, x20) else nm (sI x15 16 x7.2.2) fun s17 => bd (m_go s17) fun x18 => some (1, x18)
def m_list (st : OSt)  : Option (Int32 × OSt) := bd (m_go st) fun x1 => m_list_13 20000 x1 (st.1 5) 0 1
abbrev rmX5_list : Room := { frames := 2, cells := 0, slots := 0, locals := 48 }
theorem hdX5_list : yX5_list.cls = RX5 ∧ yX5_list.cls ≠ "java/lang/invoke/MethodHandle" ∧ yX5_list.cls ≠ "java/lang/invoke/VarHandle" ∧ (parseMethodDescriptor yX5_list.desc).map (fun d => d.parameters.length) = some 0 := by decide +kernel
set_option maxHeartbeats 4000000 in
set_option maxRecDepth 100000 in
theorem t_X5_list_118 {p : Program} {l : Launch} {e : Env} {s : State} {m : MethodId} {args : Array Value} {below : List Frame} {meth : Method} {c : Code} {Q : State → Prop} {A : Nat → Prop} {G : Gx} {q : Nat → Nat} {st0 : OSt} (C : Cx p s m args meth c G cX5_list wsX5_list RX5 (some .boolean) 8 A) (hD : va_D A (wM G q st0)) :
    ∀ {n : Nat} {st : OSt} {v2 : Int32} {v4 : Int32} {v5 : Int32} {v6 : Int32} {x : OSt × Int32 × Int32}, m_list_118 n st v2 v4 v5 v6 = some x → ∀ {H : Heap} {locs : List Loc} {ls : Array Slot}, va_P G.1 vwCl (wM G q st) H → va_S A s.heap H locs → lv_has ls 8 [(0, .ref (q 42)), (2, .int v2), (4, .int v4), (5, .int v5), (6, .int v6)] → (∀ {H : Heap} {locs : List Loc} {ls : Array Slot}, va_P G.1 vwCl (wM G q x.1) H → va_S A s.heap H locs → lv_has ls 8 [(0, .ref (q 42)), (4, .int x.2.1), (5, .int x.2.2)] → W p l e rmX5_list s m args below meth c H locs 0 0 Q (F0 m 191 ls [])) → W p l e rmX5_list s m args below meth c H locs 0 0 Q (F0 m 118 ls []) := by
  have hx := C.1
  have hb := C.2.1
  intro n
  induction n with
  | zero => intro st v2 v4 v5 v6 x hf; cases hf
  | succ n ih =>
    intro st v2 v4 v5 v6 x hf H locs ls hP hS hl kk
    rw [m_list_118] at hf
    refine lv_iload hx hb dX5_list_118 (lv_at hl 4 rfl) ?_
    refine lv_iload_n hx hb dX5_list_120 rfl (lv_at hl 1 rfl) ?_
    refine lv_icmp_ge (tgt := 191) hx hb dX5_list_121 (by decide) (fun c30 => ?_) (fun c30 => ?_)
    · have hf := if_t c30 hf
      cases hf
      exact kk hP hS (lv_sub hl [0, 2, 3] rfl)
    · have hf := if_f c30 hf
      refine lv_aload_n hx hb dX5_list_124 rfl (lv_at hl 0 rfl) ?_
      refine lv_iconst (v := 1) hx hb dX5_list_125 (by decide) ?_
      obtain ⟨x31, hx31, hf⟩ := bd_some hf
      refine q_Vi C (rc := (RX5, TX5, 42)) (q0 := 0) (ci := 5) (ws' := wM G q x31.2) (wr := []) (c_X5_makes hx31) gX5_list_X5_makes rfl ⟨rfl, rfl⟩ hdX5_makes ⟨(Nat.le_of_ble_eq_true rfl), (Nat.le_of_ble_eq_true rfl)⟩ rfl hP (dd_M hD) hS rfl rfl (List.Perm.refl _) (List.Perm.refl _) hl.1 (Nat.le_of_ble_eq_true rfl) ⟨Nat.zero_le _, Nat.zero_le _⟩ rfl dX5_list_126 (fun H locs hP hS => ?_)
      refine lv_istore (lv' := [(7, .int x31.1), (0, .ref (q 42)), (2, .int v2), (4, .int v4), (5, .int v5), (6, .int v6)]) hx hb dX5_list_129 hl (by decide) rfl (fun ls hl => ?_)
      refine lv_aload_n hx hb dX5_list_131 rfl (lv_at hl 1 rfl) ?_
      refine lv_iconst (v := 3) hx hb dX5_list_132 (by decide) ?_
      refine lv_iload hx hb dX5_list_133 (lv_at hl 0 rfl) ?_
      refine lv_imul hx hb dX5_list_135 ?_
      refine lv_iconst (v := 1) hx hb dX5_list_136 (by decide) ?_
      refine lv_iadd hx hb dX5_list_137 ?_
      refine lv_aload_n hx hb dX5_list_138 rfl (lv_at hl 1 rfl) ?_
      refine lv_aload_n hx hb dX5_list_139 rfl (lv_at hl 1 rfl) ?_
      refine q_get C hP wM_o rfl hiX5_list_X5 17 (by decide) wdX5_list_4 rfl dX5_list_140 ?_
      refine lv_iload hx hb dX5_list_143 (lv_at hl 5 rfl) ?_
      obtain ⟨hin, hf⟩ := gd_some hf
      refine q_iald C hP wM_a_17 rfl hin dX5_list_145 ?_
      obtain ⟨x32, hx32, hf⟩ := bd_some hf
      refine q_Vi C (rc := (RX5, TX5, 42)) (q0 := 0) (ci := 5) (ws' := wM G q x32.2) (wr := []) (c_X5_makesNumber hx32) gX5_list_X5_makesNumber rfl ⟨rfl, rfl⟩ hdX5_makesNumber ⟨(Nat.le_of_ble_eq_true rfl), (Nat.le_of_ble_eq_true rfl)⟩ rfl hP (dd_M hD) hS rfl rfl (List.Perm.refl _) (List.Perm.refl _) hl.1 (Nat.le_of_ble_eq_true rfl) ⟨Nat.zero_le _, Nat.zero_le _⟩ rfl dX5_list_146 (fun H locs hP hS => ?_)
      obtain ⟨x33, hx33, hf⟩ := bd_some hf
      refine q_Vv C (rc := (RX5, TX5, 42)) (q0 := 0) (ci := 5) (ws' := wM G q x33) (wr := []) (c_X5_links hx33) gX5_list_X5_links rfl ⟨rfl, rfl⟩ hdX5_links ⟨(Nat.le_of_ble_eq_true rfl), (Nat.le_of_ble_eq_true rfl)⟩ rfl hP (dd_M hD) hS rfl rfl (List.Perm.refl _) (List.Perm.refl _) hl.1 (Nat.le_of_ble_eq_true rfl) ⟨Nat.zero_le _, Nat.zero_le _⟩ rfl dX5_list_149 (fun H locs hP hS => ?_)
      refine lv_iload hx hb dX5_list_152 (lv_at hl 3 rfl) ?_
      refine lv_iconst (v := (-1)) hx hb dX5_list_154 (by decide) ?_
      refine lv_icmp_ne (tgt := 167) hx hb dX5_list_155 (by decide) (fun c34 => ?_) (fun c34 => ?_)
      · have hf := if_f c34 hf
        refine lv_aload_n hx hb dX5_list_167 rfl (lv_at hl 1 rfl) ?_
        refine lv_iload hx hb dX5_list_168 (lv_at hl 3 rfl) ?_
        refine lv_iconst (v := 3) hx hb dX5_list_170 (by decide) ?_
        refine lv_iload hx hb dX5_list_171 (lv_at hl 0 rfl) ?_
        refine lv_imul hx hb dX5_list_173 ?_
        obtain ⟨x35, hx35, hf⟩ := bd_some hf
        refine q_Vv C (rc := (RX5, TX5, 42)) (q0 := 0) (ci := 5) (ws' := wM G q x35) (wr := []) (c_X5_links hx35) gX5_list_X5_links rfl ⟨rfl, rfl⟩ hdX5_links ⟨(Nat.le_of_ble_eq_true rfl), (Nat.le_of_ble_eq_true rfl)⟩ rfl hP (dd_M hD) hS rfl rfl (List.Perm.refl _) (List.Perm.refl _) hl.1 (Nat.le_of_ble_eq_true rfl) ⟨Nat.zero_le _, Nat.zero_le _⟩ rfl dX5_list_174 (fun H locs hP hS => ?_)
        refine lv_iconst (v := 3) hx hb dX5_list_177 (by decide) ?_
        refine lv_iload hx hb dX5_list_178 (lv_at hl 0 rfl) ?_
        refine lv_imul hx hb dX5_list_180 ?_
        refine lv_iconst (v := 2) hx hb dX5_list_181 (by decide) ?_
        refine lv_iadd hx hb dX5_list_182 ?_
        refine lv_istore (lv' := [(4, .int ((3 * x31.1) + 2)), (7, .int x31.1), (0, .ref (q 42)), (2, .int v2), (5, .int v5), (6, .int v6)]) hx hb dX5_list_183 hl (by decide) rfl (fun ls hl => ?_)
        refine lv_iinc (v := (v6 + 1)) (lv' := [(6, .int (v6 + 1)), (4, .int ((3 * x31.1) + 2)), (7, .int x31.1), (0, .ref (q 42)), (2, .int v2), (5, .int v5)]) hx hb dX5_list_185 hl (k := 5) rfl rfl (by decide) rfl (fun ls hl => ?_)
        refine lv_goto (tgt := 118) hx hb dX5_list_188 (by decide) ?_
        exact ih hf hP hS (lv_sub hl [3, 4, 1, 5, 0] rfl) kk
      · have hf := if_t c34 hf
        refine lv_iconst (v := 3) hx hb dX5_list_158 (by decide) ?_
        refine lv_iload hx hb dX5_list_159 (lv_at hl 0 rfl) ?_
        refine lv_imul hx hb dX5_list_161 ?_
        refine lv_istore (lv' := [(5, .int (3 * x31.1)), (7, .int x31.1), (0, .ref (q 42)), (2, .int v2), (4, .int v4), (6, .int v6)]) hx hb dX5_list_162 hl (by decide) rfl (fun ls hl => ?_)
        refine lv_goto (tgt := 177) hx hb dX5_list_164 (by decide) ?_
        refine lv_iconst (v := 3) hx hb dX5_list_177 (by decide) ?_
        refine lv_iload hx hb dX5_list_178 (lv_at hl 1 rfl) ?_
        refine lv_imul hx hb dX5_list_180 ?_
        refine lv_iconst (v := 2) hx hb dX5_list_181 (by decide) ?_
        refine lv_iadd hx hb dX5_list_182 ?_
        refine lv_istore (lv' := [(4, .int ((3 * x31.1) + 2)), (5, .int (3 * x31.1)), (7, .int x31.1), (0, .ref (q 42)), (2, .int v2), (6, .int v6)]) hx hb dX5_list_183 hl (by decide) rfl (fun ls hl => ?_)
        refine lv_iinc (v := (v6 + 1)) (lv' := [(6, .int (v6 + 1)), (4, .int ((3 * x31.1) + 2)), (5, .int (3 * x31.1)), (7, .int x31.1), (0, .ref (q 42)), (2, .int v2)]) hx hb dX5_list_185 hl (k := 5) rfl rfl (by decide) rfl (fun ls hl => ?_)
        refine lv_goto (tgt := 118) hx hb dX5_list_188 (by decide) ?_
        exact ih hf hP hS (lv_sub hl [4, 5, 1, 2, 0] rfl) kk
set_option maxHeartbeats 4000000 in
set_option maxRecDepth 100000 in
theorem t_X5_list_13 {p : Program} {l : Launch} {e : Env} {s : State} {m : MethodId} {args : Array Value} {below : List Frame} {meth : Method} {c : Code} {A : Nat → Prop} {G : Gx} {q : Nat → Nat} {st0 : OSt} (C : Cx p s m args meth c G cX5_list wsX5_list RX5 (some .boolean) 8 A) (hD : va_D A (wM G q st0)) :
    ∀ {n : Nat} {st : OSt} {v1 : Int32} {v2 : Int32} {v3 : Int32} {x : Int32 × OSt}, m_list_13 n st v1 v2 v3 = some x → ∀ {H : Heap} {locs : List Loc} {ls : Array Slot}, va_P G.1 vwCl (wM G q st) H → va_S A s.heap H locs → lv_has ls 8 [(0, .ref (q 42)), (1, .int v1), (2, .int v2), (3, .int v3)] → W p l e rmX5_list s m args below meth c H locs 0 0 (MQ below (qE G A (wM G q x.2) (some (.int x.1))) args s 0 0 A) (F0 m 13 ls []) := by
  have hx := C.1
  have hb := C.2.1
  intro n
  induction n with
  | zero => intro st v1 v2 v3 x hf; cases hf
  | succ n ih =>
    intro st v1 v2 v3 x hf H locs ls hP hS hl
    rw [m_list_13] at hf
    refine lv_aload_n hx hb dX5_list_13 rfl (lv_at hl 0 rfl) ?_
    refine q_get C hP wM_o rfl hiX5_list_X5 7 (by decide) wdX5_list_2 rfl dX5_list_14 ?_
    refine lv_iconst (v := 2) hx hb dX5_list_17 (by decide) ?_
    refine lv_icmp_ne (tgt := 79) hx hb dX5_list_18 (by decide) (fun c2 => ?_) (fun c2 => ?_)
    · have hf := if_f c2 hf
      refine lv_aload_n hx hb dX5_list_79 rfl (lv_at hl 0 rfl) ?_
      refine lv_bipush (v := 62) hx hb dX5_list_80 (by decide) ?_
      obtain ⟨x3, hx3, hf⟩ := bd_some hf
      refine q_Vi C (rc := (RX5, TX5, 42)) (q0 := 0) (ci := 5) (ws' := wM G q st) (wr := []) (c_X5_is hx3) gX5_list_X5_is rfl ⟨rfl, rfl⟩ hdX5_is ⟨(Nat.le_of_ble_eq_true rfl), (Nat.le_of_ble_eq_true rfl)⟩ rfl hP (dd_M hD) hS rfl rfl (List.Perm.refl _) (List.Perm.refl _) hl.1 (Nat.le_of_ble_eq_true rfl) ⟨Nat.zero_le _, Nat.zero_le _⟩ rfl dX5_list_82 (fun H locs hP hS => ?_)
      refine lv_if_ne (tgt := 94) hx hb dX5_list_85 (by decide) (fun c4 => ?_) (fun c4 => ?_)
      · have hf := if_f c4 hf
        refine lv_aload_n hx hb dX5_list_94 rfl (lv_at hl 0 rfl) ?_
        refine lv_iload_n hx hb dX5_list_95 rfl (lv_at hl 3 rfl) ?_
        obtain ⟨x5, hx5, hf⟩ := bd_some hf
        refine q_Vi C (rc := (RX5, TX5, 42)) (q0 := 0) (ci := 5) (ws' := wM G q st) (wr := []) (c_X5_hasRoom hx5) gX5_list_X5_hasRoom rfl ⟨rfl, rfl⟩ hdX5_hasRoom ⟨(Nat.le_of_ble_eq_true rfl), (Nat.le_of_ble_eq_true rfl)⟩ rfl hP (dd_M hD) hS rfl rfl (List.Perm.refl _) (List.Perm.refl _) hl.1 (Nat.le_of_ble_eq_true rfl) ⟨Nat.zero_le _, Nat.zero_le _⟩ rfl dX5_list_96 (fun H locs hP hS => ?_)
        refine lv_if_ne (tgt := 109) hx hb dX5_list_99 (by decide) (fun c6 => ?_) (fun c6 => ?_)
        · have hf := if_f c6 hf
          refine lv_iconst (v := (-1)) hx hb dX5_list_109 (by decide) ?_
          refine lv_istore (lv' := [(4, .int (-1)), (0, .ref (q 42)), (1, .int v1), (2, .int v2), (3, .int v3)]) hx hb dX5_list_110 hl (by decide) rfl (fun ls hl => ?_)
          refine lv_iconst (v := (-1)) hx hb dX5_list_112 (by decide) ?_
          refine lv_istore (lv' := [(5, .int (-1)), (4, .int (-1)), (0, .ref (q 42)), (1, .int v1), (2, .int v2), (3, .int v3)]) hx hb dX5_list_113 hl (by decide) rfl (fun ls hl => ?_)
          refine lv_iconst (v := 0) hx hb dX5_list_115 (by decide) ?_
          refine lv_istore (lv' := [(6, .int 0), (5, .int (-1)), (4, .int (-1)), (0, .ref (q 42)), (1, .int v1), (2, .int v2), (3, .int v3)]) hx hb dX5_list_116 hl (by decide) rfl (fun ls hl => ?_)
          obtain ⟨x7, hx7, hf⟩ := bd_some hf
          refine t_X5_list_118 C hD hx7 hP hS (lv_sub hl [3, 5, 2, 1, 0] rfl) (fun {H locs ls} hP hS hl => ?_)
          refine lv_aload_n hx hb dX5_list_191 rfl (lv_at hl 0 rfl) ?_
          refine lv_iconst (v := 0) hx hb dX5_list_192 (by decide) ?_
          obtain ⟨x8, hx8, hf⟩ := bd_some hf
          refine q_Vi C (rc := (RX5, TX5, 42)) (q0 := 0) (ci := 5) (ws' := wM G q x8.2) (wr := []) (c_X5_makes hx8) gX5_list_X5_makes rfl ⟨rfl, rfl⟩ hdX5_makes ⟨(Nat.le_of_ble_eq_true rfl), (Nat.le_of_ble_eq_true rfl)⟩ rfl hP (dd_M hD) hS rfl rfl (List.Perm.refl _) (List.Perm.refl _) hl.1 (Nat.le_of_ble_eq_true rfl) ⟨Nat.zero_le _, Nat.zero_le _⟩ rfl dX5_list_193 (fun H locs hP hS => ?_)
          refine lv_istore (lv' := [(6, .int x8.1), (0, .ref (q 42)), (4, .int x7.2.1), (5, .int x7.2.2)]) hx hb dX5_list_196 hl (by decide) rfl (fun ls hl => ?_)
          refine lv_iload hx hb dX5_list_198 (lv_at hl 2 rfl) ?_
          refine lv_iconst (v := (-1)) hx hb dX5_list_200 (by decide) ?_
          refine lv_icmp_eq (tgt := 214) hx hb dX5_list_201 (by decide) (fun c9 => ?_) (fun c9 => ?_)
          · have hf := if_t c9 hf
            refine lv_aload_n hx hb dX5_list_214 rfl (lv_at hl 1 rfl) ?_
            refine lv_iload hx hb dX5_list_215 (lv_at hl 2 rfl) ?_
            refine lv_iconst (v := (-1)) hx hb dX5_list_217 (by decide) ?_
            refine lv_icmp_ne (tgt := 228) hx hb dX5_list_218 (by decide) (fun c10 => ?_) (fun c10 => ?_)
            · have hf := if_f c10 hf
              refine lv_iload hx hb dX5_list_228 (lv_at hl 3 rfl) ?_
              obtain ⟨s11, es11, hf⟩ := nm_ex hf
              refine q_put C hP (dd_M hD) hS wM_o rfl hiX5_list_X5 tyX5_ok nmX5 16 (by decide) wdX5_list_5 rfl rfl rfl (Nat.le_of_ble_eq_true rfl) wM_sI_16 dX5_list_230 (fun H locs hP hS => ?_)
              rw [es11] at hP
              refine lv_aload_n hx hb dX5_list_233 rfl (lv_at hl 1 rfl) ?_
              obtain ⟨x12, hx12, hf⟩ := bd_some hf
              refine q_Vv C (rc := (RX5, TX5, 42)) (q0 := 0) (ci := 5) (ws' := wM G q x12) (wr := []) (c_X5_go hx12) gX5_list_X5_go rfl ⟨rfl, rfl⟩ hdX5_go ⟨(Nat.le_of_ble_eq_true rfl), (Nat.le_of_ble_eq_true rfl)⟩ rfl hP (dd_M hD) hS rfl rfl (List.Perm.refl _) (List.Perm.refl _) hl.1 (Nat.le_of_ble_eq_true rfl) ⟨Nat.zero_le _, Nat.zero_le _⟩ rfl dX5_list_234 (fun H locs hP hS => ?_)
              refine lv_iconst (v := 1) hx hb dX5_list_237 (by decide) ?_
              cases hf
              exact q_zret C hP hS rfl (gb_nar (Or.inr rfl)) dX5_list_238
            · have hf := if_t c10 hf
              refine lv_iconst (v := 3) hx hb dX5_list_221 (by decide) ?_
              refine lv_iload hx hb dX5_list_222 (lv_at hl 0 rfl) ?_
              refine lv_imul hx hb dX5_list_224 ?_
              refine lv_goto (tgt := 230) hx hb dX5_list_225 (by decide) ?_
              obtain ⟨s13, es13, hf⟩ := nm_ex hf
              refine q_put C hP (dd_M hD) hS wM_o rfl hiX5_list_X5 tyX5_ok nmX5 16 (by decide) wdX5_list_5 rfl rfl rfl (Nat.le_of_ble_eq_true rfl) wM_sI_16 dX5_list_230 (fun H locs hP hS => ?_)
              rw [es13] at hP
              refine lv_aload_n hx hb dX5_list_233 rfl (lv_at hl 1 rfl) ?_
              obtain ⟨x14, hx14, hf⟩ := bd_some hf
              refine q_Vv C (rc := (RX5, TX5, 42)) (q0 := 0) (ci := 5) (ws' := wM G q x14) (wr := []) (c_X5_go hx14) gX5_list_X5_go rfl ⟨rfl, rfl⟩ hdX5_go ⟨(Nat.le_of_ble_eq_true rfl), (Nat.le_of_ble_eq_true rfl)⟩ rfl hP (dd_M hD) hS rfl rfl (List.Perm.refl _) (List.Perm.refl _) hl.1 (Nat.le_of_ble_eq_true rfl) ⟨Nat.zero_le _, Nat.zero_le _⟩ rfl dX5_list_234 (fun H locs hP hS => ?_)
              refine lv_iconst (v := 1) hx hb dX5_list_237 (by decide) ?_
              cases hf
              exact q_zret C hP hS rfl (gb_nar (Or.inr rfl)) dX5_list_238
          · have hf := if_f c9 hf
            refine lv_aload_n hx hb dX5_list_204 rfl (lv_at hl 1 rfl) ?_
            refine lv_iload hx hb dX5_list_205 (lv_at hl 2 rfl) ?_
            refine lv_iconst (v := 3) hx hb dX5_list_207 (by decide) ?_
            refine lv_iload hx hb dX5_list_208 (lv_at hl 0 rfl) ?_
            refine lv_imul hx hb dX5_list_210 ?_
            obtain ⟨x15, hx15, hf⟩ := bd_some hf
            refine q_Vv C (rc := (RX5, TX5, 42)) (q0 := 0) (ci := 5) (ws' := wM G q x15) (wr := []) (c_X5_links hx15) gX5_list_X5_links rfl ⟨rfl, rfl⟩ hdX5_links ⟨(Nat.le_of_ble_eq_true rfl), (Nat.le_of_ble_eq_true rfl)⟩ rfl hP (dd_M hD) hS rfl rfl (List.Perm.refl _) (List.Perm.refl _) hl.1 (Nat.le_of_ble_eq_true rfl) ⟨Nat.zero_le _, Nat.zero_le _⟩ rfl dX5_list_211 (fun H locs hP hS => ?_)
            refine lv_aload_n hx hb dX5_list_214 rfl (lv_at hl 1 rfl) ?_
            refine lv_iload hx hb dX5_list_215 (lv_at hl 2 rfl) ?_
            refine lv_iconst (v := (-1)) hx hb dX5_list_217 (by decide) ?_
            refine lv_icmp_ne (tgt := 228) hx hb dX5_list_218 (by decide) (fun c16 => ?_) (fun c16 => ?_)
            · have hf := if_f c16 hf
              refine lv_iload hx hb dX5_list_228 (lv_at hl 3 rfl) ?_
              obtain ⟨s17, es17, hf⟩ := nm_ex hf
              refine q_put C hP (dd_M hD) hS wM_o rfl hiX5_list_X5 tyX5_ok nmX5 16 (by decide) wdX5_list_5 rfl rfl rfl (Nat.le_of_ble_eq_true rfl) wM_sI_16 dX5_list_230 (fun H locs hP hS => ?_)
              rw [es17] at hP
              refine lv_aload_n hx hb dX5_list_233 rfl (lv_at hl 1 rfl) ?_
              obtain ⟨x18, hx18, hf⟩ := bd_some hf
              refine q_Vv C (rc := (RX5, TX5, 42)) (q0 := 0) (ci := 5) (ws' := wM G q x18) (wr := []) (c_X5_go hx18) gX5_list_X5_go rfl ⟨rfl, rfl⟩ hdX5_go ⟨(Nat.le_of_ble_eq_true rfl), (Nat.le_of_ble_eq_true rfl)⟩ rfl hP (dd_M hD) hS rfl rfl (List.Perm.refl _) (List.Perm.refl _) hl.1 (Nat.le_of_ble_eq_true rfl) ⟨Nat.zero_le _, Nat.zero_le _⟩ rfl dX5_list_234 (fun H locs hP hS => ?_)
              refine lv_iconst (v := 1) hx hb dX5_list_237 (by decide) ?_
              cases hf
              exact q_zret C hP hS rfl (gb_nar (Or.inr rfl)) dX5_list_238
            · have hf := if_t c16 hf
              refine lv_iconst (v := 3) hx hb dX5_list_221 (by decide) ?_
              refine lv_iload hx hb dX5_list_222 (lv_at hl 0 rfl) ?_
              refine lv_imul hx hb dX5_list_224 ?_
              refine lv_goto (tgt := 230) hx hb dX5_list_225 (by decide) ?_
              obtain ⟨s19, es19, hf⟩ := nm_ex hf
              refine q_put C hP (dd_M hD) hS wM_o rfl hiX5_list_X5 tyX5_ok nmX5 16 (by decide) wdX5_list_5 rfl rfl rfl (Nat.le_of_ble_eq_true rfl) wM_sI_16 dX5_list_230 (fun H locs hP hS => ?_)
              rw [es19] at hP
              refine lv_aload_n hx hb dX5_list_233 rfl (lv_at hl 1 rfl) ?_
              obtain ⟨x20, hx20, hf⟩ := bd_some hf
              refine q_Vv C (rc := (RX5, TX5, 42)) (q0 := 0) (ci := 5) (ws' := wM G q x20) (wr := []) (c_X5_go hx20) gX5_list_X5_go rfl ⟨rfl, rfl⟩ hdX5_go ⟨(Nat.le_of_ble_eq_true rfl), (Nat.le_of_ble_eq_true rfl)⟩ rfl hP (dd_M hD) hS rfl rfl (List.Perm.refl _) (List.Perm.refl _) hl.1 (Nat.le_of_ble_eq_true rfl) ⟨Nat.zero_le _, Nat.zero_le _⟩ rfl dX5_list_234 (fun H locs hP hS => ?_)
              refine lv_iconst (v := 1) hx hb dX5_list_237 (by decide) ?_
              cases hf
              exact q_zret C hP hS rfl (gb_nar (Or.inr rfl)) dX5_list_238
        · have hf := if_t c6 hf
          refine lv_aload_n hx hb dX5_list_102 rfl (lv_at hl 0 rfl) ?_
          refine lv_iload_n hx hb dX5_list_103 rfl (lv_at hl 1 rfl) ?_
          refine lv_iconst (v := 5) hx hb dX5_list_104 (by decide) ?_
          obtain ⟨x21, hx21, hf⟩ := bd_some hf
          refine q_Vi C (rc := (RX5, TX5, 42)) (q0 := 0) (ci := 5) (ws' := wM G q x21.2) (wr := []) (c_X5_badAt hx21) gX5_list_X5_badAt rfl ⟨rfl, rfl⟩ hdX5_badAt ⟨(Nat.le_of_ble_eq_true rfl), (Nat.le_of_ble_eq_true rfl)⟩ rfl hP (dd_M hD) hS rfl rfl (List.Perm.refl _) (List.Perm.refl _) hl.1 (Nat.le_of_ble_eq_true rfl) ⟨Nat.zero_le _, Nat.zero_le _⟩ rfl dX5_list_105 (fun H locs hP hS => ?_)
          obtain ⟨hb9, hf⟩ := gb_some hf
          cases hf
          exact q_zret C hP hS rfl (gb_nar hb9) dX5_list_108
      · have hf := if_t c4 hf
        refine lv_aload_n hx hb dX5_list_88 rfl (lv_at hl 0 rfl) ?_
        refine lv_iconst (v := 1) hx hb dX5_list_89 (by decide) ?_
        obtain ⟨x22, hx22, hf⟩ := bd_some hf
        refine q_Vi C (rc := (RX5, TX5, 42)) (q0 := 0) (ci := 5) (ws' := wM G q x22.2) (wr := []) (c_X5_bad hx22) gX5_list_X5_bad rfl ⟨rfl, rfl⟩ hdX5_bad ⟨(Nat.le_of_ble_eq_true rfl), (Nat.le_of_ble_eq_true rfl)⟩ rfl hP (dd_M hD) hS rfl rfl (List.Perm.refl _) (List.Perm.refl _) hl.1 (Nat.le_of_ble_eq_true rfl) ⟨Nat.zero_le _, Nat.zero_le _⟩ rfl dX5_list_90 (fun H locs hP hS => ?_)
        obtain ⟨hb9, hf⟩ := gb_some hf
        cases hf
        exact q_zret C hP hS rfl (gb_nar hb9) dX5_list_93
    · have hf := if_t c2 hf
      refine lv_aload_n hx hb dX5_list_21 rfl (lv_at hl 0 rfl) ?_
      refine q_get C hP wM_o rfl hiX5_list_X5 8 (by decide) wdX5_list_3 rfl dX5_list_22 ?_
      refine lv_bipush (v := 9) hx hb dX5_list_25 (by decide) ?_
      refine lv_icmp_le (tgt := 36) hx hb dX5_list_27 (by decide) (fun c23 => ?_) (fun c23 => ?_)
      · have hf := if_t c23 hf
        refine lv_iload_n hx hb dX5_list_36 rfl (lv_at hl 2 rfl) ?_
        refine lv_bipush (v := 10) hx hb dX5_list_37 (by decide) ?_
        refine lv_icmp_ne (tgt := 48) hx hb dX5_list_39 (by decide) (fun c24 => ?_) (fun c24 => ?_)
        · have hf := if_f c24 hf
          refine lv_aload_n hx hb dX5_list_48 rfl (lv_at hl 0 rfl) ?_
          refine q_get C hP wM_o rfl hiX5_list_X5 17 (by decide) wdX5_list_4 rfl dX5_list_49 ?_
          refine lv_iload_n hx hb dX5_list_52 rfl (lv_at hl 2 rfl) ?_
          refine lv_aload_n hx hb dX5_list_53 rfl (lv_at hl 0 rfl) ?_
          refine q_get C hP wM_o rfl hiX5_list_X5 8 (by decide) wdX5_list_3 rfl dX5_list_54 ?_
          obtain ⟨hin, hf⟩ := gd_some hf
          obtain ⟨s25, es25, hf⟩ := nm_ex hf
          refine q_iast C hP (dd_M hD) hS wM_a_17 rfl wM_sA_17 hin dX5_list_57 (fun H locs hP hS => ?_)
          rw [es25] at hP
          refine lv_iinc (v := (v2 + 1)) (lv' := [(2, .int (v2 + 1)), (0, .ref (q 42)), (1, .int v1), (3, .int v3)]) hx hb dX5_list_58 hl (k := 2) rfl rfl (by decide) rfl (fun ls hl => ?_)
          refine lv_iload_n hx hb dX5_list_61 rfl (lv_at hl 3 rfl) ?_
          refine lv_iconst (v := 2) hx hb dX5_list_62 (by decide) ?_
          refine lv_aload_n hx hb dX5_list_63 rfl (lv_at hl 1 rfl) ?_
          refine q_get C hP wM_o rfl hiX5_list_X5 8 (by decide) wdX5_list_3 rfl dX5_list_64 ?_
          refine lv_imul hx hb dX5_list_67 ?_
          refine lv_iconst (v := 2) hx hb dX5_list_68 (by decide) ?_
          refine lv_iadd hx hb dX5_list_69 ?_
          refine lv_iadd hx hb dX5_list_70 ?_
          obtain ⟨y26, ey26, hf⟩ := nm_ex hf
          refine lv_tI ey26 ?_
          refine lv_istore_n (lv' := [(3, .int y26), (2, .int (v2 + 1)), (0, .ref (q 42)), (1, .int v1)]) hx hb dX5_list_71 rfl hl (by decide) rfl (fun ls hl => ?_)
          refine lv_aload_n hx hb dX5_list_72 rfl (lv_at hl 2 rfl) ?_
          obtain ⟨x27, hx27, hf⟩ := bd_some hf
          refine q_Vv C (rc := (RX5, TX5, 42)) (q0 := 0) (ci := 5) (ws' := wM G q x27) (wr := []) (c_X5_go hx27) gX5_list_X5_go rfl ⟨rfl, rfl⟩ hdX5_go ⟨(Nat.le_of_ble_eq_true rfl), (Nat.le_of_ble_eq_true rfl)⟩ rfl hP (dd_M hD) hS rfl rfl (List.Perm.refl _) (List.Perm.refl _) hl.1 (Nat.le_of_ble_eq_true rfl) ⟨Nat.zero_le _, Nat.zero_le _⟩ rfl dX5_list_73 (fun H locs hP hS => ?_)
          refine lv_goto (tgt := 13) hx hb dX5_list_76 (by decide) ?_
          exact ih hf hP hS (lv_sub hl [2, 3, 1, 0] rfl)
        · have hf := if_t c24 hf
          refine lv_aload_n hx hb dX5_list_42 rfl (lv_at hl 0 rfl) ?_
          refine lv_iconst (v := 4) hx hb dX5_list_43 (by decide) ?_
          obtain ⟨x28, hx28, hf⟩ := bd_some hf
          refine q_Vi C (rc := (RX5, TX5, 42)) (q0 := 0) (ci := 5) (ws' := wM G q x28.2) (wr := []) (c_X5_bad hx28) gX5_list_X5_bad rfl ⟨rfl, rfl⟩ hdX5_bad ⟨(Nat.le_of_ble_eq_true rfl), (Nat.le_of_ble_eq_true rfl)⟩ rfl hP (dd_M hD) hS rfl rfl (List.Perm.refl _) (List.Perm.refl _) hl.1 (Nat.le_of_ble_eq_true rfl) ⟨Nat.zero_le _, Nat.zero_le _⟩ rfl dX5_list_44 (fun H locs hP hS => ?_)
          obtain ⟨hb9, hf⟩ := gb_some hf
          cases hf
          exact q_zret C hP hS rfl (gb_nar hb9) dX5_list_47
      · have hf := if_f c23 hf
        refine lv_aload_n hx hb dX5_list_30 rfl (lv_at hl 0 rfl) ?_
        refine lv_iconst (v := 3) hx hb dX5_list_31 (by decide) ?_
        obtain ⟨x29, hx29, hf⟩ := bd_some hf
        refine q_Vi C (rc := (RX5, TX5, 42)) (q0 := 0) (ci := 5) (ws' := wM G q x29.2) (wr := []) (c_X5_bad hx29) gX5_list_X5_bad rfl ⟨rfl, rfl⟩ hdX5_bad ⟨(Nat.le_of_ble_eq_true rfl), (Nat.le_of_ble_eq_true rfl)⟩ rfl hP (dd_M hD) hS rfl rfl (List.Perm.refl _) (List.Perm.refl _) hl.1 (Nat.le_of_ble_eq_true rfl) ⟨Nat.zero_le _, Nat.zero_le _⟩ rfl dX5_list_32 (fun H locs hP hS => ?_)
        obtain ⟨hb9, hf⟩ := gb_some hf
        cases hf
        exact q_zret C hP hS rfl (gb_nar hb9) dX5_list_35
set_option maxHeartbeats 4000000 in
set_option maxRecDepth 100000 in
theorem c_X5_list {l : Launch} {G : Gx} {q : Nat → Nat} {st : OSt}  {x : Int32 × OSt} (hf : m_list st = some x) : QM l G yX5_list wsX5_list rmX5_list [.ref (q 42)] (wM G q st) (wM G q x.2) (some (.int x.1)) := by
  refine QM.of (cc := cX5_list) (maxL := 8) (ret := (some .boolean)) (by decide) rfl (Nat.le_of_ble_eq_true rfl) ?_
  intro p e s m below meth c A ls C hD hP hS hl
  have hx := C.1
  have hb := C.2.1
  have hl : lv_has ls 8 [(0, .ref (q 42))] := hl
  unfold m_list at hf
  refine lv_aload_n hx hb dX5_list_0 rfl (lv_at hl 0 rfl) ?_
  refine q_get C hP wM_o rfl hiX5_list_X5 5 (by decide) wdX5_list_1 rfl dX5_list_1 ?_
  refine lv_istore_n (lv' := [(1, .int (st.1 5)), (0, .ref (q 42))]) hx hb dX5_list_4 rfl hl (by decide) rfl (fun ls hl => ?_)
  refine lv_aload_n hx hb dX5_list_5 rfl (lv_at hl 1 rfl) ?_
  obtain ⟨x1, hx1, hf⟩ := bd_some hf
  refine q_Vv C (rc := (RX5, TX5, 42)) (q0 := 0) (ci := 5) (ws' := wM G q x1) (wr := []) (c_X5_go hx1) gX5_list_X5_go rfl ⟨rfl, rfl⟩ hdX5_go ⟨(Nat.le_of_ble_eq_true rfl), (Nat.le_of_ble_eq_true rfl)⟩ rfl hP (dd_M hD) hS rfl rfl (List.Perm.refl _) (List.Perm.refl _) hl.1 (Nat.le_of_ble_eq_true rfl) ⟨Nat.zero_le _, Nat.zero_le _⟩ rfl dX5_list_6 (fun H locs hP hS => ?_)
  refine lv_iconst (v := 0) hx hb dX5_list_9 (by decide) ?_
  refine lv_istore_n (lv' := [(2, .int 0), (1, .int (st.1 5)), (0, .ref (q 42))]) hx hb dX5_list_10 rfl hl (by decide) rfl (fun ls hl => ?_)
  refine lv_iconst (v := 1) hx hb dX5_list_11 (by decide) ?_
  refine lv_istore_n (lv' := [(3, .int 1), (2, .int 0), (1, .int (st.1 5)), (0, .ref (q 42))]) hx hb dX5_list_12 rfl hl (by decide) rfl (fun ls hl => ?_)
  exact t_X5_list_13 C hD hf hP hS (lv_sub hl [3, 2, 1, 0] rfl)

-- X5_memoryLine
theorem hiX5_memoryLine_X5 : ∀ w ∈ u_ws RX5 TX5 42, w ∈ wsX5_memoryLine := mem_run (i := 42) (by decide +kernel)
theorem wdX5_memoryLine_1 : (Cond.fieldLink RX5 118 "CombinatorRingModel" "token" "I") ∈ wsX5_memoryLine := List.mem_of_getElem? (i := 1) rfl
theorem wdX5_memoryLine_2 : (Cond.fieldLink RX5 112 "CombinatorRingModel" "value" "I") ∈ wsX5_memoryLine := List.mem_of_getElem? (i := 2) rfl
theorem wdX5_memoryLine_3 : (Cond.fieldLink RX5 7 "CombinatorRingModel" "now" "[I") ∈ wsX5_memoryLine := List.mem_of_getElem? (i := 3) rfl
def m_memoryLine (st : OSt)  : Option (Int32 × OSt) := bd (m_go st) fun x1 => if (x1.1 7) = 2 then bd (m_within (x1.1 8) 8 300) fun x3 => if x3 = 0 then bd (m_bad x1 3) fun x8 => gb x8.1 (some (x8.1, x8.2)) else nm (sA x1 1 (upd (x1.2 1) 0 (x1.1 8))) fun s5 => bd (m_go s5) fun x6 => bd (m_sign x6 59) fun x7 => gb x7.1 (some (x7.1, x7.2)) else bd (m_bad x1 1) fun x9 => gb x9.1 (some (x9.1, x9.2))
abbrev rmX5_memoryLine : Room := { frames := 3, cells := 0, slots := 0, locals := 64 }
theorem hdX5_memoryLine : yX5_memoryLine.cls = RX5 ∧ yX5_memoryLine.cls ≠ "java/lang/invoke/MethodHandle" ∧ yX5_memoryLine.cls ≠ "java/lang/invoke/VarHandle" ∧ (parseMethodDescriptor yX5_memoryLine.desc).map (fun d => d.parameters.length) = some 0 := by decide +kernel
set_option maxHeartbeats 4000000 in
set_option maxRecDepth 100000 in
theorem c_X5_memoryLine {l : Launch} {G : Gx} {q : Nat → Nat} {st : OSt}  {x : Int32 × OSt} (hf : m_memoryLine st = some x) : QM l G yX5_memoryLine wsX5_memoryLine rmX5_memoryLine [.ref (q 42)] (wM G q st) (wM G q x.2) (some (.int x.1)) := by
  refine QM.of (cc := cX5_memoryLine) (maxL := 1) (ret := (some .boolean)) (by decide) rfl (Nat.le_of_ble_eq_true rfl) ?_
  intro p e s m below meth c A ls C hD hP hS hl
  have hx := C.1
  have hb := C.2.1
  have hl : lv_has ls 1 [(0, .ref (q 42))] := hl
  unfold m_memoryLine at hf
  refine lv_aload_n hx hb dX5_memoryLine_0 rfl (lv_at hl 0 rfl) ?_
  obtain ⟨x1, hx1, hf⟩ := bd_some hf
  refine q_Vv C (rc := (RX5, TX5, 42)) (q0 := 0) (ci := 5) (ws' := wM G q x1) (wr := []) (c_X5_go hx1) gX5_memoryLine_X5_go rfl ⟨rfl, rfl⟩ hdX5_go ⟨(Nat.le_of_ble_eq_true rfl), (Nat.le_of_ble_eq_true rfl)⟩ rfl hP (dd_M hD) hS rfl rfl (List.Perm.refl _) (List.Perm.refl _) hl.1 (Nat.le_of_ble_eq_true rfl) ⟨Nat.zero_le _, Nat.zero_le _⟩ rfl dX5_memoryLine_1 (fun H locs hP hS => ?_)
  refine lv_aload_n hx hb dX5_memoryLine_4 rfl (lv_at hl 0 rfl) ?_
  refine q_get C hP wM_o rfl hiX5_memoryLine_X5 7 (by decide) wdX5_memoryLine_1 rfl dX5_memoryLine_5 ?_
  refine lv_iconst (v := 2) hx hb dX5_memoryLine_8 (by decide) ?_
  refine lv_icmp_eq (tgt := 18) hx hb dX5_memoryLine_9 (by decide) (fun c2 => ?_) (fun c2 => ?_)
  · have hf := if_t c2 hf
    refine lv_aload_n hx hb dX5_memoryLine_18 rfl (lv_at hl 0 rfl) ?_
    refine q_get C hP wM_o rfl hiX5_memoryLine_X5 8 (by decide) wdX5_memoryLine_2 rfl dX5_memoryLine_19 ?_
    refine lv_bipush (v := 8) hx hb dX5_memoryLine_22 (by decide) ?_
    refine lv_sipush (v := 300) hx hb dX5_memoryLine_24 (by decide) ?_
    obtain ⟨x3, hx3, hf⟩ := bd_some hf
    refine q_Si C (ws' := wM G q x1) (wr := []) (c_X5_within (w := wM G q x1) hx3) gX5_memoryLine_X5_within rfl ⟨rfl, rfl⟩ hdX5_within ⟨(Nat.le_of_ble_eq_true rfl), (Nat.le_of_ble_eq_true rfl)⟩ rfl hP (dd_M hD) hS (List.Perm.refl _) (List.Perm.refl _) hl.1 (Nat.le_of_ble_eq_true rfl) ⟨Nat.zero_le _, Nat.zero_le _⟩ rfl dX5_memoryLine_27 (fun H locs hP hS => ?_)
    refine lv_if_ne (tgt := 39) hx hb dX5_memoryLine_30 (by decide) (fun c4 => ?_) (fun c4 => ?_)
    · have hf := if_f c4 hf
      refine lv_aload_n hx hb dX5_memoryLine_39 rfl (lv_at hl 0 rfl) ?_
      refine q_get C hP wM_o rfl hiX5_memoryLine_X5 1 (by decide) wdX5_memoryLine_3 rfl dX5_memoryLine_40 ?_
      refine lv_iconst (v := 0) hx hb dX5_memoryLine_43 (by decide) ?_
      refine lv_aload_n hx hb dX5_memoryLine_44 rfl (lv_at hl 0 rfl) ?_
      refine q_get C hP wM_o rfl hiX5_memoryLine_X5 8 (by decide) wdX5_memoryLine_2 rfl dX5_memoryLine_45 ?_
      obtain ⟨s5, es5, hf⟩ := nm_ex hf
      refine q_iast C hP (dd_M hD) hS wM_a_1 (j := 0) (by decide) wM_sA_1 (vp_k (j := 0) (by decide) (by decide) (by decide)) dX5_memoryLine_48 (fun H locs hP hS => ?_)
      rw [es5] at hP
      refine lv_aload_n hx hb dX5_memoryLine_49 rfl (lv_at hl 0 rfl) ?_
      obtain ⟨x6, hx6, hf⟩ := bd_some hf
      refine q_Vv C (rc := (RX5, TX5, 42)) (q0 := 0) (ci := 5) (ws' := wM G q x6) (wr := []) (c_X5_go hx6) gX5_memoryLine_X5_go rfl ⟨rfl, rfl⟩ hdX5_go ⟨(Nat.le_of_ble_eq_true rfl), (Nat.le_of_ble_eq_true rfl)⟩ rfl hP (dd_M hD) hS rfl rfl (List.Perm.refl _) (List.Perm.refl _) hl.1 (Nat.le_of_ble_eq_true rfl) ⟨Nat.zero_le _, Nat.zero_le _⟩ rfl dX5_memoryLine_50 (fun H locs hP hS => ?_)
      refine lv_aload_n hx hb dX5_memoryLine_53 rfl (lv_at hl 0 rfl) ?_
      refine lv_bipush (v := 59) hx hb dX5_memoryLine_54 (by decide) ?_
      obtain ⟨x7, hx7, hf⟩ := bd_some hf
      refine q_Vi C (rc := (RX5, TX5, 42)) (q0 := 0) (ci := 5) (ws' := wM G q x7.2) (wr := []) (c_X5_sign hx7) gX5_memoryLine_X5_sign rfl ⟨rfl, rfl⟩ hdX5_sign ⟨(Nat.le_of_ble_eq_true rfl), (Nat.le_of_ble_eq_true rfl)⟩ rfl hP (dd_M hD) hS rfl rfl (List.Perm.refl _) (List.Perm.refl _) hl.1 (Nat.le_of_ble_eq_true rfl) ⟨Nat.zero_le _, Nat.zero_le _⟩ rfl dX5_memoryLine_56 (fun H locs hP hS => ?_)
      obtain ⟨hb9, hf⟩ := gb_some hf
      cases hf
      exact q_zret C hP hS rfl (gb_nar hb9) dX5_memoryLine_59
    · have hf := if_t c4 hf
      refine lv_aload_n hx hb dX5_memoryLine_33 rfl (lv_at hl 0 rfl) ?_
      refine lv_iconst (v := 3) hx hb dX5_memoryLine_34 (by decide) ?_
      obtain ⟨x8, hx8, hf⟩ := bd_some hf
      refine q_Vi C (rc := (RX5, TX5, 42)) (q0 := 0) (ci := 5) (ws' := wM G q x8.2) (wr := []) (c_X5_bad hx8) gX5_memoryLine_X5_bad rfl ⟨rfl, rfl⟩ hdX5_bad ⟨(Nat.le_of_ble_eq_true rfl), (Nat.le_of_ble_eq_true rfl)⟩ rfl hP (dd_M hD) hS rfl rfl (List.Perm.refl _) (List.Perm.refl _) hl.1 (Nat.le_of_ble_eq_true rfl) ⟨Nat.zero_le _, Nat.zero_le _⟩ rfl dX5_memoryLine_35 (fun H locs hP hS => ?_)
      obtain ⟨hb9, hf⟩ := gb_some hf
      cases hf
      exact q_zret C hP hS rfl (gb_nar hb9) dX5_memoryLine_38
  · have hf := if_f c2 hf
    refine lv_aload_n hx hb dX5_memoryLine_12 rfl (lv_at hl 0 rfl) ?_
    refine lv_iconst (v := 1) hx hb dX5_memoryLine_13 (by decide) ?_
    obtain ⟨x9, hx9, hf⟩ := bd_some hf
    refine q_Vi C (rc := (RX5, TX5, 42)) (q0 := 0) (ci := 5) (ws' := wM G q x9.2) (wr := []) (c_X5_bad hx9) gX5_memoryLine_X5_bad rfl ⟨rfl, rfl⟩ hdX5_bad ⟨(Nat.le_of_ble_eq_true rfl), (Nat.le_of_ble_eq_true rfl)⟩ rfl hP (dd_M hD) hS rfl rfl (List.Perm.refl _) (List.Perm.refl _) hl.1 (Nat.le_of_ble_eq_true rfl) ⟨Nat.zero_le _, Nat.zero_le _⟩ rfl dX5_memoryLine_14 (fun H locs hP hS => ?_)
    obtain ⟨hb9, hf⟩ := gb_some hf
    cases hf
    exact q_zret C hP hS rfl (gb_nar hb9) dX5_memoryLine_17

-- X5_rootsAll
theorem hiX5_rootsAll_X5 : ∀ w ∈ u_ws RX5 TX5 42, w ∈ wsX5_rootsAll := mem_run (i := 16) (by decide +kernel)
theorem wdX5_rootsAll_3 : (Cond.fieldLink RX5 7 "CombinatorRingModel" "now" "[I") ∈ wsX5_rootsAll := List.mem_of_getElem? (i := 3) rfl
theorem wdX5_rootsAll_1 : (Cond.fieldLink RX5 142 "CombinatorRingModel" "nameMany" "I") ∈ wsX5_rootsAll := List.mem_of_getElem? (i := 1) rfl
theorem wdX5_rootsAll_2 : (Cond.fieldLink RX5 24 "CombinatorRingModel" "stood" "[I") ∈ wsX5_rootsAll := List.mem_of_getElem? (i := 2) rfl
theorem wdX5_rootsAll_4 : (Cond.fieldLink RX5 27 "CombinatorRingModel" "wireLink" "[I") ∈ wsX5_rootsAll := List.mem_of_getElem? (i := 4) rfl
def m_rootsAll_4 : Nat → OSt → Int32 → Int32 → Option (Int32)
  | 0, _, _, _ => none
  | n + 1, st, v1, v2 => if (st.1 11) ≤ v2 then some v1 else gd v2 250 (if (st.2 13 v2.toNatClampNeg) = 1 then m_rootsAll_4 n st (v1 + 1) (v2 + 1) else m_rootsAll_4 n st (v1 + 0) (v2 + 1))
def m_rootsAll_53 : Nat → OSt → Int32 → Int32 → Int32 → Option (OSt)
  | 0, _, _, _, _ => none
  | n + 1, st, v1, v2, v3 => if (st.1 11) ≤ v3 then some st else gd v3 250 (if (st.2 13 v3.toNatClampNeg) = 1 then gd (14 + v2) 1646 (nm (sA st 1 (upd (st.2 1) (14 + v2).toNatClampNeg 1)) fun s10 => gd ((2 * v3) + 1) 500 (nm (sA s10 14 (upd (s10.2 14) ((2 * v3) + 1).toNatClampNeg (1000 + v2))) fun s11 => gd (1630 + v2) 1646 (nm (sA s11 1 (upd (s11.2 1) (1630 + v2).toNatClampNeg ((1100 + (2 * v3)) + 1))) fun s12 => m_rootsAll_53 n s12 v1 (v2 + 1) (v3 + 1)))) else m_rootsAll_53 n st v1 v2 (v3 + 1))
def m_rootsAll (st : OSt)  : Option (Int32 × OSt) := bd (m_rootsAll_4 20000 st 0 0) fun x1 => if x1 ≤ 16 then bd (m_rootsAll_53 20000 st x1 0 0) fun x3 => nm (sA x3 1 (upd (x3.2 1) 6 x1)) fun s4 => some (1, s4) else bd (m_bad st 6) fun x5 => gb x5.1 (some (x5.1, x5.2))
abbrev rmX5_rootsAll : Room := { frames := 2, cells := 0, slots := 0, locals := 43 }
theorem hdX5_rootsAll : yX5_rootsAll.cls = RX5 ∧ yX5_rootsAll.cls ≠ "java/lang/invoke/MethodHandle" ∧ yX5_rootsAll.cls ≠ "java/lang/invoke/VarHandle" ∧ (parseMethodDescriptor yX5_rootsAll.desc).map (fun d => d.parameters.length) = some 0 := by decide +kernel
set_option maxHeartbeats 4000000 in
set_option maxRecDepth 100000 in
theorem t_X5_rootsAll_4 {p : Program} {l : Launch} {e : Env} {s : State} {m : MethodId} {args : Array Value} {below : List Frame} {meth : Method} {c : Code} {Q : State → Prop} {A : Nat → Prop} {G : Gx} {q : Nat → Nat} {st0 : OSt} (C : Cx p s m args meth c G cX5_rootsAll wsX5_rootsAll RX5 (some .boolean) 4 A) (hD : va_D A (wM G q st0)) :
    ∀ {n : Nat} {st : OSt} {v1 : Int32} {v2 : Int32} {x : Int32}, m_rootsAll_4 n st v1 v2 = some x → ∀ {H : Heap} {locs : List Loc} {ls : Array Slot}, va_P G.1 vwCl (wM G q st) H → va_S A s.heap H locs → lv_has ls 4 [(0, .ref (q 42)), (1, .int v1), (2, .int v2)] → (∀ {H : Heap} {locs : List Loc} {ls : Array Slot}, va_P G.1 vwCl (wM G q st) H → va_S A s.heap H locs → lv_has ls 4 [(0, .ref (q 42)), (1, .int x)] → W p l e rmX5_rootsAll s m args below meth c H locs 0 0 Q (F0 m 36 ls [])) → W p l e rmX5_rootsAll s m args below meth c H locs 0 0 Q (F0 m 4 ls []) := by
  have hx := C.1
  have hb := C.2.1
  intro n
  induction n with
  | zero => intro st v1 v2 x hf; cases hf
  | succ n ih =>
    intro st v1 v2 x hf H locs ls hP hS hl kk
    rw [m_rootsAll_4] at hf
    refine lv_iload_n hx hb dX5_rootsAll_4 rfl (lv_at hl 2 rfl) ?_
    refine lv_aload_n hx hb dX5_rootsAll_5 rfl (lv_at hl 0 rfl) ?_
    refine q_get C hP wM_o rfl hiX5_rootsAll_X5 11 (by decide) wdX5_rootsAll_1 rfl dX5_rootsAll_6 ?_
    refine lv_icmp_ge (tgt := 36) hx hb dX5_rootsAll_9 (by decide) (fun c6 => ?_) (fun c6 => ?_)
    · have hf := if_t c6 hf
      cases hf
      exact kk hP hS (lv_sub hl [0, 1] rfl)
    · have hf := if_f c6 hf
      refine lv_iload_n hx hb dX5_rootsAll_12 rfl (lv_at hl 1 rfl) ?_
      refine lv_aload_n hx hb dX5_rootsAll_13 rfl (lv_at hl 0 rfl) ?_
      refine q_get C hP wM_o rfl hiX5_rootsAll_X5 13 (by decide) wdX5_rootsAll_2 rfl dX5_rootsAll_14 ?_
      refine lv_iload_n hx hb dX5_rootsAll_17 rfl (lv_at hl 2 rfl) ?_
      obtain ⟨hin, hf⟩ := gd_some hf
      refine q_iald C hP wM_a_13 rfl hin dX5_rootsAll_18 ?_
      refine lv_iconst (v := 1) hx hb dX5_rootsAll_19 (by decide) ?_
      refine lv_icmp_ne (tgt := 27) hx hb dX5_rootsAll_20 (by decide) (fun c7 => ?_) (fun c7 => ?_)
      · have hf := if_f c7 hf
        refine lv_iconst (v := 0) hx hb dX5_rootsAll_27 (by decide) ?_
        refine lv_iadd hx hb dX5_rootsAll_28 ?_
        refine lv_istore_n (lv' := [(1, .int (v1 + 0)), (0, .ref (q 42)), (2, .int v2)]) hx hb dX5_rootsAll_29 rfl hl (by decide) rfl (fun ls hl => ?_)
        refine lv_iinc (v := (v2 + 1)) (lv' := [(2, .int (v2 + 1)), (1, .int (v1 + 0)), (0, .ref (q 42))]) hx hb dX5_rootsAll_30 hl (k := 2) rfl rfl (by decide) rfl (fun ls hl => ?_)
        refine lv_goto (tgt := 4) hx hb dX5_rootsAll_33 (by decide) ?_
        exact ih hf hP hS (lv_sub hl [2, 1, 0] rfl) kk
      · have hf := if_t c7 hf
        refine lv_iconst (v := 1) hx hb dX5_rootsAll_23 (by decide) ?_
        refine lv_goto (tgt := 28) hx hb dX5_rootsAll_24 (by decide) ?_
        refine lv_iadd hx hb dX5_rootsAll_28 ?_
        refine lv_istore_n (lv' := [(1, .int (v1 + 1)), (0, .ref (q 42)), (2, .int v2)]) hx hb dX5_rootsAll_29 rfl hl (by decide) rfl (fun ls hl => ?_)
        refine lv_iinc (v := (v2 + 1)) (lv' := [(2, .int (v2 + 1)), (1, .int (v1 + 1)), (0, .ref (q 42))]) hx hb dX5_rootsAll_30 hl (k := 2) rfl rfl (by decide) rfl (fun ls hl => ?_)
        refine lv_goto (tgt := 4) hx hb dX5_rootsAll_33 (by decide) ?_
        exact ih hf hP hS (lv_sub hl [2, 1, 0] rfl) kk
set_option maxHeartbeats 4000000 in
set_option maxRecDepth 100000 in
theorem t_X5_rootsAll_53 {p : Program} {l : Launch} {e : Env} {s : State} {m : MethodId} {args : Array Value} {below : List Frame} {meth : Method} {c : Code} {Q : State → Prop} {A : Nat → Prop} {G : Gx} {q : Nat → Nat} {st0 : OSt} (C : Cx p s m args meth c G cX5_rootsAll wsX5_rootsAll RX5 (some .boolean) 4 A) (hD : va_D A (wM G q st0)) :
    ∀ {n : Nat} {st : OSt} {v1 : Int32} {v2 : Int32} {v3 : Int32} {x : OSt}, m_rootsAll_53 n st v1 v2 v3 = some x → ∀ {H : Heap} {locs : List Loc} {ls : Array Slot}, va_P G.1 vwCl (wM G q st) H → va_S A s.heap H locs → lv_has ls 4 [(0, .ref (q 42)), (1, .int v1), (2, .int v2), (3, .int v3)] → (∀ {H : Heap} {locs : List Loc} {ls : Array Slot}, va_P G.1 vwCl (wM G q x) H → va_S A s.heap H locs → lv_has ls 4 [(0, .ref (q 42)), (1, .int v1)] → W p l e rmX5_rootsAll s m args below meth c H locs 0 0 Q (F0 m 124 ls [])) → W p l e rmX5_rootsAll s m args below meth c H locs 0 0 Q (F0 m 53 ls []) := by
  have hx := C.1
  have hb := C.2.1
  intro n
  induction n with
  | zero => intro st v1 v2 v3 x hf; cases hf
  | succ n ih =>
    intro st v1 v2 v3 x hf H locs ls hP hS hl kk
    rw [m_rootsAll_53] at hf
    refine lv_iload_n hx hb dX5_rootsAll_53 rfl (lv_at hl 3 rfl) ?_
    refine lv_aload_n hx hb dX5_rootsAll_54 rfl (lv_at hl 0 rfl) ?_
    refine q_get C hP wM_o rfl hiX5_rootsAll_X5 11 (by decide) wdX5_rootsAll_1 rfl dX5_rootsAll_55 ?_
    refine lv_icmp_ge (tgt := 124) hx hb dX5_rootsAll_58 (by decide) (fun c8 => ?_) (fun c8 => ?_)
    · have hf := if_t c8 hf
      cases hf
      exact kk hP hS (lv_sub hl [0, 1] rfl)
    · have hf := if_f c8 hf
      refine lv_aload_n hx hb dX5_rootsAll_61 rfl (lv_at hl 0 rfl) ?_
      refine q_get C hP wM_o rfl hiX5_rootsAll_X5 13 (by decide) wdX5_rootsAll_2 rfl dX5_rootsAll_62 ?_
      refine lv_iload_n hx hb dX5_rootsAll_65 rfl (lv_at hl 3 rfl) ?_
      obtain ⟨hin, hf⟩ := gd_some hf
      refine q_iald C hP wM_a_13 rfl hin dX5_rootsAll_66 ?_
      refine lv_iconst (v := 1) hx hb dX5_rootsAll_67 (by decide) ?_
      refine lv_icmp_ne (tgt := 118) hx hb dX5_rootsAll_68 (by decide) (fun c9 => ?_) (fun c9 => ?_)
      · have hf := if_f c9 hf
        refine lv_iinc (v := (v3 + 1)) (lv' := [(3, .int (v3 + 1)), (0, .ref (q 42)), (1, .int v1), (2, .int v2)]) hx hb dX5_rootsAll_118 hl (k := 3) rfl rfl (by decide) rfl (fun ls hl => ?_)
        refine lv_goto (tgt := 53) hx hb dX5_rootsAll_121 (by decide) ?_
        exact ih hf hP hS (lv_sub hl [1, 2, 3, 0] rfl) kk
      · have hf := if_t c9 hf
        refine lv_aload_n hx hb dX5_rootsAll_71 rfl (lv_at hl 0 rfl) ?_
        refine q_get C hP wM_o rfl hiX5_rootsAll_X5 1 (by decide) wdX5_rootsAll_3 rfl dX5_rootsAll_72 ?_
        refine lv_bipush (v := 14) hx hb dX5_rootsAll_75 (by decide) ?_
        refine lv_iload_n hx hb dX5_rootsAll_77 rfl (lv_at hl 2 rfl) ?_
        refine lv_iadd hx hb dX5_rootsAll_78 ?_
        refine lv_iconst (v := 1) hx hb dX5_rootsAll_79 (by decide) ?_
        obtain ⟨hin, hf⟩ := gd_some hf
        obtain ⟨s10, es10, hf⟩ := nm_ex hf
        refine q_iast C hP (dd_M hD) hS wM_a_1 rfl wM_sA_1 hin dX5_rootsAll_80 (fun H locs hP hS => ?_)
        rw [es10] at hP
        refine lv_aload_n hx hb dX5_rootsAll_81 rfl (lv_at hl 0 rfl) ?_
        refine q_get C hP wM_o rfl hiX5_rootsAll_X5 14 (by decide) wdX5_rootsAll_4 rfl dX5_rootsAll_82 ?_
        refine lv_iconst (v := 2) hx hb dX5_rootsAll_85 (by decide) ?_
        refine lv_iload_n hx hb dX5_rootsAll_86 rfl (lv_at hl 3 rfl) ?_
        refine lv_imul hx hb dX5_rootsAll_87 ?_
        refine lv_iconst (v := 1) hx hb dX5_rootsAll_88 (by decide) ?_
        refine lv_iadd hx hb dX5_rootsAll_89 ?_
        refine lv_sipush (v := 1000) hx hb dX5_rootsAll_90 (by decide) ?_
        refine lv_iload_n hx hb dX5_rootsAll_93 rfl (lv_at hl 2 rfl) ?_
        refine lv_iadd hx hb dX5_rootsAll_94 ?_
        obtain ⟨hin, hf⟩ := gd_some hf
        obtain ⟨s11, es11, hf⟩ := nm_ex hf
        refine q_iast C hP (dd_M hD) hS wM_a_14 rfl wM_sA_14 hin dX5_rootsAll_95 (fun H locs hP hS => ?_)
        rw [es11] at hP
        refine lv_aload_n hx hb dX5_rootsAll_96 rfl (lv_at hl 0 rfl) ?_
        refine q_get C hP wM_o rfl hiX5_rootsAll_X5 1 (by decide) wdX5_rootsAll_3 rfl dX5_rootsAll_97 ?_
        refine lv_sipush (v := 1630) hx hb dX5_rootsAll_100 (by decide) ?_
        refine lv_iload_n hx hb dX5_rootsAll_103 rfl (lv_at hl 2 rfl) ?_
        refine lv_iadd hx hb dX5_rootsAll_104 ?_
        refine lv_sipush (v := 1100) hx hb dX5_rootsAll_105 (by decide) ?_
        refine lv_iconst (v := 2) hx hb dX5_rootsAll_108 (by decide) ?_
        refine lv_iload_n hx hb dX5_rootsAll_109 rfl (lv_at hl 3 rfl) ?_
        refine lv_imul hx hb dX5_rootsAll_110 ?_
        refine lv_iadd hx hb dX5_rootsAll_111 ?_
        refine lv_iconst (v := 1) hx hb dX5_rootsAll_112 (by decide) ?_
        refine lv_iadd hx hb dX5_rootsAll_113 ?_
        obtain ⟨hin, hf⟩ := gd_some hf
        obtain ⟨s12, es12, hf⟩ := nm_ex hf
        refine q_iast C hP (dd_M hD) hS wM_a_1 rfl wM_sA_1 hin dX5_rootsAll_114 (fun H locs hP hS => ?_)
        rw [es12] at hP
        refine lv_iinc (v := (v2 + 1)) (lv' := [(2, .int (v2 + 1)), (0, .ref (q 42)), (1, .int v1), (3, .int v3)]) hx hb dX5_rootsAll_115 hl (k := 2) rfl rfl (by decide) rfl (fun ls hl => ?_)
        refine lv_iinc (v := (v3 + 1)) (lv' := [(3, .int (v3 + 1)), (2, .int (v2 + 1)), (0, .ref (q 42)), (1, .int v1)]) hx hb dX5_rootsAll_118 hl (k := 3) rfl rfl (by decide) rfl (fun ls hl => ?_)
        refine lv_goto (tgt := 53) hx hb dX5_rootsAll_121 (by decide) ?_
        exact ih hf hP hS (lv_sub hl [2, 3, 1, 0] rfl) kk
set_option maxHeartbeats 4000000 in
set_option maxRecDepth 100000 in
theorem c_X5_rootsAll {l : Launch} {G : Gx} {q : Nat → Nat} {st : OSt}  {x : Int32 × OSt} (hf : m_rootsAll st = some x) : QM l G yX5_rootsAll wsX5_rootsAll rmX5_rootsAll [.ref (q 42)] (wM G q st) (wM G q x.2) (some (.int x.1)) := by
  refine QM.of (cc := cX5_rootsAll) (maxL := 4) (ret := (some .boolean)) (by decide) rfl (Nat.le_of_ble_eq_true rfl) ?_
  intro p e s m below meth c A ls C hD hP hS hl
  have hx := C.1
  have hb := C.2.1
  have hl : lv_has ls 4 [(0, .ref (q 42))] := hl
  unfold m_rootsAll at hf
  refine lv_iconst (v := 0) hx hb dX5_rootsAll_0 (by decide) ?_
  refine lv_istore_n (lv' := [(1, .int 0), (0, .ref (q 42))]) hx hb dX5_rootsAll_1 rfl hl (by decide) rfl (fun ls hl => ?_)
  refine lv_iconst (v := 0) hx hb dX5_rootsAll_2 (by decide) ?_
  refine lv_istore_n (lv' := [(2, .int 0), (1, .int 0), (0, .ref (q 42))]) hx hb dX5_rootsAll_3 rfl hl (by decide) rfl (fun ls hl => ?_)
  obtain ⟨x1, hx1, hf⟩ := bd_some hf
  refine t_X5_rootsAll_4 C hD hx1 hP hS (lv_sub hl [2, 1, 0] rfl) (fun {H locs ls} hP hS hl => ?_)
  refine lv_iload_n hx hb dX5_rootsAll_36 rfl (lv_at hl 1 rfl) ?_
  refine lv_bipush (v := 16) hx hb dX5_rootsAll_37 (by decide) ?_
  refine lv_icmp_le (tgt := 49) hx hb dX5_rootsAll_39 (by decide) (fun c2 => ?_) (fun c2 => ?_)
  · have hf := if_t c2 hf
    refine lv_iconst (v := 0) hx hb dX5_rootsAll_49 (by decide) ?_
    refine lv_istore_n (lv' := [(2, .int 0), (0, .ref (q 42)), (1, .int x1)]) hx hb dX5_rootsAll_50 rfl hl (by decide) rfl (fun ls hl => ?_)
    refine lv_iconst (v := 0) hx hb dX5_rootsAll_51 (by decide) ?_
    refine lv_istore_n (lv' := [(3, .int 0), (2, .int 0), (0, .ref (q 42)), (1, .int x1)]) hx hb dX5_rootsAll_52 rfl hl (by decide) rfl (fun ls hl => ?_)
    obtain ⟨x3, hx3, hf⟩ := bd_some hf
    refine t_X5_rootsAll_53 C hD hx3 hP hS (lv_sub hl [2, 3, 1, 0] rfl) (fun {H locs ls} hP hS hl => ?_)
    refine lv_aload_n hx hb dX5_rootsAll_124 rfl (lv_at hl 0 rfl) ?_
    refine q_get C hP wM_o rfl hiX5_rootsAll_X5 1 (by decide) wdX5_rootsAll_3 rfl dX5_rootsAll_125 ?_
    refine lv_bipush (v := 6) hx hb dX5_rootsAll_128 (by decide) ?_
    refine lv_iload_n hx hb dX5_rootsAll_130 rfl (lv_at hl 1 rfl) ?_
    obtain ⟨s4, es4, hf⟩ := nm_ex hf
    refine q_iast C hP (dd_M hD) hS wM_a_1 (j := 6) (by decide) wM_sA_1 (vp_k (j := 6) (by decide) (by decide) (by decide)) dX5_rootsAll_131 (fun H locs hP hS => ?_)
    rw [es4] at hP
    refine lv_iconst (v := 1) hx hb dX5_rootsAll_132 (by decide) ?_
    cases hf
    exact q_zret C hP hS rfl (gb_nar (Or.inr rfl)) dX5_rootsAll_133
  · have hf := if_f c2 hf
    refine lv_aload_n hx hb dX5_rootsAll_42 rfl (lv_at hl 0 rfl) ?_
    refine lv_bipush (v := 6) hx hb dX5_rootsAll_43 (by decide) ?_
    obtain ⟨x5, hx5, hf⟩ := bd_some hf
    refine q_Vi C (rc := (RX5, TX5, 42)) (q0 := 0) (ci := 5) (ws' := wM G q x5.2) (wr := []) (c_X5_bad hx5) gX5_rootsAll_X5_bad rfl ⟨rfl, rfl⟩ hdX5_bad ⟨(Nat.le_of_ble_eq_true rfl), (Nat.le_of_ble_eq_true rfl)⟩ rfl hP (dd_M hD) hS rfl rfl (List.Perm.refl _) (List.Perm.refl _) hl.1 (Nat.le_of_ble_eq_true rfl) ⟨Nat.zero_le _, Nat.zero_le _⟩ rfl dX5_rootsAll_45 (fun H locs hP hS => ?_)
    obtain ⟨hb9, hf⟩ := gb_some hf
    cases hf
    exact q_zret C hP hS rfl (gb_nar hb9) dX5_rootsAll_48

-- X5_beyond
theorem hiX5_beyond_X5 : ∀ w ∈ u_ws RX5 TX5 42, w ∈ wsX5_beyond := mem_run (i := 3) (by decide +kernel)
theorem wdX5_beyond_1 : (Cond.fieldLink RX5 33 "CombinatorRingModel" "wireSeen" "[Z") ∈ wsX5_beyond := List.mem_of_getElem? (i := 1) rfl
theorem wdX5_beyond_2 : (Cond.fieldLink RX5 27 "CombinatorRingModel" "wireLink" "[I") ∈ wsX5_beyond := List.mem_of_getElem? (i := 2) rfl
def m_beyond_2 : Nat → OSt → Int32 → Option (OSt × Int32)
  | 0, _, _ => none
  | n + 1, st, v2 => if v2 < 1100 then some (st, v2) else if ((v2 - 1100) - (v2 - 1100) / 2 * 2) = 0 then gd (v2 - 1100) 500 (nm (sA st 18 (upd (st.2 18) (v2 - 1100).toNatClampNeg (vp_nar .boolean (1)))) fun s7 => gd ((v2 - 1100) + 1) 500 (nm (sA s7 18 (upd (s7.2 18) ((v2 - 1100) + 1).toNatClampNeg (vp_nar .boolean (1)))) fun s8 => gd ((v2 - 1100) + 1) 500 (nm ((s8.2 14 ((v2 - 1100) + 1).toNatClampNeg)) fun y9 => m_beyond_2 n s8 y9))) else gd (v2 - 1100) 500 (nm (sA st 18 (upd (st.2 18) (v2 - 1100).toNatClampNeg (vp_nar .boolean (1)))) fun s4 => gd ((v2 - 1100) - 1) 500 (nm (sA s4 18 (upd (s4.2 18) ((v2 - 1100) - 1).toNatClampNeg (vp_nar .boolean (1)))) fun s5 => gd ((v2 - 1100) - 1) 500 (nm ((s5.2 14 ((v2 - 1100) - 1).toNatClampNeg)) fun y6 => m_beyond_2 n s5 y6)))
def m_beyond (st : OSt) (a1 : Int32) : Option (Int32 × OSt) := bd (m_beyond_2 20000 st a1) fun x1 => some (x1.2, x1.1)
abbrev rmX5_beyond : Room := { frames := 0, cells := 0, slots := 0, locals := 0 }
theorem hdX5_beyond : yX5_beyond.cls = RX5 ∧ yX5_beyond.cls ≠ "java/lang/invoke/MethodHandle" ∧ yX5_beyond.cls ≠ "java/lang/invoke/VarHandle" ∧ (parseMethodDescriptor yX5_beyond.desc).map (fun d => d.parameters.length) = some 1 := by decide +kernel
set_option maxHeartbeats 4000000 in
set_option maxRecDepth 100000 in
theorem t_X5_beyond_2 {p : Program} {l : Launch} {e : Env} {s : State} {m : MethodId} {args : Array Value} {below : List Frame} {meth : Method} {c : Code} {Q : State → Prop} {A : Nat → Prop} {G : Gx} {q : Nat → Nat} {st0 : OSt} (C : Cx p s m args meth c G cX5_beyond wsX5_beyond RX5 (some .int) 5 A) (hD : va_D A (wM G q st0)) :
    ∀ {n : Nat} {st : OSt} {v2 : Int32} {x : OSt × Int32}, m_beyond_2 n st v2 = some x → ∀ {H : Heap} {locs : List Loc} {ls : Array Slot}, va_P G.1 vwCl (wM G q st) H → va_S A s.heap H locs → lv_has ls 5 [(0, .ref (q 42)), (2, .int v2)] → (∀ {H : Heap} {locs : List Loc} {ls : Array Slot}, va_P G.1 vwCl (wM G q x.1) H → va_S A s.heap H locs → lv_has ls 5 [(2, .int x.2)] → W p l e rmX5_beyond s m args below meth c H locs 0 0 Q (F0 m 58 ls [])) → W p l e rmX5_beyond s m args below meth c H locs 0 0 Q (F0 m 2 ls []) := by
  have hx := C.1
  have hb := C.2.1
  intro n
  induction n with
  | zero => intro st v2 x hf; cases hf
  | succ n ih =>
    intro st v2 x hf H locs ls hP hS hl kk
    rw [m_beyond_2] at hf
    refine lv_iload_n hx hb dX5_beyond_2 rfl (lv_at hl 1 rfl) ?_
    refine lv_sipush (v := 1100) hx hb dX5_beyond_3 (by decide) ?_
    refine lv_icmp_lt (tgt := 58) hx hb dX5_beyond_6 (by decide) (fun c2 => ?_) (fun c2 => ?_)
    · have hf := if_t c2 hf
      cases hf
      exact kk hP hS (lv_sub hl [1] rfl)
    · have hf := if_f c2 hf
      refine lv_iload_n hx hb dX5_beyond_9 rfl (lv_at hl 1 rfl) ?_
      refine lv_sipush (v := 1100) hx hb dX5_beyond_10 (by decide) ?_
      refine lv_isub hx hb dX5_beyond_13 ?_
      refine lv_istore_n (lv' := [(3, .int (v2 - 1100)), (0, .ref (q 42)), (2, .int v2)]) hx hb dX5_beyond_14 rfl hl (by decide) rfl (fun ls hl => ?_)
      refine lv_iload_n hx hb dX5_beyond_15 rfl (lv_at hl 0 rfl) ?_
      refine lv_iconst (v := 2) hx hb dX5_beyond_16 (by decide) ?_
      refine lv_irem hx hb dX5_beyond_17 (by decide) ?_
      refine lv_if_ne (tgt := 27) hx hb dX5_beyond_18 (by decide) (fun c3 => ?_) (fun c3 => ?_)
      · have hf := if_f c3 hf
        refine lv_iload_n hx hb dX5_beyond_27 rfl (lv_at hl 0 rfl) ?_
        refine lv_iconst (v := 1) hx hb dX5_beyond_28 (by decide) ?_
        refine lv_isub hx hb dX5_beyond_29 ?_
        refine lv_istore (lv' := [(4, .int ((v2 - 1100) - 1)), (3, .int (v2 - 1100)), (0, .ref (q 42)), (2, .int v2)]) hx hb dX5_beyond_30 hl (by decide) rfl (fun ls hl => ?_)
        refine lv_aload_n hx hb dX5_beyond_32 rfl (lv_at hl 2 rfl) ?_
        refine q_get C hP wM_o rfl hiX5_beyond_X5 18 (by decide) wdX5_beyond_1 rfl dX5_beyond_33 ?_
        refine lv_iload_n hx hb dX5_beyond_36 rfl (lv_at hl 1 rfl) ?_
        refine lv_iconst (v := 1) hx hb dX5_beyond_37 (by decide) ?_
        obtain ⟨hin, hf⟩ := gd_some hf
        obtain ⟨s4, es4, hf⟩ := nm_ex hf
        refine q_zast C hP (dd_M hD) hS wM_a_18 rfl wM_sA_18 hin dX5_beyond_38 (fun H locs hP hS => ?_)
        rw [es4] at hP
        refine lv_aload_n hx hb dX5_beyond_39 rfl (lv_at hl 2 rfl) ?_
        refine q_get C hP wM_o rfl hiX5_beyond_X5 18 (by decide) wdX5_beyond_1 rfl dX5_beyond_40 ?_
        refine lv_iload hx hb dX5_beyond_43 (lv_at hl 0 rfl) ?_
        refine lv_iconst (v := 1) hx hb dX5_beyond_45 (by decide) ?_
        obtain ⟨hin, hf⟩ := gd_some hf
        obtain ⟨s5, es5, hf⟩ := nm_ex hf
        refine q_zast C hP (dd_M hD) hS wM_a_18 rfl wM_sA_18 hin dX5_beyond_46 (fun H locs hP hS => ?_)
        rw [es5] at hP
        refine lv_aload_n hx hb dX5_beyond_47 rfl (lv_at hl 2 rfl) ?_
        refine q_get C hP wM_o rfl hiX5_beyond_X5 14 (by decide) wdX5_beyond_2 rfl dX5_beyond_48 ?_
        refine lv_iload hx hb dX5_beyond_51 (lv_at hl 0 rfl) ?_
        obtain ⟨hin, hf⟩ := gd_some hf
        refine q_iald C hP wM_a_14 rfl hin dX5_beyond_53 ?_
        obtain ⟨y6, ey6, hf⟩ := nm_ex hf
        refine lv_tI ey6 ?_
        refine lv_istore_n (lv' := [(2, .int y6), (4, .int ((v2 - 1100) - 1)), (3, .int (v2 - 1100)), (0, .ref (q 42))]) hx hb dX5_beyond_54 rfl hl (by decide) rfl (fun ls hl => ?_)
        refine lv_goto (tgt := 2) hx hb dX5_beyond_55 (by decide) ?_
        exact ih hf hP hS (lv_sub hl [3, 0] rfl) kk
      · have hf := if_t c3 hf
        refine lv_iload_n hx hb dX5_beyond_21 rfl (lv_at hl 0 rfl) ?_
        refine lv_iconst (v := 1) hx hb dX5_beyond_22 (by decide) ?_
        refine lv_iadd hx hb dX5_beyond_23 ?_
        refine lv_goto (tgt := 30) hx hb dX5_beyond_24 (by decide) ?_
        refine lv_istore (lv' := [(4, .int ((v2 - 1100) + 1)), (3, .int (v2 - 1100)), (0, .ref (q 42)), (2, .int v2)]) hx hb dX5_beyond_30 hl (by decide) rfl (fun ls hl => ?_)
        refine lv_aload_n hx hb dX5_beyond_32 rfl (lv_at hl 2 rfl) ?_
        refine q_get C hP wM_o rfl hiX5_beyond_X5 18 (by decide) wdX5_beyond_1 rfl dX5_beyond_33 ?_
        refine lv_iload_n hx hb dX5_beyond_36 rfl (lv_at hl 1 rfl) ?_
        refine lv_iconst (v := 1) hx hb dX5_beyond_37 (by decide) ?_
        obtain ⟨hin, hf⟩ := gd_some hf
        obtain ⟨s7, es7, hf⟩ := nm_ex hf
        refine q_zast C hP (dd_M hD) hS wM_a_18 rfl wM_sA_18 hin dX5_beyond_38 (fun H locs hP hS => ?_)
        rw [es7] at hP
        refine lv_aload_n hx hb dX5_beyond_39 rfl (lv_at hl 2 rfl) ?_
        refine q_get C hP wM_o rfl hiX5_beyond_X5 18 (by decide) wdX5_beyond_1 rfl dX5_beyond_40 ?_
        refine lv_iload hx hb dX5_beyond_43 (lv_at hl 0 rfl) ?_
        refine lv_iconst (v := 1) hx hb dX5_beyond_45 (by decide) ?_
        obtain ⟨hin, hf⟩ := gd_some hf
        obtain ⟨s8, es8, hf⟩ := nm_ex hf
        refine q_zast C hP (dd_M hD) hS wM_a_18 rfl wM_sA_18 hin dX5_beyond_46 (fun H locs hP hS => ?_)
        rw [es8] at hP
        refine lv_aload_n hx hb dX5_beyond_47 rfl (lv_at hl 2 rfl) ?_
        refine q_get C hP wM_o rfl hiX5_beyond_X5 14 (by decide) wdX5_beyond_2 rfl dX5_beyond_48 ?_
        refine lv_iload hx hb dX5_beyond_51 (lv_at hl 0 rfl) ?_
        obtain ⟨hin, hf⟩ := gd_some hf
        refine q_iald C hP wM_a_14 rfl hin dX5_beyond_53 ?_
        obtain ⟨y9, ey9, hf⟩ := nm_ex hf
        refine lv_tI ey9 ?_
        refine lv_istore_n (lv' := [(2, .int y9), (4, .int ((v2 - 1100) + 1)), (3, .int (v2 - 1100)), (0, .ref (q 42))]) hx hb dX5_beyond_54 rfl hl (by decide) rfl (fun ls hl => ?_)
        refine lv_goto (tgt := 2) hx hb dX5_beyond_55 (by decide) ?_
        exact ih hf hP hS (lv_sub hl [3, 0] rfl) kk
set_option maxHeartbeats 4000000 in
set_option maxRecDepth 100000 in
theorem c_X5_beyond {l : Launch} {G : Gx} {q : Nat → Nat} {st : OSt} {a1 : Int32} {x : Int32 × OSt} (hf : m_beyond st a1 = some x) : QM l G yX5_beyond wsX5_beyond rmX5_beyond [.ref (q 42), .int a1] (wM G q st) (wM G q x.2) (some (.int x.1)) := by
  refine QM.of (cc := cX5_beyond) (maxL := 5) (ret := (some .int)) (by decide) rfl (Nat.le_of_ble_eq_true rfl) ?_
  intro p e s m below meth c A ls C hD hP hS hl
  have hx := C.1
  have hb := C.2.1
  have hl : lv_has ls 5 [(0, .ref (q 42)), (1, .int a1)] := hl
  unfold m_beyond at hf
  refine lv_iload_n hx hb dX5_beyond_0 rfl (lv_at hl 1 rfl) ?_
  refine lv_istore_n (lv' := [(2, .int a1), (0, .ref (q 42)), (1, .int a1)]) hx hb dX5_beyond_1 rfl hl (by decide) rfl (fun ls hl => ?_)
  obtain ⟨x1, hx1, hf⟩ := bd_some hf
  refine t_X5_beyond_2 C hD hx1 hP hS (lv_sub hl [1, 0] rfl) (fun {H locs ls} hP hS hl => ?_)
  refine lv_iload_n hx hb dX5_beyond_58 rfl (lv_at hl 0 rfl) ?_
  cases hf
  exact q_iret C hP hS rfl dX5_beyond_59

-- X5_joinsWires
theorem hiX5_joinsWires_X5 : ∀ w ∈ u_ws RX5 TX5 42, w ∈ wsX5_joinsWires := mem_run (i := 14) (by decide +kernel)
theorem wdX5_joinsWires_1 : (Cond.fieldLink RX5 33 "CombinatorRingModel" "wireSeen" "[Z") ∈ wsX5_joinsWires := List.mem_of_getElem? (i := 1) rfl
theorem wdX5_joinsWires_2 : (Cond.fieldLink RX5 7 "CombinatorRingModel" "now" "[I") ∈ wsX5_joinsWires := List.mem_of_getElem? (i := 2) rfl
theorem wdX5_joinsWires_3 : (Cond.fieldLink RX5 142 "CombinatorRingModel" "nameMany" "I") ∈ wsX5_joinsWires := List.mem_of_getElem? (i := 3) rfl
theorem wdX5_joinsWires_4 : (Cond.fieldLink RX5 27 "CombinatorRingModel" "wireLink" "[I") ∈ wsX5_joinsWires := List.mem_of_getElem? (i := 4) rfl
def m_joinsWires_2 : Nat → OSt → Int32 → Option (OSt)
  | 0, _, _ => none
  | n + 1, st, v1 => if 500 ≤ v1 then some st else gd v1 500 (nm (sA st 18 (upd (st.2 18) v1.toNatClampNeg (vp_nar .boolean (0)))) fun s5 => m_joinsWires_2 n s5 (v1 + 1))
def m_joinsWires_24 : Nat → OSt → Int32 → Option (OSt)
  | 0, _, _ => none
  | n + 1, st, v1 => if 1016 ≤ v1 then some st else if 900 ≤ v1 then if v1 < 1000 then m_joinsWires_24 n st (v1 + 1) else gd ((14 + v1) - 1000) 1646 (if (st.2 1 ((14 + v1) - 1000).toNatClampNeg) = 1 then gd (630 + v1) 1646 (if (st.2 1 (630 + v1).toNatClampNeg) < 1100 then m_joinsWires_24 n st (v1 + 1) else gd (630 + v1) 1646 (bd (m_beyond st (st.2 1 (630 + v1).toNatClampNeg)) fun x11 => bd (m_links x11.2 v1 x11.1) fun x12 => m_joinsWires_24 n x12 (v1 + 1))) else m_joinsWires_24 n st (v1 + 1)) else gd (30 + (v1 / 3)) 1646 (if (st.2 1 (30 + (v1 / 3)).toNatClampNeg) ≤ 0 then m_joinsWires_24 n st (v1 + 1) else if (v1 - v1 / 3 * 3) = 0 then gd (630 + v1) 1646 (if (st.2 1 (630 + v1).toNatClampNeg) < 1100 then m_joinsWires_24 n st (v1 + 1) else gd (630 + v1) 1646 (bd (m_beyond st (st.2 1 (630 + v1).toNatClampNeg)) fun x16 => bd (m_links x16.2 v1 x16.1) fun x17 => m_joinsWires_24 n x17 (v1 + 1))) else gd (30 + (v1 / 3)) 1646 (if (st.2 1 (30 + (v1 / 3)).toNatClampNeg) ≤ 1 then m_joinsWires_24 n st (v1 + 1) else gd (630 + v1) 1646 (if (st.2 1 (630 + v1).toNatClampNeg) < 1100 then m_joinsWires_24 n st (v1 + 1) else gd (630 + v1) 1646 (bd (m_beyond st (st.2 1 (630 + v1).toNatClampNeg)) fun x20 => bd (m_links x20.2 v1 x20.1) fun x21 => m_joinsWires_24 n x21 (v1 + 1)))))
def m_joinsWires_192 : Nat → OSt → Int32 → Int32 → Option (OSt)
  | 0, _, _, _ => none
  | n + 1, st, v1, v2 => gd v2 500 (if (st.2 18 v2.toNatClampNeg) = 0 then if (v2 - v2 / 2 * 2) = 0 then gd v2 500 (nm (sA st 18 (upd (st.2 18) v2.toNatClampNeg (vp_nar .boolean (1)))) fun s31 => gd (v2 + 1) 500 (nm (sA s31 18 (upd (s31.2 18) (v2 + 1).toNatClampNeg (vp_nar .boolean (1)))) fun s32 => gd (v2 + 1) 500 (nm (((s32.2 14 (v2 + 1).toNatClampNeg) - 1100)) fun y33 => m_joinsWires_192 n s32 v1 y33))) else gd v2 500 (nm (sA st 18 (upd (st.2 18) v2.toNatClampNeg (vp_nar .boolean (1)))) fun s28 => gd (v2 - 1) 500 (nm (sA s28 18 (upd (s28.2 18) (v2 - 1).toNatClampNeg (vp_nar .boolean (1)))) fun s29 => gd (v2 - 1) 500 (nm (((s29.2 14 (v2 - 1).toNatClampNeg) - 1100)) fun y30 => m_joinsWires_192 n s29 v1 y30))) else some st)
def m_joinsWires_160 : Nat → OSt → Int32 → Option (OSt)
  | 0, _, _ => none
  | n + 1, st, v1 => if (2 * (st.1 11)) ≤ v1 then some st else gd v1 500 (if (st.2 18 v1.toNatClampNeg) = 0 then nm (sA st 1 (upd (st.2 1) 7 ((st.2 1 7) + 1))) fun s24 => bd (m_joinsWires_192 20000 s24 v1 v1) fun x25 => m_joinsWires_160 n x25 (v1 + 2) else m_joinsWires_160 n st (v1 + 2))
def m_joinsWires (st : OSt)  : Option (OSt) := bd (m_joinsWires_2 20000 st 0) fun x1 => bd (m_joinsWires_24 20000 x1 0) fun x2 => bd (m_joinsWires_160 20000 x2 0) fun x3 => some x3
abbrev rmX5_joinsWires : Room := { frames := 1, cells := 0, slots := 0, locals := 24 }
theorem hdX5_joinsWires : yX5_joinsWires.cls = RX5 ∧ yX5_joinsWires.cls ≠ "java/lang/invoke/MethodHandle" ∧ yX5_joinsWires.cls ≠ "java/lang/invoke/VarHandle" ∧ (parseMethodDescriptor yX5_joinsWires.desc).map (fun d => d.parameters.length) = some 0 := by decide +kernel
set_option maxHeartbeats 4000000 in
set_option maxRecDepth 100000 in
theorem t_X5_joinsWires_2 {p : Program} {l : Launch} {e : Env} {s : State} {m : MethodId} {args : Array Value} {below : List Frame} {meth : Method} {c : Code} {Q : State → Prop} {A : Nat → Prop} {G : Gx} {q : Nat → Nat} {st0 : OSt} (C : Cx p s m args meth c G cX5_joinsWires wsX5_joinsWires RX5 none 4 A) (hD : va_D A (wM G q st0)) :
    ∀ {n : Nat} {st : OSt} {v1 : Int32} {x : OSt}, m_joinsWires_2 n st v1 = some x → ∀ {H : Heap} {locs : List Loc} {ls : Array Slot}, va_P G.1 vwCl (wM G q st) H → va_S A s.heap H locs → lv_has ls 4 [(0, .ref (q 42)), (1, .int v1)] → (∀ {H : Heap} {locs : List Loc} {ls : Array Slot}, va_P G.1 vwCl (wM G q x) H → va_S A s.heap H locs → lv_has ls 4 [(0, .ref (q 42))] → W p l e rmX5_joinsWires s m args below meth c H locs 0 0 Q (F0 m 22 ls [])) → W p l e rmX5_joinsWires s m args below meth c H locs 0 0 Q (F0 m 2 ls []) := by
  have hx := C.1
  have hb := C.2.1
  intro n
  induction n with
  | zero => intro st v1 x hf; cases hf
  | succ n ih =>
    intro st v1 x hf H locs ls hP hS hl kk
    rw [m_joinsWires_2] at hf
    refine lv_iload_n hx hb dX5_joinsWires_2 rfl (lv_at hl 1 rfl) ?_
    refine lv_sipush (v := 500) hx hb dX5_joinsWires_3 (by decide) ?_
    refine lv_icmp_ge (tgt := 22) hx hb dX5_joinsWires_6 (by decide) (fun c4 => ?_) (fun c4 => ?_)
    · have hf := if_t c4 hf
      cases hf
      exact kk hP hS (lv_sub hl [0] rfl)
    · have hf := if_f c4 hf
      refine lv_aload_n hx hb dX5_joinsWires_9 rfl (lv_at hl 0 rfl) ?_
      refine q_get C hP wM_o rfl hiX5_joinsWires_X5 18 (by decide) wdX5_joinsWires_1 rfl dX5_joinsWires_10 ?_
      refine lv_iload_n hx hb dX5_joinsWires_13 rfl (lv_at hl 1 rfl) ?_
      refine lv_iconst (v := 0) hx hb dX5_joinsWires_14 (by decide) ?_
      obtain ⟨hin, hf⟩ := gd_some hf
      obtain ⟨s5, es5, hf⟩ := nm_ex hf
      refine q_zast C hP (dd_M hD) hS wM_a_18 rfl wM_sA_18 hin dX5_joinsWires_15 (fun H locs hP hS => ?_)
      rw [es5] at hP
      refine lv_iinc (v := (v1 + 1)) (lv' := [(1, .int (v1 + 1)), (0, .ref (q 42))]) hx hb dX5_joinsWires_16 hl (k := 1) rfl rfl (by decide) rfl (fun ls hl => ?_)
      refine lv_goto (tgt := 2) hx hb dX5_joinsWires_19 (by decide) ?_
      exact ih hf hP hS (lv_sub hl [1, 0] rfl) kk
set_option maxHeartbeats 4000000 in
set_option maxRecDepth 100000 in
theorem t_X5_joinsWires_24 {p : Program} {l : Launch} {e : Env} {s : State} {m : MethodId} {args : Array Value} {below : List Frame} {meth : Method} {c : Code} {Q : State → Prop} {A : Nat → Prop} {G : Gx} {q : Nat → Nat} {st0 : OSt} (C : Cx p s m args meth c G cX5_joinsWires wsX5_joinsWires RX5 none 4 A) (hD : va_D A (wM G q st0)) :
    ∀ {n : Nat} {st : OSt} {v1 : Int32} {x : OSt}, m_joinsWires_24 n st v1 = some x → ∀ {H : Heap} {locs : List Loc} {ls : Array Slot}, va_P G.1 vwCl (wM G q st) H → va_S A s.heap H locs → lv_has ls 4 [(0, .ref (q 42)), (1, .int v1)] → (∀ {H : Heap} {locs : List Loc} {ls : Array Slot}, va_P G.1 vwCl (wM G q x) H → va_S A s.heap H locs → lv_has ls 4 [(0, .ref (q 42))] → W p l e rmX5_joinsWires s m args below meth c H locs 0 0 Q (F0 m 158 ls [])) → W p l e rmX5_joinsWires s m args below meth c H locs 0 0 Q (F0 m 24 ls []) := by
  have hx := C.1
  have hb := C.2.1
  intro n
  induction n with
  | zero => intro st v1 x hf; cases hf
  | succ n ih =>
    intro st v1 x hf H locs ls hP hS hl kk
    rw [m_joinsWires_24] at hf
    refine lv_iload_n hx hb dX5_joinsWires_24 rfl (lv_at hl 1 rfl) ?_
    refine lv_sipush (v := 1016) hx hb dX5_joinsWires_25 (by decide) ?_
    refine lv_icmp_ge (tgt := 158) hx hb dX5_joinsWires_28 (by decide) (fun c6 => ?_) (fun c6 => ?_)
    · have hf := if_t c6 hf
      cases hf
      exact kk hP hS (lv_sub hl [0] rfl)
    · have hf := if_f c6 hf
      refine lv_iload_n hx hb dX5_joinsWires_31 rfl (lv_at hl 1 rfl) ?_
      refine lv_sipush (v := 900) hx hb dX5_joinsWires_32 (by decide) ?_
      refine lv_icmp_ge (tgt := 81) hx hb dX5_joinsWires_35 (by decide) (fun c7 => ?_) (fun c7 => ?_)
      · have hf := if_t c7 hf
        refine lv_iload_n hx hb dX5_joinsWires_81 rfl (lv_at hl 1 rfl) ?_
        refine lv_sipush (v := 1000) hx hb dX5_joinsWires_82 (by decide) ?_
        refine lv_icmp_lt (tgt := 109) hx hb dX5_joinsWires_85 (by decide) (fun c8 => ?_) (fun c8 => ?_)
        · have hf := if_t c8 hf
          refine lv_iconst (v := 0) hx hb dX5_joinsWires_109 (by decide) ?_
          refine lv_istore_n (lv' := [(2, .int 0), (0, .ref (q 42)), (1, .int v1)]) hx hb dX5_joinsWires_110 rfl hl (by decide) rfl (fun ls hl => ?_)
          refine lv_iload_n hx hb dX5_joinsWires_111 rfl (lv_at hl 0 rfl) ?_
          refine lv_if_eq (tgt := 152) hx hb dX5_joinsWires_112 (by decide) (fun _ => ?_) (fun h9 => absurd h9 (by decide))
          refine lv_iinc (v := (v1 + 1)) (lv' := [(1, .int (v1 + 1)), (2, .int 0), (0, .ref (q 42))]) hx hb dX5_joinsWires_152 hl (k := 2) rfl rfl (by decide) rfl (fun ls hl => ?_)
          refine lv_goto (tgt := 24) hx hb dX5_joinsWires_155 (by decide) ?_
          exact ih hf hP hS (lv_sub hl [2, 0] rfl) kk
        · have hf := if_f c8 hf
          refine lv_aload_n hx hb dX5_joinsWires_88 rfl (lv_at hl 0 rfl) ?_
          refine q_get C hP wM_o rfl hiX5_joinsWires_X5 1 (by decide) wdX5_joinsWires_2 rfl dX5_joinsWires_89 ?_
          refine lv_bipush (v := 14) hx hb dX5_joinsWires_92 (by decide) ?_
          refine lv_iload_n hx hb dX5_joinsWires_94 rfl (lv_at hl 1 rfl) ?_
          refine lv_iadd hx hb dX5_joinsWires_95 ?_
          refine lv_sipush (v := 1000) hx hb dX5_joinsWires_96 (by decide) ?_
          refine lv_isub hx hb dX5_joinsWires_99 ?_
          obtain ⟨hin, hf⟩ := gd_some hf
          refine q_iald C hP wM_a_1 rfl hin dX5_joinsWires_100 ?_
          refine lv_iconst (v := 1) hx hb dX5_joinsWires_101 (by decide) ?_
          refine lv_icmp_ne (tgt := 109) hx hb dX5_joinsWires_102 (by decide) (fun c9 => ?_) (fun c9 => ?_)
          · have hf := if_f c9 hf
            refine lv_iconst (v := 0) hx hb dX5_joinsWires_109 (by decide) ?_
            refine lv_istore_n (lv' := [(2, .int 0), (0, .ref (q 42)), (1, .int v1)]) hx hb dX5_joinsWires_110 rfl hl (by decide) rfl (fun ls hl => ?_)
            refine lv_iload_n hx hb dX5_joinsWires_111 rfl (lv_at hl 0 rfl) ?_
            refine lv_if_eq (tgt := 152) hx hb dX5_joinsWires_112 (by decide) (fun _ => ?_) (fun h9 => absurd h9 (by decide))
            refine lv_iinc (v := (v1 + 1)) (lv' := [(1, .int (v1 + 1)), (2, .int 0), (0, .ref (q 42))]) hx hb dX5_joinsWires_152 hl (k := 2) rfl rfl (by decide) rfl (fun ls hl => ?_)
            refine lv_goto (tgt := 24) hx hb dX5_joinsWires_155 (by decide) ?_
            exact ih hf hP hS (lv_sub hl [2, 0] rfl) kk
          · have hf := if_t c9 hf
            refine lv_iconst (v := 1) hx hb dX5_joinsWires_105 (by decide) ?_
            refine lv_goto (tgt := 110) hx hb dX5_joinsWires_106 (by decide) ?_
            refine lv_istore_n (lv' := [(2, .int 1), (0, .ref (q 42)), (1, .int v1)]) hx hb dX5_joinsWires_110 rfl hl (by decide) rfl (fun ls hl => ?_)
            refine lv_iload_n hx hb dX5_joinsWires_111 rfl (lv_at hl 0 rfl) ?_
            refine lv_if_eq (tgt := 152) hx hb dX5_joinsWires_112 (by decide) (fun h9 => absurd h9 (by decide)) (fun _ => ?_)
            refine lv_aload_n hx hb dX5_joinsWires_115 rfl (lv_at hl 1 rfl) ?_
            refine q_get C hP wM_o rfl hiX5_joinsWires_X5 1 (by decide) wdX5_joinsWires_2 rfl dX5_joinsWires_116 ?_
            refine lv_sipush (v := 630) hx hb dX5_joinsWires_119 (by decide) ?_
            refine lv_iload_n hx hb dX5_joinsWires_122 rfl (lv_at hl 2 rfl) ?_
            refine lv_iadd hx hb dX5_joinsWires_123 ?_
            obtain ⟨hin, hf⟩ := gd_some hf
            refine q_iald C hP wM_a_1 rfl hin dX5_joinsWires_124 ?_
            refine lv_sipush (v := 1100) hx hb dX5_joinsWires_125 (by decide) ?_
            refine lv_icmp_lt (tgt := 152) hx hb dX5_joinsWires_128 (by decide) (fun c10 => ?_) (fun c10 => ?_)
            · have hf := if_t c10 hf
              refine lv_iinc (v := (v1 + 1)) (lv' := [(1, .int (v1 + 1)), (2, .int 1), (0, .ref (q 42))]) hx hb dX5_joinsWires_152 hl (k := 2) rfl rfl (by decide) rfl (fun ls hl => ?_)
              refine lv_goto (tgt := 24) hx hb dX5_joinsWires_155 (by decide) ?_
              exact ih hf hP hS (lv_sub hl [2, 0] rfl) kk
            · have hf := if_f c10 hf
              refine lv_aload_n hx hb dX5_joinsWires_131 rfl (lv_at hl 1 rfl) ?_
              refine lv_aload_n hx hb dX5_joinsWires_132 rfl (lv_at hl 1 rfl) ?_
              refine q_get C hP wM_o rfl hiX5_joinsWires_X5 1 (by decide) wdX5_joinsWires_2 rfl dX5_joinsWires_133 ?_
              refine lv_sipush (v := 630) hx hb dX5_joinsWires_136 (by decide) ?_
              refine lv_iload_n hx hb dX5_joinsWires_139 rfl (lv_at hl 2 rfl) ?_
              refine lv_iadd hx hb dX5_joinsWires_140 ?_
              obtain ⟨hin, hf⟩ := gd_some hf
              refine q_iald C hP wM_a_1 rfl hin dX5_joinsWires_141 ?_
              obtain ⟨x11, hx11, hf⟩ := bd_some hf
              refine q_Vi C (rc := (RX5, TX5, 42)) (q0 := 0) (ci := 5) (ws' := wM G q x11.2) (wr := []) (c_X5_beyond hx11) gX5_joinsWires_X5_beyond rfl ⟨rfl, rfl⟩ hdX5_beyond ⟨(Nat.le_of_ble_eq_true rfl), (Nat.le_of_ble_eq_true rfl)⟩ rfl hP (dd_M hD) hS rfl rfl (List.Perm.refl _) (List.Perm.refl _) hl.1 (Nat.le_of_ble_eq_true rfl) ⟨Nat.zero_le _, Nat.zero_le _⟩ rfl dX5_joinsWires_142 (fun H locs hP hS => ?_)
              refine lv_istore_n (lv' := [(3, .int x11.1), (2, .int 1), (0, .ref (q 42)), (1, .int v1)]) hx hb dX5_joinsWires_145 rfl hl (by decide) rfl (fun ls hl => ?_)
              refine lv_aload_n hx hb dX5_joinsWires_146 rfl (lv_at hl 2 rfl) ?_
              refine lv_iload_n hx hb dX5_joinsWires_147 rfl (lv_at hl 3 rfl) ?_
              refine lv_iload_n hx hb dX5_joinsWires_148 rfl (lv_at hl 0 rfl) ?_
              obtain ⟨x12, hx12, hf⟩ := bd_some hf
              refine q_Vv C (rc := (RX5, TX5, 42)) (q0 := 0) (ci := 5) (ws' := wM G q x12) (wr := []) (c_X5_links hx12) gX5_joinsWires_X5_links rfl ⟨rfl, rfl⟩ hdX5_links ⟨(Nat.le_of_ble_eq_true rfl), (Nat.le_of_ble_eq_true rfl)⟩ rfl hP (dd_M hD) hS rfl rfl (List.Perm.refl _) (List.Perm.refl _) hl.1 (Nat.le_of_ble_eq_true rfl) ⟨Nat.zero_le _, Nat.zero_le _⟩ rfl dX5_joinsWires_149 (fun H locs hP hS => ?_)
              refine lv_iinc (v := (v1 + 1)) (lv' := [(1, .int (v1 + 1)), (3, .int x11.1), (2, .int 1), (0, .ref (q 42))]) hx hb dX5_joinsWires_152 hl (k := 3) rfl rfl (by decide) rfl (fun ls hl => ?_)
              refine lv_goto (tgt := 24) hx hb dX5_joinsWires_155 (by decide) ?_
              exact ih hf hP hS (lv_sub hl [3, 0] rfl) kk
      · have hf := if_f c7 hf
        refine lv_aload_n hx hb dX5_joinsWires_38 rfl (lv_at hl 0 rfl) ?_
        refine q_get C hP wM_o rfl hiX5_joinsWires_X5 1 (by decide) wdX5_joinsWires_2 rfl dX5_joinsWires_39 ?_
        refine lv_bipush (v := 30) hx hb dX5_joinsWires_42 (by decide) ?_
        refine lv_iload_n hx hb dX5_joinsWires_44 rfl (lv_at hl 1 rfl) ?_
        refine lv_iconst (v := 3) hx hb dX5_joinsWires_45 (by decide) ?_
        refine lv_idiv hx hb dX5_joinsWires_46 (by decide) ?_
        refine lv_iadd hx hb dX5_joinsWires_47 ?_
        obtain ⟨hin, hf⟩ := gd_some hf
        refine q_iald C hP wM_a_1 rfl hin dX5_joinsWires_48 ?_
        refine lv_if_le (tgt := 77) hx hb dX5_joinsWires_49 (by decide) (fun c13 => ?_) (fun c13 => ?_)
        · have hf := if_t c13 hf
          refine lv_iconst (v := 0) hx hb dX5_joinsWires_77 (by decide) ?_
          refine lv_goto (tgt := 110) hx hb dX5_joinsWires_78 (by decide) ?_
          refine lv_istore_n (lv' := [(2, .int 0), (0, .ref (q 42)), (1, .int v1)]) hx hb dX5_joinsWires_110 rfl hl (by decide) rfl (fun ls hl => ?_)
          refine lv_iload_n hx hb dX5_joinsWires_111 rfl (lv_at hl 0 rfl) ?_
          refine lv_if_eq (tgt := 152) hx hb dX5_joinsWires_112 (by decide) (fun _ => ?_) (fun h9 => absurd h9 (by decide))
          refine lv_iinc (v := (v1 + 1)) (lv' := [(1, .int (v1 + 1)), (2, .int 0), (0, .ref (q 42))]) hx hb dX5_joinsWires_152 hl (k := 2) rfl rfl (by decide) rfl (fun ls hl => ?_)
          refine lv_goto (tgt := 24) hx hb dX5_joinsWires_155 (by decide) ?_
          exact ih hf hP hS (lv_sub hl [2, 0] rfl) kk
        · have hf := if_f c13 hf
          refine lv_iload_n hx hb dX5_joinsWires_52 rfl (lv_at hl 1 rfl) ?_
          refine lv_iconst (v := 3) hx hb dX5_joinsWires_53 (by decide) ?_
          refine lv_irem hx hb dX5_joinsWires_54 (by decide) ?_
          refine lv_if_eq (tgt := 73) hx hb dX5_joinsWires_55 (by decide) (fun c14 => ?_) (fun c14 => ?_)
          · have hf := if_t c14 hf
            refine lv_iconst (v := 1) hx hb dX5_joinsWires_73 (by decide) ?_
            refine lv_goto (tgt := 110) hx hb dX5_joinsWires_74 (by decide) ?_
            refine lv_istore_n (lv' := [(2, .int 1), (0, .ref (q 42)), (1, .int v1)]) hx hb dX5_joinsWires_110 rfl hl (by decide) rfl (fun ls hl => ?_)
            refine lv_iload_n hx hb dX5_joinsWires_111 rfl (lv_at hl 0 rfl) ?_
            refine lv_if_eq (tgt := 152) hx hb dX5_joinsWires_112 (by decide) (fun h9 => absurd h9 (by decide)) (fun _ => ?_)
            refine lv_aload_n hx hb dX5_joinsWires_115 rfl (lv_at hl 1 rfl) ?_
            refine q_get C hP wM_o rfl hiX5_joinsWires_X5 1 (by decide) wdX5_joinsWires_2 rfl dX5_joinsWires_116 ?_
            refine lv_sipush (v := 630) hx hb dX5_joinsWires_119 (by decide) ?_
            refine lv_iload_n hx hb dX5_joinsWires_122 rfl (lv_at hl 2 rfl) ?_
            refine lv_iadd hx hb dX5_joinsWires_123 ?_
            obtain ⟨hin, hf⟩ := gd_some hf
            refine q_iald C hP wM_a_1 rfl hin dX5_joinsWires_124 ?_
            refine lv_sipush (v := 1100) hx hb dX5_joinsWires_125 (by decide) ?_
            refine lv_icmp_lt (tgt := 152) hx hb dX5_joinsWires_128 (by decide) (fun c15 => ?_) (fun c15 => ?_)
            · have hf := if_t c15 hf
              refine lv_iinc (v := (v1 + 1)) (lv' := [(1, .int (v1 + 1)), (2, .int 1), (0, .ref (q 42))]) hx hb dX5_joinsWires_152 hl (k := 2) rfl rfl (by decide) rfl (fun ls hl => ?_)
              refine lv_goto (tgt := 24) hx hb dX5_joinsWires_155 (by decide) ?_
              exact ih hf hP hS (lv_sub hl [2, 0] rfl) kk
            · have hf := if_f c15 hf
              refine lv_aload_n hx hb dX5_joinsWires_131 rfl (lv_at hl 1 rfl) ?_
              refine lv_aload_n hx hb dX5_joinsWires_132 rfl (lv_at hl 1 rfl) ?_
              refine q_get C hP wM_o rfl hiX5_joinsWires_X5 1 (by decide) wdX5_joinsWires_2 rfl dX5_joinsWires_133 ?_
              refine lv_sipush (v := 630) hx hb dX5_joinsWires_136 (by decide) ?_
              refine lv_iload_n hx hb dX5_joinsWires_139 rfl (lv_at hl 2 rfl) ?_
              refine lv_iadd hx hb dX5_joinsWires_140 ?_
              obtain ⟨hin, hf⟩ := gd_some hf
              refine q_iald C hP wM_a_1 rfl hin dX5_joinsWires_141 ?_
              obtain ⟨x16, hx16, hf⟩ := bd_some hf
              refine q_Vi C (rc := (RX5, TX5, 42)) (q0 := 0) (ci := 5) (ws' := wM G q x16.2) (wr := []) (c_X5_beyond hx16) gX5_joinsWires_X5_beyond rfl ⟨rfl, rfl⟩ hdX5_beyond ⟨(Nat.le_of_ble_eq_true rfl), (Nat.le_of_ble_eq_true rfl)⟩ rfl hP (dd_M hD) hS rfl rfl (List.Perm.refl _) (List.Perm.refl _) hl.1 (Nat.le_of_ble_eq_true rfl) ⟨Nat.zero_le _, Nat.zero_le _⟩ rfl dX5_joinsWires_142 (fun H locs hP hS => ?_)
              refine lv_istore_n (lv' := [(3, .int x16.1), (2, .int 1), (0, .ref (q 42)), (1, .int v1)]) hx hb dX5_joinsWires_145 rfl hl (by decide) rfl (fun ls hl => ?_)
              refine lv_aload_n hx hb dX5_joinsWires_146 rfl (lv_at hl 2 rfl) ?_
              refine lv_iload_n hx hb dX5_joinsWires_147 rfl (lv_at hl 3 rfl) ?_
              refine lv_iload_n hx hb dX5_joinsWires_148 rfl (lv_at hl 0 rfl) ?_
              obtain ⟨x17, hx17, hf⟩ := bd_some hf
              refine q_Vv C (rc := (RX5, TX5, 42)) (q0 := 0) (ci := 5) (ws' := wM G q x17) (wr := []) (c_X5_links hx17) gX5_joinsWires_X5_links rfl ⟨rfl, rfl⟩ hdX5_links ⟨(Nat.le_of_ble_eq_true rfl), (Nat.le_of_ble_eq_true rfl)⟩ rfl hP (dd_M hD) hS rfl rfl (List.Perm.refl _) (List.Perm.refl _) hl.1 (Nat.le_of_ble_eq_true rfl) ⟨Nat.zero_le _, Nat.zero_le _⟩ rfl dX5_joinsWires_149 (fun H locs hP hS => ?_)
              refine lv_iinc (v := (v1 + 1)) (lv' := [(1, .int (v1 + 1)), (3, .int x16.1), (2, .int 1), (0, .ref (q 42))]) hx hb dX5_joinsWires_152 hl (k := 3) rfl rfl (by decide) rfl (fun ls hl => ?_)
              refine lv_goto (tgt := 24) hx hb dX5_joinsWires_155 (by decide) ?_
              exact ih hf hP hS (lv_sub hl [3, 0] rfl) kk
          · have hf := if_f c14 hf
            refine lv_aload_n hx hb dX5_joinsWires_58 rfl (lv_at hl 0 rfl) ?_
            refine q_get C hP wM_o rfl hiX5_joinsWires_X5 1 (by decide) wdX5_joinsWires_2 rfl dX5_joinsWires_59 ?_
            refine lv_bipush (v := 30) hx hb dX5_joinsWires_62 (by decide) ?_
            refine lv_iload_n hx hb dX5_joinsWires_64 rfl (lv_at hl 1 rfl) ?_
            refine lv_iconst (v := 3) hx hb dX5_joinsWires_65 (by decide) ?_
            refine lv_idiv hx hb dX5_joinsWires_66 (by decide) ?_
            refine lv_iadd hx hb dX5_joinsWires_67 ?_
            obtain ⟨hin, hf⟩ := gd_some hf
            refine q_iald C hP wM_a_1 rfl hin dX5_joinsWires_68 ?_
            refine lv_iconst (v := 1) hx hb dX5_joinsWires_69 (by decide) ?_
            refine lv_icmp_le (tgt := 77) hx hb dX5_joinsWires_70 (by decide) (fun c18 => ?_) (fun c18 => ?_)
            · have hf := if_t c18 hf
              refine lv_iconst (v := 0) hx hb dX5_joinsWires_77 (by decide) ?_
              refine lv_goto (tgt := 110) hx hb dX5_joinsWires_78 (by decide) ?_
              refine lv_istore_n (lv' := [(2, .int 0), (0, .ref (q 42)), (1, .int v1)]) hx hb dX5_joinsWires_110 rfl hl (by decide) rfl (fun ls hl => ?_)
              refine lv_iload_n hx hb dX5_joinsWires_111 rfl (lv_at hl 0 rfl) ?_
              refine lv_if_eq (tgt := 152) hx hb dX5_joinsWires_112 (by decide) (fun _ => ?_) (fun h9 => absurd h9 (by decide))
              refine lv_iinc (v := (v1 + 1)) (lv' := [(1, .int (v1 + 1)), (2, .int 0), (0, .ref (q 42))]) hx hb dX5_joinsWires_152 hl (k := 2) rfl rfl (by decide) rfl (fun ls hl => ?_)
              refine lv_goto (tgt := 24) hx hb dX5_joinsWires_155 (by decide) ?_
              exact ih hf hP hS (lv_sub hl [2, 0] rfl) kk
            · have hf := if_f c18 hf
              refine lv_iconst (v := 1) hx hb dX5_joinsWires_73 (by decide) ?_
              refine lv_goto (tgt := 110) hx hb dX5_joinsWires_74 (by decide) ?_
              refine lv_istore_n (lv' := [(2, .int 1), (0, .ref (q 42)), (1, .int v1)]) hx hb dX5_joinsWires_110 rfl hl (by decide) rfl (fun ls hl => ?_)
              refine lv_iload_n hx hb dX5_joinsWires_111 rfl (lv_at hl 0 rfl) ?_
              refine lv_if_eq (tgt := 152) hx hb dX5_joinsWires_112 (by decide) (fun h9 => absurd h9 (by decide)) (fun _ => ?_)
              refine lv_aload_n hx hb dX5_joinsWires_115 rfl (lv_at hl 1 rfl) ?_
              refine q_get C hP wM_o rfl hiX5_joinsWires_X5 1 (by decide) wdX5_joinsWires_2 rfl dX5_joinsWires_116 ?_
              refine lv_sipush (v := 630) hx hb dX5_joinsWires_119 (by decide) ?_
              refine lv_iload_n hx hb dX5_joinsWires_122 rfl (lv_at hl 2 rfl) ?_
              refine lv_iadd hx hb dX5_joinsWires_123 ?_
              obtain ⟨hin, hf⟩ := gd_some hf
              refine q_iald C hP wM_a_1 rfl hin dX5_joinsWires_124 ?_
              refine lv_sipush (v := 1100) hx hb dX5_joinsWires_125 (by decide) ?_
              refine lv_icmp_lt (tgt := 152) hx hb dX5_joinsWires_128 (by decide) (fun c19 => ?_) (fun c19 => ?_)
              · have hf := if_t c19 hf
                refine lv_iinc (v := (v1 + 1)) (lv' := [(1, .int (v1 + 1)), (2, .int 1), (0, .ref (q 42))]) hx hb dX5_joinsWires_152 hl (k := 2) rfl rfl (by decide) rfl (fun ls hl => ?_)
                refine lv_goto (tgt := 24) hx hb dX5_joinsWires_155 (by decide) ?_
                exact ih hf hP hS (lv_sub hl [2, 0] rfl) kk
              · have hf := if_f c19 hf
                refine lv_aload_n hx hb dX5_joinsWires_131 rfl (lv_at hl 1 rfl) ?_
                refine lv_aload_n hx hb dX5_joinsWires_132 rfl (lv_at hl 1 rfl) ?_
                refine q_get C hP wM_o rfl hiX5_joinsWires_X5 1 (by decide) wdX5_joinsWires_2 rfl dX5_joinsWires_133 ?_
                refine lv_sipush (v := 630) hx hb dX5_joinsWires_136 (by decide) ?_
                refine lv_iload_n hx hb dX5_joinsWires_139 rfl (lv_at hl 2 rfl) ?_
                refine lv_iadd hx hb dX5_joinsWires_140 ?_
                obtain ⟨hin, hf⟩ := gd_some hf
                refine q_iald C hP wM_a_1 rfl hin dX5_joinsWires_141 ?_
                obtain ⟨x20, hx20, hf⟩ := bd_some hf
                refine q_Vi C (rc := (RX5, TX5, 42)) (q0 := 0) (ci := 5) (ws' := wM G q x20.2) (wr := []) (c_X5_beyond hx20) gX5_joinsWires_X5_beyond rfl ⟨rfl, rfl⟩ hdX5_beyond ⟨(Nat.le_of_ble_eq_true rfl), (Nat.le_of_ble_eq_true rfl)⟩ rfl hP (dd_M hD) hS rfl rfl (List.Perm.refl _) (List.Perm.refl _) hl.1 (Nat.le_of_ble_eq_true rfl) ⟨Nat.zero_le _, Nat.zero_le _⟩ rfl dX5_joinsWires_142 (fun H locs hP hS => ?_)
                refine lv_istore_n (lv' := [(3, .int x20.1), (2, .int 1), (0, .ref (q 42)), (1, .int v1)]) hx hb dX5_joinsWires_145 rfl hl (by decide) rfl (fun ls hl => ?_)
                refine lv_aload_n hx hb dX5_joinsWires_146 rfl (lv_at hl 2 rfl) ?_
                refine lv_iload_n hx hb dX5_joinsWires_147 rfl (lv_at hl 3 rfl) ?_
                refine lv_iload_n hx hb dX5_joinsWires_148 rfl (lv_at hl 0 rfl) ?_
                obtain ⟨x21, hx21, hf⟩ := bd_some hf
                refine q_Vv C (rc := (RX5, TX5, 42)) (q0 := 0) (ci := 5) (ws' := wM G q x21) (wr := []) (c_X5_links hx21) gX5_joinsWires_X5_links rfl ⟨rfl, rfl⟩ hdX5_links ⟨(Nat.le_of_ble_eq_true rfl), (Nat.le_of_ble_eq_true rfl)⟩ rfl hP (dd_M hD) hS rfl rfl (List.Perm.refl _) (List.Perm.refl _) hl.1 (Nat.le_of_ble_eq_true rfl) ⟨Nat.zero_le _, Nat.zero_le _⟩ rfl dX5_joinsWires_149 (fun H locs hP hS => ?_)
                refine lv_iinc (v := (v1 + 1)) (lv' := [(1, .int (v1 + 1)), (3, .int x20.1), (2, .int 1), (0, .ref (q 42))]) hx hb dX5_joinsWires_152 hl (k := 3) rfl rfl (by decide) rfl (fun ls hl => ?_)
                refine lv_goto (tgt := 24) hx hb dX5_joinsWires_155 (by decide) ?_
                exact ih hf hP hS (lv_sub hl [3, 0] rfl) kk
set_option maxHeartbeats 4000000 in
set_option maxRecDepth 100000 in
theorem t_X5_joinsWires_192 {p : Program} {l : Launch} {e : Env} {s : State} {m : MethodId} {args : Array Value} {below : List Frame} {meth : Method} {c : Code} {Q : State → Prop} {A : Nat → Prop} {G : Gx} {q : Nat → Nat} {st0 : OSt} (C : Cx p s m args meth c G cX5_joinsWires wsX5_joinsWires RX5 none 4 A) (hD : va_D A (wM G q st0)) :
    ∀ {n : Nat} {st : OSt} {v1 : Int32} {v2 : Int32} {x : OSt}, m_joinsWires_192 n st v1 v2 = some x → ∀ {H : Heap} {locs : List Loc} {ls : Array Slot}, va_P G.1 vwCl (wM G q st) H → va_S A s.heap H locs → lv_has ls 4 [(0, .ref (q 42)), (1, .int v1), (2, .int v2)] → (∀ {H : Heap} {locs : List Loc} {ls : Array Slot}, va_P G.1 vwCl (wM G q x) H → va_S A s.heap H locs → lv_has ls 4 [(0, .ref (q 42)), (1, .int v1)] → W p l e rmX5_joinsWires s m args below meth c H locs 0 0 Q (F0 m 245 ls [])) → W p l e rmX5_joinsWires s m args below meth c H locs 0 0 Q (F0 m 192 ls []) := by
  have hx := C.1
  have hb := C.2.1
  intro n
  induction n with
  | zero => intro st v1 v2 x hf; cases hf
  | succ n ih =>
    intro st v1 v2 x hf H locs ls hP hS hl kk
    rw [m_joinsWires_192] at hf
    refine lv_aload_n hx hb dX5_joinsWires_192 rfl (lv_at hl 0 rfl) ?_
    refine q_get C hP wM_o rfl hiX5_joinsWires_X5 18 (by decide) wdX5_joinsWires_1 rfl dX5_joinsWires_193 ?_
    refine lv_iload_n hx hb dX5_joinsWires_196 rfl (lv_at hl 2 rfl) ?_
    obtain ⟨hin, hf⟩ := gd_some hf
    refine q_zald C hP wM_a_18 rfl hin dX5_joinsWires_197 ?_
    refine lv_if_ne (tgt := 245) hx hb dX5_joinsWires_198 (by decide) (fun c26 => ?_) (fun c26 => ?_)
    · have hf := if_f c26 hf
      cases hf
      exact kk hP hS (lv_sub hl [0, 1] rfl)
    · have hf := if_t c26 hf
      refine lv_iload_n hx hb dX5_joinsWires_201 rfl (lv_at hl 2 rfl) ?_
      refine lv_iconst (v := 2) hx hb dX5_joinsWires_202 (by decide) ?_
      refine lv_irem hx hb dX5_joinsWires_203 (by decide) ?_
      refine lv_if_ne (tgt := 213) hx hb dX5_joinsWires_204 (by decide) (fun c27 => ?_) (fun c27 => ?_)
      · have hf := if_f c27 hf
        refine lv_iload_n hx hb dX5_joinsWires_213 rfl (lv_at hl 2 rfl) ?_
        refine lv_iconst (v := 1) hx hb dX5_joinsWires_214 (by decide) ?_
        refine lv_isub hx hb dX5_joinsWires_215 ?_
        refine lv_istore_n (lv' := [(3, .int (v2 - 1)), (0, .ref (q 42)), (1, .int v1), (2, .int v2)]) hx hb dX5_joinsWires_216 rfl hl (by decide) rfl (fun ls hl => ?_)
        refine lv_aload_n hx hb dX5_joinsWires_217 rfl (lv_at hl 1 rfl) ?_
        refine q_get C hP wM_o rfl hiX5_joinsWires_X5 18 (by decide) wdX5_joinsWires_1 rfl dX5_joinsWires_218 ?_
        refine lv_iload_n hx hb dX5_joinsWires_221 rfl (lv_at hl 3 rfl) ?_
        refine lv_iconst (v := 1) hx hb dX5_joinsWires_222 (by decide) ?_
        obtain ⟨hin, hf⟩ := gd_some hf
        obtain ⟨s28, es28, hf⟩ := nm_ex hf
        refine q_zast C hP (dd_M hD) hS wM_a_18 rfl wM_sA_18 hin dX5_joinsWires_223 (fun H locs hP hS => ?_)
        rw [es28] at hP
        refine lv_aload_n hx hb dX5_joinsWires_224 rfl (lv_at hl 1 rfl) ?_
        refine q_get C hP wM_o rfl hiX5_joinsWires_X5 18 (by decide) wdX5_joinsWires_1 rfl dX5_joinsWires_225 ?_
        refine lv_iload_n hx hb dX5_joinsWires_228 rfl (lv_at hl 0 rfl) ?_
        refine lv_iconst (v := 1) hx hb dX5_joinsWires_229 (by decide) ?_
        obtain ⟨hin, hf⟩ := gd_some hf
        obtain ⟨s29, es29, hf⟩ := nm_ex hf
        refine q_zast C hP (dd_M hD) hS wM_a_18 rfl wM_sA_18 hin dX5_joinsWires_230 (fun H locs hP hS => ?_)
        rw [es29] at hP
        refine lv_aload_n hx hb dX5_joinsWires_231 rfl (lv_at hl 1 rfl) ?_
        refine q_get C hP wM_o rfl hiX5_joinsWires_X5 14 (by decide) wdX5_joinsWires_4 rfl dX5_joinsWires_232 ?_
        refine lv_iload_n hx hb dX5_joinsWires_235 rfl (lv_at hl 0 rfl) ?_
        obtain ⟨hin, hf⟩ := gd_some hf
        refine q_iald C hP wM_a_14 rfl hin dX5_joinsWires_236 ?_
        refine lv_sipush (v := 1100) hx hb dX5_joinsWires_237 (by decide) ?_
        refine lv_isub hx hb dX5_joinsWires_240 ?_
        obtain ⟨y30, ey30, hf⟩ := nm_ex hf
        refine lv_tI ey30 ?_
        refine lv_istore_n (lv' := [(2, .int y30), (3, .int (v2 - 1)), (0, .ref (q 42)), (1, .int v1)]) hx hb dX5_joinsWires_241 rfl hl (by decide) rfl (fun ls hl => ?_)
        refine lv_goto (tgt := 192) hx hb dX5_joinsWires_242 (by decide) ?_
        exact ih hf hP hS (lv_sub hl [2, 3, 0] rfl) kk
      · have hf := if_t c27 hf
        refine lv_iload_n hx hb dX5_joinsWires_207 rfl (lv_at hl 2 rfl) ?_
        refine lv_iconst (v := 1) hx hb dX5_joinsWires_208 (by decide) ?_
        refine lv_iadd hx hb dX5_joinsWires_209 ?_
        refine lv_goto (tgt := 216) hx hb dX5_joinsWires_210 (by decide) ?_
        refine lv_istore_n (lv' := [(3, .int (v2 + 1)), (0, .ref (q 42)), (1, .int v1), (2, .int v2)]) hx hb dX5_joinsWires_216 rfl hl (by decide) rfl (fun ls hl => ?_)
        refine lv_aload_n hx hb dX5_joinsWires_217 rfl (lv_at hl 1 rfl) ?_
        refine q_get C hP wM_o rfl hiX5_joinsWires_X5 18 (by decide) wdX5_joinsWires_1 rfl dX5_joinsWires_218 ?_
        refine lv_iload_n hx hb dX5_joinsWires_221 rfl (lv_at hl 3 rfl) ?_
        refine lv_iconst (v := 1) hx hb dX5_joinsWires_222 (by decide) ?_
        obtain ⟨hin, hf⟩ := gd_some hf
        obtain ⟨s31, es31, hf⟩ := nm_ex hf
        refine q_zast C hP (dd_M hD) hS wM_a_18 rfl wM_sA_18 hin dX5_joinsWires_223 (fun H locs hP hS => ?_)
        rw [es31] at hP
        refine lv_aload_n hx hb dX5_joinsWires_224 rfl (lv_at hl 1 rfl) ?_
        refine q_get C hP wM_o rfl hiX5_joinsWires_X5 18 (by decide) wdX5_joinsWires_1 rfl dX5_joinsWires_225 ?_
        refine lv_iload_n hx hb dX5_joinsWires_228 rfl (lv_at hl 0 rfl) ?_
        refine lv_iconst (v := 1) hx hb dX5_joinsWires_229 (by decide) ?_
        obtain ⟨hin, hf⟩ := gd_some hf
        obtain ⟨s32, es32, hf⟩ := nm_ex hf
        refine q_zast C hP (dd_M hD) hS wM_a_18 rfl wM_sA_18 hin dX5_joinsWires_230 (fun H locs hP hS => ?_)
        rw [es32] at hP
        refine lv_aload_n hx hb dX5_joinsWires_231 rfl (lv_at hl 1 rfl) ?_
        refine q_get C hP wM_o rfl hiX5_joinsWires_X5 14 (by decide) wdX5_joinsWires_4 rfl dX5_joinsWires_232 ?_
        refine lv_iload_n hx hb dX5_joinsWires_235 rfl (lv_at hl 0 rfl) ?_
        obtain ⟨hin, hf⟩ := gd_some hf
        refine q_iald C hP wM_a_14 rfl hin dX5_joinsWires_236 ?_
        refine lv_sipush (v := 1100) hx hb dX5_joinsWires_237 (by decide) ?_
        refine lv_isub hx hb dX5_joinsWires_240 ?_
        obtain ⟨y33, ey33, hf⟩ := nm_ex hf
        refine lv_tI ey33 ?_
        refine lv_istore_n (lv' := [(2, .int y33), (3, .int (v2 + 1)), (0, .ref (q 42)), (1, .int v1)]) hx hb dX5_joinsWires_241 rfl hl (by decide) rfl (fun ls hl => ?_)
        refine lv_goto (tgt := 192) hx hb dX5_joinsWires_242 (by decide) ?_
        exact ih hf hP hS (lv_sub hl [2, 3, 0] rfl) kk
set_option maxHeartbeats 4000000 in
set_option maxRecDepth 100000 in
theorem t_X5_joinsWires_160 {p : Program} {l : Launch} {e : Env} {s : State} {m : MethodId} {args : Array Value} {below : List Frame} {meth : Method} {c : Code} {Q : State → Prop} {A : Nat → Prop} {G : Gx} {q : Nat → Nat} {st0 : OSt} (C : Cx p s m args meth c G cX5_joinsWires wsX5_joinsWires RX5 none 4 A) (hD : va_D A (wM G q st0)) :
    ∀ {n : Nat} {st : OSt} {v1 : Int32} {x : OSt}, m_joinsWires_160 n st v1 = some x → ∀ {H : Heap} {locs : List Loc} {ls : Array Slot}, va_P G.1 vwCl (wM G q st) H → va_S A s.heap H locs → lv_has ls 4 [(0, .ref (q 42)), (1, .int v1)] → (∀ {H : Heap} {locs : List Loc} {ls : Array Slot}, va_P G.1 vwCl (wM G q x) H → va_S A s.heap H locs → lv_has ls 4 [] → W p l e rmX5_joinsWires s m args below meth c H locs 0 0 Q (F0 m 251 ls [])) → W p l e rmX5_joinsWires s m args below meth c H locs 0 0 Q (F0 m 160 ls []) := by
  have hx := C.1
  have hb := C.2.1
  intro n
  induction n with
  | zero => intro st v1 x hf; cases hf
  | succ n ih =>
    intro st v1 x hf H locs ls hP hS hl kk
    rw [m_joinsWires_160] at hf
    refine lv_iload_n hx hb dX5_joinsWires_160 rfl (lv_at hl 1 rfl) ?_
    refine lv_iconst (v := 2) hx hb dX5_joinsWires_161 (by decide) ?_
    refine lv_aload_n hx hb dX5_joinsWires_162 rfl (lv_at hl 0 rfl) ?_
    refine q_get C hP wM_o rfl hiX5_joinsWires_X5 11 (by decide) wdX5_joinsWires_3 rfl dX5_joinsWires_163 ?_
    refine lv_imul hx hb dX5_joinsWires_166 ?_
    refine lv_icmp_ge (tgt := 251) hx hb dX5_joinsWires_167 (by decide) (fun c22 => ?_) (fun c22 => ?_)
    · have hf := if_t c22 hf
      cases hf
      exact kk hP hS (lv_sub hl [] rfl)
    · have hf := if_f c22 hf
      refine lv_aload_n hx hb dX5_joinsWires_170 rfl (lv_at hl 0 rfl) ?_
      refine q_get C hP wM_o rfl hiX5_joinsWires_X5 18 (by decide) wdX5_joinsWires_1 rfl dX5_joinsWires_171 ?_
      refine lv_iload_n hx hb dX5_joinsWires_174 rfl (lv_at hl 1 rfl) ?_
      obtain ⟨hin, hf⟩ := gd_some hf
      refine q_zald C hP wM_a_18 rfl hin dX5_joinsWires_175 ?_
      refine lv_if_ne (tgt := 245) hx hb dX5_joinsWires_176 (by decide) (fun c23 => ?_) (fun c23 => ?_)
      · have hf := if_f c23 hf
        refine lv_iinc (v := (v1 + 2)) (lv' := [(1, .int (v1 + 2)), (0, .ref (q 42))]) hx hb dX5_joinsWires_245 hl (k := 1) rfl rfl (by decide) rfl (fun ls hl => ?_)
        refine lv_goto (tgt := 160) hx hb dX5_joinsWires_248 (by decide) ?_
        exact ih hf hP hS (lv_sub hl [1, 0] rfl) kk
      · have hf := if_t c23 hf
        refine lv_aload_n hx hb dX5_joinsWires_179 rfl (lv_at hl 0 rfl) ?_
        refine q_get C hP wM_o rfl hiX5_joinsWires_X5 1 (by decide) wdX5_joinsWires_2 rfl dX5_joinsWires_180 ?_
        refine lv_bipush (v := 7) hx hb dX5_joinsWires_183 (by decide) ?_
        refine lv_dup2_11 hx hb dX5_joinsWires_185 rfl rfl ?_
        refine q_iald C hP wM_a_1 (j := 7) (by decide) (vp_k (j := 7) (by decide) (by decide) (by decide)) dX5_joinsWires_186 ?_
        refine lv_iconst (v := 1) hx hb dX5_joinsWires_187 (by decide) ?_
        refine lv_iadd hx hb dX5_joinsWires_188 ?_
        obtain ⟨s24, es24, hf⟩ := nm_ex hf
        refine q_iast C hP (dd_M hD) hS wM_a_1 (j := 7) (by decide) wM_sA_1 (vp_k (j := 7) (by decide) (by decide) (by decide)) dX5_joinsWires_189 (fun H locs hP hS => ?_)
        rw [es24] at hP
        refine lv_iload_n hx hb dX5_joinsWires_190 rfl (lv_at hl 1 rfl) ?_
        refine lv_istore_n (lv' := [(2, .int v1), (0, .ref (q 42)), (1, .int v1)]) hx hb dX5_joinsWires_191 rfl hl (by decide) rfl (fun ls hl => ?_)
        obtain ⟨x25, hx25, hf⟩ := bd_some hf
        refine t_X5_joinsWires_192 C hD hx25 hP hS (lv_sub hl [1, 2, 0] rfl) (fun {H locs ls} hP hS hl => ?_)
        refine lv_iinc (v := (v1 + 2)) (lv' := [(1, .int (v1 + 2)), (0, .ref (q 42))]) hx hb dX5_joinsWires_245 hl (k := 1) rfl rfl (by decide) rfl (fun ls hl => ?_)
        refine lv_goto (tgt := 160) hx hb dX5_joinsWires_248 (by decide) ?_
        exact ih hf hP hS (lv_sub hl [1, 0] rfl) kk
set_option maxHeartbeats 4000000 in
set_option maxRecDepth 100000 in
theorem c_X5_joinsWires {l : Launch} {G : Gx} {q : Nat → Nat} {st : OSt}  {x : OSt} (hf : m_joinsWires st = some x) : QM l G yX5_joinsWires wsX5_joinsWires rmX5_joinsWires [.ref (q 42)] (wM G q st) (wM G q x) none := by
  refine QM.of (cc := cX5_joinsWires) (maxL := 4) (ret := none) (by decide) rfl (Nat.le_of_ble_eq_true rfl) ?_
  intro p e s m below meth c A ls C hD hP hS hl
  have hx := C.1
  have hb := C.2.1
  have hl : lv_has ls 4 [(0, .ref (q 42))] := hl
  unfold m_joinsWires at hf
  refine lv_iconst (v := 0) hx hb dX5_joinsWires_0 (by decide) ?_
  refine lv_istore_n (lv' := [(1, .int 0), (0, .ref (q 42))]) hx hb dX5_joinsWires_1 rfl hl (by decide) rfl (fun ls hl => ?_)
  obtain ⟨x1, hx1, hf⟩ := bd_some hf
  refine t_X5_joinsWires_2 C hD hx1 hP hS (lv_sub hl [1, 0] rfl) (fun {H locs ls} hP hS hl => ?_)
  refine lv_iconst (v := 0) hx hb dX5_joinsWires_22 (by decide) ?_
  refine lv_istore_n (lv' := [(1, .int 0), (0, .ref (q 42))]) hx hb dX5_joinsWires_23 rfl hl (by decide) rfl (fun ls hl => ?_)
  obtain ⟨x2, hx2, hf⟩ := bd_some hf
  refine t_X5_joinsWires_24 C hD hx2 hP hS (lv_sub hl [1, 0] rfl) (fun {H locs ls} hP hS hl => ?_)
  refine lv_iconst (v := 0) hx hb dX5_joinsWires_158 (by decide) ?_
  refine lv_istore_n (lv' := [(1, .int 0), (0, .ref (q 42))]) hx hb dX5_joinsWires_159 rfl hl (by decide) rfl (fun ls hl => ?_)
  obtain ⟨x3, hx3, hf⟩ := bd_some hf
  refine t_X5_joinsWires_160 C hD hx3 hP hS (lv_sub hl [1, 0] rfl) (fun {H locs ls} hP hS hl => ?_)
  cases hf
  exact q_vret C hP hS rfl dX5_joinsWires_251

-- X5_facing
def m_facing (st : OSt) (a1 : Int32) : Option (Int32) := bd (m_linkOf st (3 * a1)) fun x1 => if 1000 ≤ x1 then some (-1) else if (x1 - x1 / 3 * 3) = 0 then some (x1 / 3) else some (-1)
abbrev rmX5_facing : Room := { frames := 1, cells := 0, slots := 0, locals := 21 }
theorem hdX5_facing : yX5_facing.cls = RX5 ∧ yX5_facing.cls ≠ "java/lang/invoke/MethodHandle" ∧ yX5_facing.cls ≠ "java/lang/invoke/VarHandle" ∧ (parseMethodDescriptor yX5_facing.desc).map (fun d => d.parameters.length) = some 1 := by decide +kernel
set_option maxHeartbeats 4000000 in
set_option maxRecDepth 100000 in
theorem c_X5_facing {l : Launch} {G : Gx} {q : Nat → Nat} {st : OSt} {a1 : Int32} {x : Int32} (hf : m_facing st a1 = some x) : QM l G yX5_facing wsX5_facing rmX5_facing [.ref (q 42), .int a1] (wM G q st) (wM G q st) (some (.int x)) := by
  refine QM.of (cc := cX5_facing) (maxL := 3) (ret := (some .int)) (by decide) rfl (Nat.le_of_ble_eq_true rfl) ?_
  intro p e s m below meth c A ls C hD hP hS hl
  have hx := C.1
  have hb := C.2.1
  have hl : lv_has ls 3 [(0, .ref (q 42)), (1, .int a1)] := hl
  unfold m_facing at hf
  refine lv_aload_n hx hb dX5_facing_0 rfl (lv_at hl 0 rfl) ?_
  refine lv_iconst (v := 3) hx hb dX5_facing_1 (by decide) ?_
  refine lv_iload_n hx hb dX5_facing_2 rfl (lv_at hl 1 rfl) ?_
  refine lv_imul hx hb dX5_facing_3 ?_
  obtain ⟨x1, hx1, hf⟩ := bd_some hf
  refine q_Vi C (rc := (RX5, TX5, 42)) (q0 := 0) (ci := 5) (ws' := wM G q st) (wr := []) (c_X5_linkOf hx1) gX5_facing_X5_linkOf rfl ⟨rfl, rfl⟩ hdX5_linkOf ⟨(Nat.le_of_ble_eq_true rfl), (Nat.le_of_ble_eq_true rfl)⟩ rfl hP (dd_M hD) hS rfl rfl (List.Perm.refl _) (List.Perm.refl _) hl.1 (Nat.le_of_ble_eq_true rfl) ⟨Nat.zero_le _, Nat.zero_le _⟩ rfl dX5_facing_4 (fun H locs hP hS => ?_)
  refine lv_istore_n (lv' := [(2, .int x1), (0, .ref (q 42)), (1, .int a1)]) hx hb dX5_facing_7 rfl hl (by decide) rfl (fun ls hl => ?_)
  refine lv_iload_n hx hb dX5_facing_8 rfl (lv_at hl 0 rfl) ?_
  refine lv_sipush (v := 1000) hx hb dX5_facing_9 (by decide) ?_
  refine lv_icmp_ge (tgt := 27) hx hb dX5_facing_12 (by decide) (fun c2 => ?_) (fun c2 => ?_)
  · have hf := if_t c2 hf
    refine lv_iconst (v := (-1)) hx hb dX5_facing_27 (by decide) ?_
    cases hf
    exact q_iret C hP hS rfl dX5_facing_28
  · have hf := if_f c2 hf
    refine lv_iload_n hx hb dX5_facing_15 rfl (lv_at hl 0 rfl) ?_
    refine lv_iconst (v := 3) hx hb dX5_facing_16 (by decide) ?_
    refine lv_irem hx hb dX5_facing_17 (by decide) ?_
    refine lv_if_ne (tgt := 27) hx hb dX5_facing_18 (by decide) (fun c3 => ?_) (fun c3 => ?_)
    · have hf := if_f c3 hf
      refine lv_iconst (v := (-1)) hx hb dX5_facing_27 (by decide) ?_
      cases hf
      exact q_iret C hP hS rfl dX5_facing_28
    · have hf := if_t c3 hf
      refine lv_iload_n hx hb dX5_facing_21 rfl (lv_at hl 0 rfl) ?_
      refine lv_iconst (v := 3) hx hb dX5_facing_22 (by decide) ?_
      refine lv_idiv hx hb dX5_facing_23 (by decide) ?_
      refine lv_goto (tgt := 28) hx hb dX5_facing_24 (by decide) ?_
      cases hf
      exact q_iret C hP hS rfl dX5_facing_28

-- X5_isPair
def m_isPair (st : OSt) (a1 : Int32) : Option (Int32) := bd (m_isNode st a1) fun x1 => if x1 = 0 then some 0 else bd (m_facing st a1) fun x3 => if x3 ≤ a1 then some 0 else some 1
abbrev rmX5_isPair : Room := { frames := 2, cells := 0, slots := 0, locals := 43 }
theorem hdX5_isPair : yX5_isPair.cls = RX5 ∧ yX5_isPair.cls ≠ "java/lang/invoke/MethodHandle" ∧ yX5_isPair.cls ≠ "java/lang/invoke/VarHandle" ∧ (parseMethodDescriptor yX5_isPair.desc).map (fun d => d.parameters.length) = some 1 := by decide +kernel
set_option maxHeartbeats 4000000 in
set_option maxRecDepth 100000 in
theorem c_X5_isPair {l : Launch} {G : Gx} {q : Nat → Nat} {st : OSt} {a1 : Int32} {x : Int32} (hf : m_isPair st a1 = some x) : QM l G yX5_isPair wsX5_isPair rmX5_isPair [.ref (q 42), .int a1] (wM G q st) (wM G q st) (some (.int x)) := by
  refine QM.of (cc := cX5_isPair) (maxL := 2) (ret := (some .boolean)) (by decide) rfl (Nat.le_of_ble_eq_true rfl) ?_
  intro p e s m below meth c A ls C hD hP hS hl
  have hx := C.1
  have hb := C.2.1
  have hl : lv_has ls 2 [(0, .ref (q 42)), (1, .int a1)] := hl
  unfold m_isPair at hf
  refine lv_aload_n hx hb dX5_isPair_0 rfl (lv_at hl 0 rfl) ?_
  refine lv_iload_n hx hb dX5_isPair_1 rfl (lv_at hl 1 rfl) ?_
  obtain ⟨x1, hx1, hf⟩ := bd_some hf
  refine q_Vi C (rc := (RX5, TX5, 42)) (q0 := 0) (ci := 5) (ws' := wM G q st) (wr := []) (c_X5_isNode hx1) gX5_isPair_X5_isNode rfl ⟨rfl, rfl⟩ hdX5_isNode ⟨(Nat.le_of_ble_eq_true rfl), (Nat.le_of_ble_eq_true rfl)⟩ rfl hP (dd_M hD) hS rfl rfl (List.Perm.refl _) (List.Perm.refl _) hl.1 (Nat.le_of_ble_eq_true rfl) ⟨Nat.zero_le _, Nat.zero_le _⟩ rfl dX5_isPair_2 (fun H locs hP hS => ?_)
  refine lv_if_eq (tgt := 21) hx hb dX5_isPair_5 (by decide) (fun c2 => ?_) (fun c2 => ?_)
  · have hf := if_t c2 hf
    refine lv_iconst (v := 0) hx hb dX5_isPair_21 (by decide) ?_
    cases hf
    exact q_zret C hP hS rfl (gb_nar (Or.inl rfl)) dX5_isPair_22
  · have hf := if_f c2 hf
    refine lv_aload_n hx hb dX5_isPair_8 rfl (lv_at hl 0 rfl) ?_
    refine lv_iload_n hx hb dX5_isPair_9 rfl (lv_at hl 1 rfl) ?_
    obtain ⟨x3, hx3, hf⟩ := bd_some hf
    refine q_Vi C (rc := (RX5, TX5, 42)) (q0 := 0) (ci := 5) (ws' := wM G q st) (wr := []) (c_X5_facing hx3) gX5_isPair_X5_facing rfl ⟨rfl, rfl⟩ hdX5_facing ⟨(Nat.le_of_ble_eq_true rfl), (Nat.le_of_ble_eq_true rfl)⟩ rfl hP (dd_M hD) hS rfl rfl (List.Perm.refl _) (List.Perm.refl _) hl.1 (Nat.le_of_ble_eq_true rfl) ⟨Nat.zero_le _, Nat.zero_le _⟩ rfl dX5_isPair_10 (fun H locs hP hS => ?_)
    refine lv_iload_n hx hb dX5_isPair_13 rfl (lv_at hl 1 rfl) ?_
    refine lv_icmp_le (tgt := 21) hx hb dX5_isPair_14 (by decide) (fun c4 => ?_) (fun c4 => ?_)
    · have hf := if_t c4 hf
      refine lv_iconst (v := 0) hx hb dX5_isPair_21 (by decide) ?_
      cases hf
      exact q_zret C hP hS rfl (gb_nar (Or.inl rfl)) dX5_isPair_22
    · have hf := if_f c4 hf
      refine lv_iconst (v := 1) hx hb dX5_isPair_17 (by decide) ?_
      refine lv_goto (tgt := 22) hx hb dX5_isPair_18 (by decide) ?_
      cases hf
      exact q_zret C hP hS rfl (gb_nar (Or.inr rfl)) dX5_isPair_22

-- X5_ruleOf
def m_ruleOf (st : OSt) (a1 : Int32) : Option (Int32) := bd (m_kindOf st a1) fun x1 => bd (m_facing st a1) fun x2 => bd (m_kindOf st x2) fun x3 => if x1 = x3 then some x1 else if (x1 + x3) = 1 then some 3 else if (x1 + x3) = 2 then some 4 else some 5
abbrev rmX5_ruleOf : Room := { frames := 2, cells := 0, slots := 0, locals := 43 }
theorem hdX5_ruleOf : yX5_ruleOf.cls = RX5 ∧ yX5_ruleOf.cls ≠ "java/lang/invoke/MethodHandle" ∧ yX5_ruleOf.cls ≠ "java/lang/invoke/VarHandle" ∧ (parseMethodDescriptor yX5_ruleOf.desc).map (fun d => d.parameters.length) = some 1 := by decide +kernel
set_option maxHeartbeats 4000000 in
set_option maxRecDepth 100000 in
theorem c_X5_ruleOf {l : Launch} {G : Gx} {q : Nat → Nat} {st : OSt} {a1 : Int32} {x : Int32} (hf : m_ruleOf st a1 = some x) : QM l G yX5_ruleOf wsX5_ruleOf rmX5_ruleOf [.ref (q 42), .int a1] (wM G q st) (wM G q st) (some (.int x)) := by
  refine QM.of (cc := cX5_ruleOf) (maxL := 4) (ret := (some .int)) (by decide) rfl (Nat.le_of_ble_eq_true rfl) ?_
  intro p e s m below meth c A ls C hD hP hS hl
  have hx := C.1
  have hb := C.2.1
  have hl : lv_has ls 4 [(0, .ref (q 42)), (1, .int a1)] := hl
  unfold m_ruleOf at hf
  refine lv_aload_n hx hb dX5_ruleOf_0 rfl (lv_at hl 0 rfl) ?_
  refine lv_iload_n hx hb dX5_ruleOf_1 rfl (lv_at hl 1 rfl) ?_
  obtain ⟨x1, hx1, hf⟩ := bd_some hf
  refine q_Vi C (rc := (RX5, TX5, 42)) (q0 := 0) (ci := 5) (ws' := wM G q st) (wr := []) (c_X5_kindOf hx1) gX5_ruleOf_X5_kindOf rfl ⟨rfl, rfl⟩ hdX5_kindOf ⟨(Nat.le_of_ble_eq_true rfl), (Nat.le_of_ble_eq_true rfl)⟩ rfl hP (dd_M hD) hS rfl rfl (List.Perm.refl _) (List.Perm.refl _) hl.1 (Nat.le_of_ble_eq_true rfl) ⟨Nat.zero_le _, Nat.zero_le _⟩ rfl dX5_ruleOf_2 (fun H locs hP hS => ?_)
  refine lv_istore_n (lv' := [(2, .int x1), (0, .ref (q 42)), (1, .int a1)]) hx hb dX5_ruleOf_5 rfl hl (by decide) rfl (fun ls hl => ?_)
  refine lv_aload_n hx hb dX5_ruleOf_6 rfl (lv_at hl 1 rfl) ?_
  refine lv_aload_n hx hb dX5_ruleOf_7 rfl (lv_at hl 1 rfl) ?_
  refine lv_iload_n hx hb dX5_ruleOf_8 rfl (lv_at hl 2 rfl) ?_
  obtain ⟨x2, hx2, hf⟩ := bd_some hf
  refine q_Vi C (rc := (RX5, TX5, 42)) (q0 := 0) (ci := 5) (ws' := wM G q st) (wr := []) (c_X5_facing hx2) gX5_ruleOf_X5_facing rfl ⟨rfl, rfl⟩ hdX5_facing ⟨(Nat.le_of_ble_eq_true rfl), (Nat.le_of_ble_eq_true rfl)⟩ rfl hP (dd_M hD) hS rfl rfl (List.Perm.refl _) (List.Perm.refl _) hl.1 (Nat.le_of_ble_eq_true rfl) ⟨Nat.zero_le _, Nat.zero_le _⟩ rfl dX5_ruleOf_9 (fun H locs hP hS => ?_)
  obtain ⟨x3, hx3, hf⟩ := bd_some hf
  refine q_Vi C (rc := (RX5, TX5, 42)) (q0 := 0) (ci := 5) (ws' := wM G q st) (wr := []) (c_X5_kindOf hx3) gX5_ruleOf_X5_kindOf rfl ⟨rfl, rfl⟩ hdX5_kindOf ⟨(Nat.le_of_ble_eq_true rfl), (Nat.le_of_ble_eq_true rfl)⟩ rfl hP (dd_M hD) hS rfl rfl (List.Perm.refl _) (List.Perm.refl _) hl.1 (Nat.le_of_ble_eq_true rfl) ⟨Nat.zero_le _, Nat.zero_le _⟩ rfl dX5_ruleOf_12 (fun H locs hP hS => ?_)
  refine lv_istore_n (lv' := [(3, .int x3), (2, .int x1), (0, .ref (q 42)), (1, .int a1)]) hx hb dX5_ruleOf_15 rfl hl (by decide) rfl (fun ls hl => ?_)
  refine lv_iload_n hx hb dX5_ruleOf_16 rfl (lv_at hl 1 rfl) ?_
  refine lv_iload_n hx hb dX5_ruleOf_17 rfl (lv_at hl 0 rfl) ?_
  refine lv_icmp_ne (tgt := 25) hx hb dX5_ruleOf_18 (by decide) (fun c4 => ?_) (fun c4 => ?_)
  · have hf := if_f c4 hf
    refine lv_iload_n hx hb dX5_ruleOf_25 rfl (lv_at hl 1 rfl) ?_
    refine lv_iload_n hx hb dX5_ruleOf_26 rfl (lv_at hl 0 rfl) ?_
    refine lv_iadd hx hb dX5_ruleOf_27 ?_
    refine lv_iconst (v := 1) hx hb dX5_ruleOf_28 (by decide) ?_
    refine lv_icmp_ne (tgt := 36) hx hb dX5_ruleOf_29 (by decide) (fun c5 => ?_) (fun c5 => ?_)
    · have hf := if_f c5 hf
      refine lv_iload_n hx hb dX5_ruleOf_36 rfl (lv_at hl 1 rfl) ?_
      refine lv_iload_n hx hb dX5_ruleOf_37 rfl (lv_at hl 0 rfl) ?_
      refine lv_iadd hx hb dX5_ruleOf_38 ?_
      refine lv_iconst (v := 2) hx hb dX5_ruleOf_39 (by decide) ?_
      refine lv_icmp_ne (tgt := 47) hx hb dX5_ruleOf_40 (by decide) (fun c6 => ?_) (fun c6 => ?_)
      · have hf := if_f c6 hf
        refine lv_iconst (v := 5) hx hb dX5_ruleOf_47 (by decide) ?_
        cases hf
        exact q_iret C hP hS rfl dX5_ruleOf_48
      · have hf := if_t c6 hf
        refine lv_iconst (v := 4) hx hb dX5_ruleOf_43 (by decide) ?_
        refine lv_goto (tgt := 48) hx hb dX5_ruleOf_44 (by decide) ?_
        cases hf
        exact q_iret C hP hS rfl dX5_ruleOf_48
    · have hf := if_t c5 hf
      refine lv_iconst (v := 3) hx hb dX5_ruleOf_32 (by decide) ?_
      refine lv_goto (tgt := 48) hx hb dX5_ruleOf_33 (by decide) ?_
      cases hf
      exact q_iret C hP hS rfl dX5_ruleOf_48
  · have hf := if_t c4 hf
    refine lv_iload_n hx hb dX5_ruleOf_21 rfl (lv_at hl 1 rfl) ?_
    refine lv_goto (tgt := 48) hx hb dX5_ruleOf_22 (by decide) ?_
    cases hf
    exact q_iret C hP hS rfl dX5_ruleOf_48

-- X5_canReduce
def m_canReduce (st : OSt) (a1 : Int32) : Option (Int32) := bd (m_ruleOf st a1) fun x1 => if x1 < 5 then some 1 else bd (m_hasRoom st 2) fun x3 => if x3 = 0 then some 0 else some 1
abbrev rmX5_canReduce : Room := { frames := 3, cells := 0, slots := 0, locals := 66 }
theorem hdX5_canReduce : yX5_canReduce.cls = RX5 ∧ yX5_canReduce.cls ≠ "java/lang/invoke/MethodHandle" ∧ yX5_canReduce.cls ≠ "java/lang/invoke/VarHandle" ∧ (parseMethodDescriptor yX5_canReduce.desc).map (fun d => d.parameters.length) = some 1 := by decide +kernel
set_option maxHeartbeats 4000000 in
set_option maxRecDepth 100000 in
theorem c_X5_canReduce {l : Launch} {G : Gx} {q : Nat → Nat} {st : OSt} {a1 : Int32} {x : Int32} (hf : m_canReduce st a1 = some x) : QM l G yX5_canReduce wsX5_canReduce rmX5_canReduce [.ref (q 42), .int a1] (wM G q st) (wM G q st) (some (.int x)) := by
  refine QM.of (cc := cX5_canReduce) (maxL := 2) (ret := (some .boolean)) (by decide) rfl (Nat.le_of_ble_eq_true rfl) ?_
  intro p e s m below meth c A ls C hD hP hS hl
  have hx := C.1
  have hb := C.2.1
  have hl : lv_has ls 2 [(0, .ref (q 42)), (1, .int a1)] := hl
  unfold m_canReduce at hf
  refine lv_aload_n hx hb dX5_canReduce_0 rfl (lv_at hl 0 rfl) ?_
  refine lv_iload_n hx hb dX5_canReduce_1 rfl (lv_at hl 1 rfl) ?_
  obtain ⟨x1, hx1, hf⟩ := bd_some hf
  refine q_Vi C (rc := (RX5, TX5, 42)) (q0 := 0) (ci := 5) (ws' := wM G q st) (wr := []) (c_X5_ruleOf hx1) gX5_canReduce_X5_ruleOf rfl ⟨rfl, rfl⟩ hdX5_ruleOf ⟨(Nat.le_of_ble_eq_true rfl), (Nat.le_of_ble_eq_true rfl)⟩ rfl hP (dd_M hD) hS rfl rfl (List.Perm.refl _) (List.Perm.refl _) hl.1 (Nat.le_of_ble_eq_true rfl) ⟨Nat.zero_le _, Nat.zero_le _⟩ rfl dX5_canReduce_2 (fun H locs hP hS => ?_)
  refine lv_iconst (v := 5) hx hb dX5_canReduce_5 (by decide) ?_
  refine lv_icmp_lt (tgt := 17) hx hb dX5_canReduce_6 (by decide) (fun c2 => ?_) (fun c2 => ?_)
  · have hf := if_t c2 hf
    refine lv_iconst (v := 1) hx hb dX5_canReduce_17 (by decide) ?_
    refine lv_goto (tgt := 22) hx hb dX5_canReduce_18 (by decide) ?_
    cases hf
    exact q_zret C hP hS rfl (gb_nar (Or.inr rfl)) dX5_canReduce_22
  · have hf := if_f c2 hf
    refine lv_aload_n hx hb dX5_canReduce_9 rfl (lv_at hl 0 rfl) ?_
    refine lv_iconst (v := 2) hx hb dX5_canReduce_10 (by decide) ?_
    obtain ⟨x3, hx3, hf⟩ := bd_some hf
    refine q_Vi C (rc := (RX5, TX5, 42)) (q0 := 0) (ci := 5) (ws' := wM G q st) (wr := []) (c_X5_hasRoom hx3) gX5_canReduce_X5_hasRoom rfl ⟨rfl, rfl⟩ hdX5_hasRoom ⟨(Nat.le_of_ble_eq_true rfl), (Nat.le_of_ble_eq_true rfl)⟩ rfl hP (dd_M hD) hS rfl rfl (List.Perm.refl _) (List.Perm.refl _) hl.1 (Nat.le_of_ble_eq_true rfl) ⟨Nat.zero_le _, Nat.zero_le _⟩ rfl dX5_canReduce_11 (fun H locs hP hS => ?_)
    refine lv_if_eq (tgt := 21) hx hb dX5_canReduce_14 (by decide) (fun c4 => ?_) (fun c4 => ?_)
    · have hf := if_t c4 hf
      refine lv_iconst (v := 0) hx hb dX5_canReduce_21 (by decide) ?_
      cases hf
      exact q_zret C hP hS rfl (gb_nar (Or.inl rfl)) dX5_canReduce_22
    · have hf := if_f c4 hf
      refine lv_iconst (v := 1) hx hb dX5_canReduce_17 (by decide) ?_
      refine lv_goto (tgt := 22) hx hb dX5_canReduce_18 (by decide) ?_
      cases hf
      exact q_zret C hP hS rfl (gb_nar (Or.inr rfl)) dX5_canReduce_22

-- X5_pairs
def m_pairs_4 : Nat → OSt → Int32 → Int32 → Int32 → Option (Int32)
  | 0, _, _, _, _ => none
  | n + 1, st, v1, v2, v3 => if 300 ≤ v3 then some v2 else bd (m_isPair st v3) fun x3 => if x3 = 0 then m_pairs_4 n st v1 (v2 + 0) (v3 + 1) else if v1 = 0 then m_pairs_4 n st v1 (v2 + 1) (v3 + 1) else bd (m_canReduce st v3) fun x6 => if x6 = 0 then m_pairs_4 n st v1 (v2 + 0) (v3 + 1) else m_pairs_4 n st v1 (v2 + 1) (v3 + 1)
def m_pairs (st : OSt) (a1 : Int32) : Option (Int32) := bd (m_pairs_4 20000 st a1 0 0) fun x1 => some x1
abbrev rmX5_pairs : Room := { frames := 4, cells := 0, slots := 0, locals := 87 }
theorem hdX5_pairs : yX5_pairs.cls = RX5 ∧ yX5_pairs.cls ≠ "java/lang/invoke/MethodHandle" ∧ yX5_pairs.cls ≠ "java/lang/invoke/VarHandle" ∧ (parseMethodDescriptor yX5_pairs.desc).map (fun d => d.parameters.length) = some 1 := by decide +kernel
set_option maxHeartbeats 4000000 in
set_option maxRecDepth 100000 in
theorem t_X5_pairs_4 {p : Program} {l : Launch} {e : Env} {s : State} {m : MethodId} {args : Array Value} {below : List Frame} {meth : Method} {c : Code} {Q : State → Prop} {A : Nat → Prop} {G : Gx} {q : Nat → Nat} {st0 : OSt} (C : Cx p s m args meth c G cX5_pairs wsX5_pairs RX5 (some .int) 4 A) (hD : va_D A (wM G q st0)) :
    ∀ {n : Nat} {st : OSt} {v1 : Int32} {v2 : Int32} {v3 : Int32} {x : Int32}, m_pairs_4 n st v1 v2 v3 = some x → ∀ {H : Heap} {locs : List Loc} {ls : Array Slot}, va_P G.1 vwCl (wM G q st) H → va_S A s.heap H locs → lv_has ls 4 [(0, .ref (q 42)), (1, .int v1), (2, .int v2), (3, .int v3)] → (∀ {H : Heap} {locs : List Loc} {ls : Array Slot}, va_P G.1 vwCl (wM G q st) H → va_S A s.heap H locs → lv_has ls 4 [(2, .int x)] → W p l e rmX5_pairs s m args below meth c H locs 0 0 Q (F0 m 45 ls [])) → W p l e rmX5_pairs s m args below meth c H locs 0 0 Q (F0 m 4 ls []) := by
  have hx := C.1
  have hb := C.2.1
  intro n
  induction n with
  | zero => intro st v1 v2 v3 x hf; cases hf
  | succ n ih =>
    intro st v1 v2 v3 x hf H locs ls hP hS hl kk
    rw [m_pairs_4] at hf
    refine lv_iload_n hx hb dX5_pairs_4 rfl (lv_at hl 3 rfl) ?_
    refine lv_sipush (v := 300) hx hb dX5_pairs_5 (by decide) ?_
    refine lv_icmp_ge (tgt := 45) hx hb dX5_pairs_8 (by decide) (fun c2 => ?_) (fun c2 => ?_)
    · have hf := if_t c2 hf
      cases hf
      exact kk hP hS (lv_sub hl [2] rfl)
    · have hf := if_f c2 hf
      refine lv_iload_n hx hb dX5_pairs_11 rfl (lv_at hl 2 rfl) ?_
      refine lv_aload_n hx hb dX5_pairs_12 rfl (lv_at hl 0 rfl) ?_
      refine lv_iload_n hx hb dX5_pairs_13 rfl (lv_at hl 3 rfl) ?_
      obtain ⟨x3, hx3, hf⟩ := bd_some hf
      refine q_Vi C (rc := (RX5, TX5, 42)) (q0 := 0) (ci := 5) (ws' := wM G q st) (wr := []) (c_X5_isPair hx3) gX5_pairs_X5_isPair rfl ⟨rfl, rfl⟩ hdX5_isPair ⟨(Nat.le_of_ble_eq_true rfl), (Nat.le_of_ble_eq_true rfl)⟩ rfl hP (dd_M hD) hS rfl rfl (List.Perm.refl _) (List.Perm.refl _) hl.1 (Nat.le_of_ble_eq_true rfl) ⟨Nat.zero_le _, Nat.zero_le _⟩ rfl dX5_pairs_14 (fun H locs hP hS => ?_)
      refine lv_if_eq (tgt := 36) hx hb dX5_pairs_17 (by decide) (fun c4 => ?_) (fun c4 => ?_)
      · have hf := if_t c4 hf
        refine lv_iconst (v := 0) hx hb dX5_pairs_36 (by decide) ?_
        refine lv_iadd hx hb dX5_pairs_37 ?_
        refine lv_istore_n (lv' := [(2, .int (v2 + 0)), (0, .ref (q 42)), (1, .int v1), (3, .int v3)]) hx hb dX5_pairs_38 rfl hl (by decide) rfl (fun ls hl => ?_)
        refine lv_iinc (v := (v3 + 1)) (lv' := [(3, .int (v3 + 1)), (2, .int (v2 + 0)), (0, .ref (q 42)), (1, .int v1)]) hx hb dX5_pairs_39 hl (k := 3) rfl rfl (by decide) rfl (fun ls hl => ?_)
        refine lv_goto (tgt := 4) hx hb dX5_pairs_42 (by decide) ?_
        exact ih hf hP hS (lv_sub hl [2, 3, 1, 0] rfl) kk
      · have hf := if_f c4 hf
        refine lv_iload_n hx hb dX5_pairs_20 rfl (lv_at hl 1 rfl) ?_
        refine lv_if_eq (tgt := 32) hx hb dX5_pairs_21 (by decide) (fun c5 => ?_) (fun c5 => ?_)
        · have hf := if_t c5 hf
          refine lv_iconst (v := 1) hx hb dX5_pairs_32 (by decide) ?_
          refine lv_goto (tgt := 37) hx hb dX5_pairs_33 (by decide) ?_
          refine lv_iadd hx hb dX5_pairs_37 ?_
          refine lv_istore_n (lv' := [(2, .int (v2 + 1)), (0, .ref (q 42)), (1, .int v1), (3, .int v3)]) hx hb dX5_pairs_38 rfl hl (by decide) rfl (fun ls hl => ?_)
          refine lv_iinc (v := (v3 + 1)) (lv' := [(3, .int (v3 + 1)), (2, .int (v2 + 1)), (0, .ref (q 42)), (1, .int v1)]) hx hb dX5_pairs_39 hl (k := 3) rfl rfl (by decide) rfl (fun ls hl => ?_)
          refine lv_goto (tgt := 4) hx hb dX5_pairs_42 (by decide) ?_
          exact ih hf hP hS (lv_sub hl [2, 3, 1, 0] rfl) kk
        · have hf := if_f c5 hf
          refine lv_aload_n hx hb dX5_pairs_24 rfl (lv_at hl 0 rfl) ?_
          refine lv_iload_n hx hb dX5_pairs_25 rfl (lv_at hl 3 rfl) ?_
          obtain ⟨x6, hx6, hf⟩ := bd_some hf
          refine q_Vi C (rc := (RX5, TX5, 42)) (q0 := 0) (ci := 5) (ws' := wM G q st) (wr := []) (c_X5_canReduce hx6) gX5_pairs_X5_canReduce rfl ⟨rfl, rfl⟩ hdX5_canReduce ⟨(Nat.le_of_ble_eq_true rfl), (Nat.le_of_ble_eq_true rfl)⟩ rfl hP (dd_M hD) hS rfl rfl (List.Perm.refl _) (List.Perm.refl _) hl.1 (Nat.le_of_ble_eq_true rfl) ⟨Nat.zero_le _, Nat.zero_le _⟩ rfl dX5_pairs_26 (fun H locs hP hS => ?_)
          refine lv_if_eq (tgt := 36) hx hb dX5_pairs_29 (by decide) (fun c7 => ?_) (fun c7 => ?_)
          · have hf := if_t c7 hf
            refine lv_iconst (v := 0) hx hb dX5_pairs_36 (by decide) ?_
            refine lv_iadd hx hb dX5_pairs_37 ?_
            refine lv_istore_n (lv' := [(2, .int (v2 + 0)), (0, .ref (q 42)), (1, .int v1), (3, .int v3)]) hx hb dX5_pairs_38 rfl hl (by decide) rfl (fun ls hl => ?_)
            refine lv_iinc (v := (v3 + 1)) (lv' := [(3, .int (v3 + 1)), (2, .int (v2 + 0)), (0, .ref (q 42)), (1, .int v1)]) hx hb dX5_pairs_39 hl (k := 3) rfl rfl (by decide) rfl (fun ls hl => ?_)
            refine lv_goto (tgt := 4) hx hb dX5_pairs_42 (by decide) ?_
            exact ih hf hP hS (lv_sub hl [2, 3, 1, 0] rfl) kk
          · have hf := if_f c7 hf
            refine lv_iconst (v := 1) hx hb dX5_pairs_32 (by decide) ?_
            refine lv_goto (tgt := 37) hx hb dX5_pairs_33 (by decide) ?_
            refine lv_iadd hx hb dX5_pairs_37 ?_
            refine lv_istore_n (lv' := [(2, .int (v2 + 1)), (0, .ref (q 42)), (1, .int v1), (3, .int v3)]) hx hb dX5_pairs_38 rfl hl (by decide) rfl (fun ls hl => ?_)
            refine lv_iinc (v := (v3 + 1)) (lv' := [(3, .int (v3 + 1)), (2, .int (v2 + 1)), (0, .ref (q 42)), (1, .int v1)]) hx hb dX5_pairs_39 hl (k := 3) rfl rfl (by decide) rfl (fun ls hl => ?_)
            refine lv_goto (tgt := 4) hx hb dX5_pairs_42 (by decide) ?_
            exact ih hf hP hS (lv_sub hl [2, 3, 1, 0] rfl) kk
set_option maxHeartbeats 4000000 in
set_option maxRecDepth 100000 in
theorem c_X5_pairs {l : Launch} {G : Gx} {q : Nat → Nat} {st : OSt} {a1 : Int32} {x : Int32} (hf : m_pairs st a1 = some x) : QM l G yX5_pairs wsX5_pairs rmX5_pairs [.ref (q 42), .int a1] (wM G q st) (wM G q st) (some (.int x)) := by
  refine QM.of (cc := cX5_pairs) (maxL := 4) (ret := (some .int)) (by decide) rfl (Nat.le_of_ble_eq_true rfl) ?_
  intro p e s m below meth c A ls C hD hP hS hl
  have hx := C.1
  have hb := C.2.1
  have hl : lv_has ls 4 [(0, .ref (q 42)), (1, .int a1)] := hl
  unfold m_pairs at hf
  refine lv_iconst (v := 0) hx hb dX5_pairs_0 (by decide) ?_
  refine lv_istore_n (lv' := [(2, .int 0), (0, .ref (q 42)), (1, .int a1)]) hx hb dX5_pairs_1 rfl hl (by decide) rfl (fun ls hl => ?_)
  refine lv_iconst (v := 0) hx hb dX5_pairs_2 (by decide) ?_
  refine lv_istore_n (lv' := [(3, .int 0), (2, .int 0), (0, .ref (q 42)), (1, .int a1)]) hx hb dX5_pairs_3 rfl hl (by decide) rfl (fun ls hl => ?_)
  obtain ⟨x1, hx1, hf⟩ := bd_some hf
  refine t_X5_pairs_4 C hD hx1 hP hS (lv_sub hl [2, 3, 1, 0] rfl) (fun {H locs ls} hP hS hl => ?_)
  refine lv_iload_n hx hb dX5_pairs_45 rfl (lv_at hl 0 rfl) ?_
  cases hf
  exact q_iret C hP hS rfl dX5_pairs_46

-- X5_oldOf
theorem hiX5_oldOf_X5 : ∀ w ∈ u_ws RX5 TX5 42, w ∈ wsX5_oldOf := mem_run (i := 2) (by decide +kernel)
theorem wdX5_oldOf_1 : (Cond.fieldLink RX5 40 "CombinatorRingModel" "old" "[I") ∈ wsX5_oldOf := List.mem_of_getElem? (i := 1) rfl
def m_oldOf_2 : Nat → OSt → Int32 → Int32 → Option (Int32)
  | 0, _, _, _ => none
  | n + 1, st, v1, v2 => if 4 ≤ v2 then some (-1) else gd v2 4 (if (st.2 20 v2.toNatClampNeg) = v1 then some v2 else m_oldOf_2 n st v1 (v2 + 1))
def m_oldOf (st : OSt) (a1 : Int32) : Option (Int32) := m_oldOf_2 20000 st a1 0
abbrev rmX5_oldOf : Room := { frames := 0, cells := 0, slots := 0, locals := 0 }
theorem hdX5_oldOf : yX5_oldOf.cls = RX5 ∧ yX5_oldOf.cls ≠ "java/lang/invoke/MethodHandle" ∧ yX5_oldOf.cls ≠ "java/lang/invoke/VarHandle" ∧ (parseMethodDescriptor yX5_oldOf.desc).map (fun d => d.parameters.length) = some 1 := by decide +kernel
set_option maxHeartbeats 4000000 in
set_option maxRecDepth 100000 in
theorem t_X5_oldOf_2 {p : Program} {l : Launch} {e : Env} {s : State} {m : MethodId} {args : Array Value} {below : List Frame} {meth : Method} {c : Code} {A : Nat → Prop} {G : Gx} {q : Nat → Nat} {st0 : OSt} (C : Cx p s m args meth c G cX5_oldOf wsX5_oldOf RX5 (some .int) 3 A) (hD : va_D A (wM G q st0)) :
    ∀ {n : Nat} {st : OSt} {v1 : Int32} {v2 : Int32} {x : Int32}, m_oldOf_2 n st v1 v2 = some x → ∀ {H : Heap} {locs : List Loc} {ls : Array Slot}, va_P G.1 vwCl (wM G q st) H → va_S A s.heap H locs → lv_has ls 3 [(0, .ref (q 42)), (1, .int v1), (2, .int v2)] → W p l e rmX5_oldOf s m args below meth c H locs 0 0 (MQ below (qE G A (wM G q st) (some (.int x))) args s 0 0 A) (F0 m 2 ls []) := by
  have hx := C.1
  have hb := C.2.1
  intro n
  induction n with
  | zero => intro st v1 v2 x hf; cases hf
  | succ n ih =>
    intro st v1 v2 x hf H locs ls hP hS hl
    rw [m_oldOf_2] at hf
    refine lv_iload_n hx hb dX5_oldOf_2 rfl (lv_at hl 2 rfl) ?_
    refine lv_iconst (v := 4) hx hb dX5_oldOf_3 (by decide) ?_
    refine lv_icmp_ge (tgt := 25) hx hb dX5_oldOf_4 (by decide) (fun c1 => ?_) (fun c1 => ?_)
    · have hf := if_t c1 hf
      refine lv_iconst (v := (-1)) hx hb dX5_oldOf_25 (by decide) ?_
      cases hf
      exact q_iret C hP hS rfl dX5_oldOf_26
    · have hf := if_f c1 hf
      refine lv_aload_n hx hb dX5_oldOf_7 rfl (lv_at hl 0 rfl) ?_
      refine q_get C hP wM_o rfl hiX5_oldOf_X5 20 (by decide) wdX5_oldOf_1 rfl dX5_oldOf_8 ?_
      refine lv_iload_n hx hb dX5_oldOf_11 rfl (lv_at hl 2 rfl) ?_
      obtain ⟨hin, hf⟩ := gd_some hf
      refine q_iald C hP wM_a_20 rfl hin dX5_oldOf_12 ?_
      refine lv_iload_n hx hb dX5_oldOf_13 rfl (lv_at hl 1 rfl) ?_
      refine lv_icmp_ne (tgt := 19) hx hb dX5_oldOf_14 (by decide) (fun c2 => ?_) (fun c2 => ?_)
      · have hf := if_f c2 hf
        refine lv_iinc (v := (v2 + 1)) (lv' := [(2, .int (v2 + 1)), (0, .ref (q 42)), (1, .int v1)]) hx hb dX5_oldOf_19 hl (k := 2) rfl rfl (by decide) rfl (fun ls hl => ?_)
        refine lv_goto (tgt := 2) hx hb dX5_oldOf_22 (by decide) ?_
        exact ih hf hP hS (lv_sub hl [1, 2, 0] rfl)
      · have hf := if_t c2 hf
        refine lv_iload_n hx hb dX5_oldOf_17 rfl (lv_at hl 2 rfl) ?_
        cases hf
        exact q_iret C hP hS rfl dX5_oldOf_18
set_option maxHeartbeats 4000000 in
set_option maxRecDepth 100000 in
theorem c_X5_oldOf {l : Launch} {G : Gx} {q : Nat → Nat} {st : OSt} {a1 : Int32} {x : Int32} (hf : m_oldOf st a1 = some x) : QM l G yX5_oldOf wsX5_oldOf rmX5_oldOf [.ref (q 42), .int a1] (wM G q st) (wM G q st) (some (.int x)) := by
  refine QM.of (cc := cX5_oldOf) (maxL := 3) (ret := (some .int)) (by decide) rfl (Nat.le_of_ble_eq_true rfl) ?_
  intro p e s m below meth c A ls C hD hP hS hl
  have hx := C.1
  have hb := C.2.1
  have hl : lv_has ls 3 [(0, .ref (q 42)), (1, .int a1)] := hl
  unfold m_oldOf at hf
  refine lv_iconst (v := 0) hx hb dX5_oldOf_0 (by decide) ?_
  refine lv_istore_n (lv' := [(2, .int 0), (0, .ref (q 42)), (1, .int a1)]) hx hb dX5_oldOf_1 rfl hl (by decide) rfl (fun ls hl => ?_)
  exact t_X5_oldOf_2 C hD hf hP hS (lv_sub hl [1, 2, 0] rfl)

-- X5_hands
theorem hiX5_hands_X5 : ∀ w ∈ u_ws RX5 TX5 42, w ∈ wsX5_hands := mem_run (i := 14) (by decide +kernel)
theorem wdX5_hands_1 : (Cond.fieldLink RX5 43 "CombinatorRingModel" "was" "[I") ∈ wsX5_hands := List.mem_of_getElem? (i := 1) rfl
theorem wdX5_hands_2 : (Cond.fieldLink RX5 46 "CombinatorRingModel" "stands" "[I") ∈ wsX5_hands := List.mem_of_getElem? (i := 2) rfl
def m_hands_2 : Nat → OSt → Int32 → Int32 → Option (OSt)
  | 0, _, _, _ => none
  | n + 1, st, v1, v2 => if v1 ≤ v2 then some st else gd v2 4 (bd (m_oldOf st (st.2 21 v2.toNatClampNeg)) fun x3 => gd v2 4 (if x3 = (-1) then gd v2 4 (bd (m_links st (st.2 22 v2.toNatClampNeg) (st.2 21 v2.toNatClampNeg)) fun x6 => m_hands_2 n x6 v1 (v2 + 1)) else gd x3 4 (bd (m_links st (st.2 22 v2.toNatClampNeg) (st.2 22 x3.toNatClampNeg)) fun x5 => m_hands_2 n x5 v1 (v2 + 1))))
def m_hands (st : OSt) (a1 : Int32) : Option (OSt) := bd (m_hands_2 20000 st a1 0) fun x1 => some x1
abbrev rmX5_hands : Room := { frames := 1, cells := 0, slots := 0, locals := 22 }
theorem hdX5_hands : yX5_hands.cls = RX5 ∧ yX5_hands.cls ≠ "java/lang/invoke/MethodHandle" ∧ yX5_hands.cls ≠ "java/lang/invoke/VarHandle" ∧ (parseMethodDescriptor yX5_hands.desc).map (fun d => d.parameters.length) = some 1 := by decide +kernel
set_option maxHeartbeats 4000000 in
set_option maxRecDepth 100000 in
theorem t_X5_hands_2 {p : Program} {l : Launch} {e : Env} {s : State} {m : MethodId} {args : Array Value} {below : List Frame} {meth : Method} {c : Code} {Q : State → Prop} {A : Nat → Prop} {G : Gx} {q : Nat → Nat} {st0 : OSt} (C : Cx p s m args meth c G cX5_hands wsX5_hands RX5 none 4 A) (hD : va_D A (wM G q st0)) :
    ∀ {n : Nat} {st : OSt} {v1 : Int32} {v2 : Int32} {x : OSt}, m_hands_2 n st v1 v2 = some x → ∀ {H : Heap} {locs : List Loc} {ls : Array Slot}, va_P G.1 vwCl (wM G q st) H → va_S A s.heap H locs → lv_has ls 4 [(0, .ref (q 42)), (1, .int v1), (2, .int v2)] → (∀ {H : Heap} {locs : List Loc} {ls : Array Slot}, va_P G.1 vwCl (wM G q x) H → va_S A s.heap H locs → lv_has ls 4 [] → W p l e rmX5_hands s m args below meth c H locs 0 0 Q (F0 m 54 ls [])) → W p l e rmX5_hands s m args below meth c H locs 0 0 Q (F0 m 2 ls []) := by
  have hx := C.1
  have hb := C.2.1
  intro n
  induction n with
  | zero => intro st v1 v2 x hf; cases hf
  | succ n ih =>
    intro st v1 v2 x hf H locs ls hP hS hl kk
    rw [m_hands_2] at hf
    refine lv_iload_n hx hb dX5_hands_2 rfl (lv_at hl 2 rfl) ?_
    refine lv_iload_n hx hb dX5_hands_3 rfl (lv_at hl 1 rfl) ?_
    refine lv_icmp_ge (tgt := 54) hx hb dX5_hands_4 (by decide) (fun c2 => ?_) (fun c2 => ?_)
    · have hf := if_t c2 hf
      cases hf
      exact kk hP hS (lv_sub hl [] rfl)
    · have hf := if_f c2 hf
      refine lv_aload_n hx hb dX5_hands_7 rfl (lv_at hl 0 rfl) ?_
      refine lv_aload_n hx hb dX5_hands_8 rfl (lv_at hl 0 rfl) ?_
      refine q_get C hP wM_o rfl hiX5_hands_X5 21 (by decide) wdX5_hands_1 rfl dX5_hands_9 ?_
      refine lv_iload_n hx hb dX5_hands_12 rfl (lv_at hl 2 rfl) ?_
      obtain ⟨hin, hf⟩ := gd_some hf
      refine q_iald C hP wM_a_21 rfl hin dX5_hands_13 ?_
      obtain ⟨x3, hx3, hf⟩ := bd_some hf
      refine q_Vi C (rc := (RX5, TX5, 42)) (q0 := 0) (ci := 5) (ws' := wM G q st) (wr := []) (c_X5_oldOf hx3) gX5_hands_X5_oldOf rfl ⟨rfl, rfl⟩ hdX5_oldOf ⟨(Nat.le_of_ble_eq_true rfl), (Nat.le_of_ble_eq_true rfl)⟩ rfl hP (dd_M hD) hS rfl rfl (List.Perm.refl _) (List.Perm.refl _) hl.1 (Nat.le_of_ble_eq_true rfl) ⟨Nat.zero_le _, Nat.zero_le _⟩ rfl dX5_hands_14 (fun H locs hP hS => ?_)
      refine lv_istore_n (lv' := [(3, .int x3), (0, .ref (q 42)), (1, .int v1), (2, .int v2)]) hx hb dX5_hands_17 rfl hl (by decide) rfl (fun ls hl => ?_)
      refine lv_aload_n hx hb dX5_hands_18 rfl (lv_at hl 1 rfl) ?_
      refine lv_aload_n hx hb dX5_hands_19 rfl (lv_at hl 1 rfl) ?_
      refine q_get C hP wM_o rfl hiX5_hands_X5 22 (by decide) wdX5_hands_2 rfl dX5_hands_20 ?_
      refine lv_iload_n hx hb dX5_hands_23 rfl (lv_at hl 3 rfl) ?_
      obtain ⟨hin, hf⟩ := gd_some hf
      refine q_iald C hP wM_a_22 rfl hin dX5_hands_24 ?_
      refine lv_iload_n hx hb dX5_hands_25 rfl (lv_at hl 0 rfl) ?_
      refine lv_iconst (v := (-1)) hx hb dX5_hands_26 (by decide) ?_
      refine lv_icmp_ne (tgt := 39) hx hb dX5_hands_27 (by decide) (fun c4 => ?_) (fun c4 => ?_)
      · have hf := if_f c4 hf
        refine lv_aload_n hx hb dX5_hands_39 rfl (lv_at hl 1 rfl) ?_
        refine q_get C hP wM_o rfl hiX5_hands_X5 22 (by decide) wdX5_hands_2 rfl dX5_hands_40 ?_
        refine lv_iload_n hx hb dX5_hands_43 rfl (lv_at hl 0 rfl) ?_
        obtain ⟨hin, hf⟩ := gd_some hf
        refine q_iald C hP wM_a_22 rfl hin dX5_hands_44 ?_
        obtain ⟨x5, hx5, hf⟩ := bd_some hf
        refine q_Vv C (rc := (RX5, TX5, 42)) (q0 := 0) (ci := 5) (ws' := wM G q x5) (wr := []) (c_X5_links hx5) gX5_hands_X5_links rfl ⟨rfl, rfl⟩ hdX5_links ⟨(Nat.le_of_ble_eq_true rfl), (Nat.le_of_ble_eq_true rfl)⟩ rfl hP (dd_M hD) hS rfl rfl (List.Perm.refl _) (List.Perm.refl _) hl.1 (Nat.le_of_ble_eq_true rfl) ⟨Nat.zero_le _, Nat.zero_le _⟩ rfl dX5_hands_45 (fun H locs hP hS => ?_)
        refine lv_iinc (v := (v2 + 1)) (lv' := [(2, .int (v2 + 1)), (3, .int x3), (0, .ref (q 42)), (1, .int v1)]) hx hb dX5_hands_48 hl (k := 3) rfl rfl (by decide) rfl (fun ls hl => ?_)
        refine lv_goto (tgt := 2) hx hb dX5_hands_51 (by decide) ?_
        exact ih hf hP hS (lv_sub hl [2, 3, 0] rfl) kk
      · have hf := if_t c4 hf
        refine lv_aload_n hx hb dX5_hands_30 rfl (lv_at hl 1 rfl) ?_
        refine q_get C hP wM_o rfl hiX5_hands_X5 21 (by decide) wdX5_hands_1 rfl dX5_hands_31 ?_
        refine lv_iload_n hx hb dX5_hands_34 rfl (lv_at hl 3 rfl) ?_
        obtain ⟨hin, hf⟩ := gd_some hf
        refine q_iald C hP wM_a_21 rfl hin dX5_hands_35 ?_
        refine lv_goto (tgt := 45) hx hb dX5_hands_36 (by decide) ?_
        obtain ⟨x6, hx6, hf⟩ := bd_some hf
        refine q_Vv C (rc := (RX5, TX5, 42)) (q0 := 0) (ci := 5) (ws' := wM G q x6) (wr := []) (c_X5_links hx6) gX5_hands_X5_links rfl ⟨rfl, rfl⟩ hdX5_links ⟨(Nat.le_of_ble_eq_true rfl), (Nat.le_of_ble_eq_true rfl)⟩ rfl hP (dd_M hD) hS rfl rfl (List.Perm.refl _) (List.Perm.refl _) hl.1 (Nat.le_of_ble_eq_true rfl) ⟨Nat.zero_le _, Nat.zero_le _⟩ rfl dX5_hands_45 (fun H locs hP hS => ?_)
        refine lv_iinc (v := (v2 + 1)) (lv' := [(2, .int (v2 + 1)), (3, .int x3), (0, .ref (q 42)), (1, .int v1)]) hx hb dX5_hands_48 hl (k := 3) rfl rfl (by decide) rfl (fun ls hl => ?_)
        refine lv_goto (tgt := 2) hx hb dX5_hands_51 (by decide) ?_
        exact ih hf hP hS (lv_sub hl [2, 3, 0] rfl) kk
set_option maxHeartbeats 4000000 in
set_option maxRecDepth 100000 in
theorem c_X5_hands {l : Launch} {G : Gx} {q : Nat → Nat} {st : OSt} {a1 : Int32} {x : OSt} (hf : m_hands st a1 = some x) : QM l G yX5_hands wsX5_hands rmX5_hands [.ref (q 42), .int a1] (wM G q st) (wM G q x) none := by
  refine QM.of (cc := cX5_hands) (maxL := 4) (ret := none) (by decide) rfl (Nat.le_of_ble_eq_true rfl) ?_
  intro p e s m below meth c A ls C hD hP hS hl
  have hx := C.1
  have hb := C.2.1
  have hl : lv_has ls 4 [(0, .ref (q 42)), (1, .int a1)] := hl
  unfold m_hands at hf
  refine lv_iconst (v := 0) hx hb dX5_hands_0 (by decide) ?_
  refine lv_istore_n (lv' := [(2, .int 0), (0, .ref (q 42)), (1, .int a1)]) hx hb dX5_hands_1 rfl hl (by decide) rfl (fun ls hl => ?_)
  obtain ⟨x1, hx1, hf⟩ := bd_some hf
  refine t_X5_hands_2 C hD hx1 hP hS (lv_sub hl [1, 2, 0] rfl) (fun {H locs ls} hP hS hl => ?_)
  cases hf
  exact q_vret C hP hS rfl dX5_hands_54

-- X5_strips
theorem hiX5_strips_X5 : ∀ w ∈ u_ws RX5 TX5 42, w ∈ wsX5_strips := mem_run (i := 14) (by decide +kernel)
theorem wdX5_strips_1 : (Cond.fieldLink RX5 49 "CombinatorRingModel" "passed" "[Z") ∈ wsX5_strips := List.mem_of_getElem? (i := 1) rfl
theorem wdX5_strips_2 : (Cond.fieldLink RX5 43 "CombinatorRingModel" "was" "[I") ∈ wsX5_strips := List.mem_of_getElem? (i := 2) rfl
theorem wdX5_strips_3 : (Cond.fieldLink RX5 7 "CombinatorRingModel" "now" "[I") ∈ wsX5_strips := List.mem_of_getElem? (i := 3) rfl
def m_strips_2 : Nat → OSt → Int32 → Option (OSt)
  | 0, _, _ => none
  | n + 1, st, v1 => if 4 ≤ v1 then some st else gd v1 4 (nm (sA st 23 (upd (st.2 23) v1.toNatClampNeg (vp_nar .boolean (0)))) fun s5 => m_strips_2 n s5 (v1 + 1))
def m_strips_54 : Nat → OSt → Int32 → Int32 → Int32 → Option (OSt × Int32)
  | 0, _, _, _, _ => none
  | n + 1, st, v1, v2, v3 => if v3 = (-1) then nm (((v2 + 2) - (v2 + 2) / 4 * 4)) fun y17 => gd v2 4 (nm (sA st 23 (upd (st.2 23) v2.toNatClampNeg (vp_nar .boolean (1)))) fun s18 => gd y17 4 (nm (sA s18 23 (upd (s18.2 23) y17.toNatClampNeg (vp_nar .boolean (1)))) fun s19 => gd y17 4 (bd (m_oldOf s19 (s19.2 21 y17.toNatClampNeg)) fun x20 => if x20 = (-1) then gd y17 4 (nm ((s19.2 21 y17.toNatClampNeg)) fun y22 => m_strips_54 n s19 v1 x20 y22) else m_strips_54 n s19 v1 x20 (-1)))) else some (st, v3)
def m_strips_22 : Nat → OSt → Int32 → Option (OSt)
  | 0, _, _ => none
  | n + 1, st, v1 => if 4 ≤ v1 then some st else gd v1 4 (if (st.2 23 v1.toNatClampNeg) = 0 then gd v1 4 (bd (m_oldOf st (st.2 21 v1.toNatClampNeg)) fun x8 => if x8 = (-1) then bd (m_strips_54 20000 st v1 v1 (-1)) fun x10 => gd v1 4 (bd (m_links x10.1 (x10.1.2 21 v1.toNatClampNeg) x10.2) fun x11 => m_strips_22 n x11 (v1 + 1)) else m_strips_22 n st (v1 + 1)) else m_strips_22 n st (v1 + 1))
def m_strips_159 : Nat → OSt → Int32 → Int32 → Option (OSt)
  | 0, _, _, _ => none
  | n + 1, st, v1, v2 => gd v2 4 (if (st.2 23 v2.toNatClampNeg) = 0 then nm (((v2 + 2) - (v2 + 2) / 4 * 4)) fun y24 => gd v2 4 (nm (sA st 23 (upd (st.2 23) v2.toNatClampNeg (vp_nar .boolean (1)))) fun s25 => gd y24 4 (nm (sA s25 23 (upd (s25.2 23) y24.toNatClampNeg (vp_nar .boolean (1)))) fun s26 => gd y24 4 (bd (m_oldOf s26 (s26.2 21 y24.toNatClampNeg)) fun x27 => m_strips_159 n s26 v1 x27))) else some st)
def m_strips_132 : Nat → OSt → Int32 → Option (OSt)
  | 0, _, _ => none
  | n + 1, st, v1 => if 2 ≤ v1 then some st else gd v1 4 (if (st.2 23 v1.toNatClampNeg) = 0 then nm (sA st 1 (upd (st.2 1) 7 ((st.2 1 7) + 1))) fun s14 => bd (m_strips_159 20000 s14 v1 v1) fun x15 => m_strips_132 n x15 (v1 + 1) else m_strips_132 n st (v1 + 1))
def m_strips (st : OSt)  : Option (OSt) := bd (m_strips_2 20000 st 0) fun x1 => bd (m_strips_22 20000 x1 0) fun x2 => bd (m_strips_132 20000 x2 0) fun x3 => some x3
abbrev rmX5_strips : Room := { frames := 1, cells := 0, slots := 0, locals := 22 }
theorem hdX5_strips : yX5_strips.cls = RX5 ∧ yX5_strips.cls ≠ "java/lang/invoke/MethodHandle" ∧ yX5_strips.cls ≠ "java/lang/invoke/VarHandle" ∧ (parseMethodDescriptor yX5_strips.desc).map (fun d => d.parameters.length) = some 0 := by decide +kernel
set_option maxHeartbeats 4000000 in
set_option maxRecDepth 100000 in
theorem t_X5_strips_2 {p : Program} {l : Launch} {e : Env} {s : State} {m : MethodId} {args : Array Value} {below : List Frame} {meth : Method} {c : Code} {Q : State → Prop} {A : Nat → Prop} {G : Gx} {q : Nat → Nat} {st0 : OSt} (C : Cx p s m args meth c G cX5_strips wsX5_strips RX5 none 5 A) (hD : va_D A (wM G q st0)) :
    ∀ {n : Nat} {st : OSt} {v1 : Int32} {x : OSt}, m_strips_2 n st v1 = some x → ∀ {H : Heap} {locs : List Loc} {ls : Array Slot}, va_P G.1 vwCl (wM G q st) H → va_S A s.heap H locs → lv_has ls 5 [(0, .ref (q 42)), (1, .int v1)] → (∀ {H : Heap} {locs : List Loc} {ls : Array Slot}, va_P G.1 vwCl (wM G q x) H → va_S A s.heap H locs → lv_has ls 5 [(0, .ref (q 42))] → W p l e rmX5_strips s m args below meth c H locs 0 0 Q (F0 m 20 ls [])) → W p l e rmX5_strips s m args below meth c H locs 0 0 Q (F0 m 2 ls []) := by
  have hx := C.1
  have hb := C.2.1
  intro n
  induction n with
  | zero => intro st v1 x hf; cases hf
  | succ n ih =>
    intro st v1 x hf H locs ls hP hS hl kk
    rw [m_strips_2] at hf
    refine lv_iload_n hx hb dX5_strips_2 rfl (lv_at hl 1 rfl) ?_
    refine lv_iconst (v := 4) hx hb dX5_strips_3 (by decide) ?_
    refine lv_icmp_ge (tgt := 20) hx hb dX5_strips_4 (by decide) (fun c4 => ?_) (fun c4 => ?_)
    · have hf := if_t c4 hf
      cases hf
      exact kk hP hS (lv_sub hl [0] rfl)
    · have hf := if_f c4 hf
      refine lv_aload_n hx hb dX5_strips_7 rfl (lv_at hl 0 rfl) ?_
      refine q_get C hP wM_o rfl hiX5_strips_X5 23 (by decide) wdX5_strips_1 rfl dX5_strips_8 ?_
      refine lv_iload_n hx hb dX5_strips_11 rfl (lv_at hl 1 rfl) ?_
      refine lv_iconst (v := 0) hx hb dX5_strips_12 (by decide) ?_
      obtain ⟨hin, hf⟩ := gd_some hf
      obtain ⟨s5, es5, hf⟩ := nm_ex hf
      refine q_zast C hP (dd_M hD) hS wM_a_23 rfl wM_sA_23 hin dX5_strips_13 (fun H locs hP hS => ?_)
      rw [es5] at hP
      refine lv_iinc (v := (v1 + 1)) (lv' := [(1, .int (v1 + 1)), (0, .ref (q 42))]) hx hb dX5_strips_14 hl (k := 1) rfl rfl (by decide) rfl (fun ls hl => ?_)
      refine lv_goto (tgt := 2) hx hb dX5_strips_17 (by decide) ?_
      exact ih hf hP hS (lv_sub hl [1, 0] rfl) kk
set_option maxHeartbeats 4000000 in
set_option maxRecDepth 100000 in
theorem t_X5_strips_54 {p : Program} {l : Launch} {e : Env} {s : State} {m : MethodId} {args : Array Value} {below : List Frame} {meth : Method} {c : Code} {Q : State → Prop} {A : Nat → Prop} {G : Gx} {q : Nat → Nat} {st0 : OSt} (C : Cx p s m args meth c G cX5_strips wsX5_strips RX5 none 5 A) (hD : va_D A (wM G q st0)) :
    ∀ {n : Nat} {st : OSt} {v1 : Int32} {v2 : Int32} {v3 : Int32} {x : OSt × Int32}, m_strips_54 n st v1 v2 v3 = some x → ∀ {H : Heap} {locs : List Loc} {ls : Array Slot}, va_P G.1 vwCl (wM G q st) H → va_S A s.heap H locs → lv_has ls 5 [(0, .ref (q 42)), (1, .int v1), (2, .int v2), (3, .int v3)] → (∀ {H : Heap} {locs : List Loc} {ls : Array Slot}, va_P G.1 vwCl (wM G q x.1) H → va_S A s.heap H locs → lv_has ls 5 [(0, .ref (q 42)), (1, .int v1), (3, .int x.2)] → W p l e rmX5_strips s m args below meth c H locs 0 0 Q (F0 m 113 ls [])) → W p l e rmX5_strips s m args below meth c H locs 0 0 Q (F0 m 54 ls []) := by
  have hx := C.1
  have hb := C.2.1
  intro n
  induction n with
  | zero => intro st v1 v2 v3 x hf; cases hf
  | succ n ih =>
    intro st v1 v2 v3 x hf H locs ls hP hS hl kk
    rw [m_strips_54] at hf
    refine lv_iload_n hx hb dX5_strips_54 rfl (lv_at hl 3 rfl) ?_
    refine lv_iconst (v := (-1)) hx hb dX5_strips_55 (by decide) ?_
    refine lv_icmp_ne (tgt := 113) hx hb dX5_strips_56 (by decide) (fun c16 => ?_) (fun c16 => ?_)
    · have hf := if_f c16 hf
      cases hf
      exact kk hP hS (lv_sub hl [0, 1, 3] rfl)
    · have hf := if_t c16 hf
      refine lv_iload_n hx hb dX5_strips_59 rfl (lv_at hl 2 rfl) ?_
      refine lv_iconst (v := 2) hx hb dX5_strips_60 (by decide) ?_
      refine lv_iadd hx hb dX5_strips_61 ?_
      refine lv_iconst (v := 4) hx hb dX5_strips_62 (by decide) ?_
      refine lv_irem hx hb dX5_strips_63 (by decide) ?_
      obtain ⟨y17, ey17, hf⟩ := nm_ex hf
      refine lv_tI ey17 ?_
      refine lv_istore (lv' := [(4, .int y17), (0, .ref (q 42)), (1, .int v1), (2, .int v2), (3, .int v3)]) hx hb dX5_strips_64 hl (by decide) rfl (fun ls hl => ?_)
      refine lv_aload_n hx hb dX5_strips_66 rfl (lv_at hl 1 rfl) ?_
      refine q_get C hP wM_o rfl hiX5_strips_X5 23 (by decide) wdX5_strips_1 rfl dX5_strips_67 ?_
      refine lv_iload_n hx hb dX5_strips_70 rfl (lv_at hl 3 rfl) ?_
      refine lv_iconst (v := 1) hx hb dX5_strips_71 (by decide) ?_
      obtain ⟨hin, hf⟩ := gd_some hf
      obtain ⟨s18, es18, hf⟩ := nm_ex hf
      refine q_zast C hP (dd_M hD) hS wM_a_23 rfl wM_sA_23 hin dX5_strips_72 (fun H locs hP hS => ?_)
      rw [es18] at hP
      refine lv_aload_n hx hb dX5_strips_73 rfl (lv_at hl 1 rfl) ?_
      refine q_get C hP wM_o rfl hiX5_strips_X5 23 (by decide) wdX5_strips_1 rfl dX5_strips_74 ?_
      refine lv_iload hx hb dX5_strips_77 (lv_at hl 0 rfl) ?_
      refine lv_iconst (v := 1) hx hb dX5_strips_79 (by decide) ?_
      obtain ⟨hin, hf⟩ := gd_some hf
      obtain ⟨s19, es19, hf⟩ := nm_ex hf
      refine q_zast C hP (dd_M hD) hS wM_a_23 rfl wM_sA_23 hin dX5_strips_80 (fun H locs hP hS => ?_)
      rw [es19] at hP
      refine lv_aload_n hx hb dX5_strips_81 rfl (lv_at hl 1 rfl) ?_
      refine lv_aload_n hx hb dX5_strips_82 rfl (lv_at hl 1 rfl) ?_
      refine q_get C hP wM_o rfl hiX5_strips_X5 21 (by decide) wdX5_strips_2 rfl dX5_strips_83 ?_
      refine lv_iload hx hb dX5_strips_86 (lv_at hl 0 rfl) ?_
      obtain ⟨hin, hf⟩ := gd_some hf
      refine q_iald C hP wM_a_21 rfl hin dX5_strips_88 ?_
      obtain ⟨x20, hx20, hf⟩ := bd_some hf
      refine q_Vi C (rc := (RX5, TX5, 42)) (q0 := 0) (ci := 5) (ws' := wM G q s19) (wr := []) (c_X5_oldOf hx20) gX5_strips_X5_oldOf rfl ⟨rfl, rfl⟩ hdX5_oldOf ⟨(Nat.le_of_ble_eq_true rfl), (Nat.le_of_ble_eq_true rfl)⟩ rfl hP (dd_M hD) hS rfl rfl (List.Perm.refl _) (List.Perm.refl _) hl.1 (Nat.le_of_ble_eq_true rfl) ⟨Nat.zero_le _, Nat.zero_le _⟩ rfl dX5_strips_89 (fun H locs hP hS => ?_)
      refine lv_istore_n (lv' := [(2, .int x20), (4, .int y17), (0, .ref (q 42)), (1, .int v1), (3, .int v3)]) hx hb dX5_strips_92 rfl hl (by decide) rfl (fun ls hl => ?_)
      refine lv_iload_n hx hb dX5_strips_93 rfl (lv_at hl 0 rfl) ?_
      refine lv_iconst (v := (-1)) hx hb dX5_strips_94 (by decide) ?_
      refine lv_icmp_ne (tgt := 108) hx hb dX5_strips_95 (by decide) (fun c21 => ?_) (fun c21 => ?_)
      · have hf := if_f c21 hf
        refine lv_iconst (v := (-1)) hx hb dX5_strips_108 (by decide) ?_
        refine lv_istore_n (lv' := [(3, .int (-1)), (2, .int x20), (4, .int y17), (0, .ref (q 42)), (1, .int v1)]) hx hb dX5_strips_109 rfl hl (by decide) rfl (fun ls hl => ?_)
        refine lv_goto (tgt := 54) hx hb dX5_strips_110 (by decide) ?_
        exact ih hf hP hS (lv_sub hl [3, 4, 1, 0] rfl) kk
      · have hf := if_t c21 hf
        refine lv_aload_n hx hb dX5_strips_98 rfl (lv_at hl 2 rfl) ?_
        refine q_get C hP wM_o rfl hiX5_strips_X5 21 (by decide) wdX5_strips_2 rfl dX5_strips_99 ?_
        refine lv_iload hx hb dX5_strips_102 (lv_at hl 1 rfl) ?_
        obtain ⟨hin, hf⟩ := gd_some hf
        refine q_iald C hP wM_a_21 rfl hin dX5_strips_104 ?_
        refine lv_goto (tgt := 109) hx hb dX5_strips_105 (by decide) ?_
        obtain ⟨y22, ey22, hf⟩ := nm_ex hf
        refine lv_tI ey22 ?_
        refine lv_istore_n (lv' := [(3, .int y22), (2, .int x20), (4, .int y17), (0, .ref (q 42)), (1, .int v1)]) hx hb dX5_strips_109 rfl hl (by decide) rfl (fun ls hl => ?_)
        refine lv_goto (tgt := 54) hx hb dX5_strips_110 (by decide) ?_
        exact ih hf hP hS (lv_sub hl [3, 4, 1, 0] rfl) kk
set_option maxHeartbeats 4000000 in
set_option maxRecDepth 100000 in
theorem t_X5_strips_22 {p : Program} {l : Launch} {e : Env} {s : State} {m : MethodId} {args : Array Value} {below : List Frame} {meth : Method} {c : Code} {Q : State → Prop} {A : Nat → Prop} {G : Gx} {q : Nat → Nat} {st0 : OSt} (C : Cx p s m args meth c G cX5_strips wsX5_strips RX5 none 5 A) (hD : va_D A (wM G q st0)) :
    ∀ {n : Nat} {st : OSt} {v1 : Int32} {x : OSt}, m_strips_22 n st v1 = some x → ∀ {H : Heap} {locs : List Loc} {ls : Array Slot}, va_P G.1 vwCl (wM G q st) H → va_S A s.heap H locs → lv_has ls 5 [(0, .ref (q 42)), (1, .int v1)] → (∀ {H : Heap} {locs : List Loc} {ls : Array Slot}, va_P G.1 vwCl (wM G q x) H → va_S A s.heap H locs → lv_has ls 5 [(0, .ref (q 42))] → W p l e rmX5_strips s m args below meth c H locs 0 0 Q (F0 m 130 ls [])) → W p l e rmX5_strips s m args below meth c H locs 0 0 Q (F0 m 22 ls []) := by
  have hx := C.1
  have hb := C.2.1
  intro n
  induction n with
  | zero => intro st v1 x hf; cases hf
  | succ n ih =>
    intro st v1 x hf H locs ls hP hS hl kk
    rw [m_strips_22] at hf
    refine lv_iload_n hx hb dX5_strips_22 rfl (lv_at hl 1 rfl) ?_
    refine lv_iconst (v := 4) hx hb dX5_strips_23 (by decide) ?_
    refine lv_icmp_ge (tgt := 130) hx hb dX5_strips_24 (by decide) (fun c6 => ?_) (fun c6 => ?_)
    · have hf := if_t c6 hf
      cases hf
      exact kk hP hS (lv_sub hl [0] rfl)
    · have hf := if_f c6 hf
      refine lv_aload_n hx hb dX5_strips_27 rfl (lv_at hl 0 rfl) ?_
      refine q_get C hP wM_o rfl hiX5_strips_X5 23 (by decide) wdX5_strips_1 rfl dX5_strips_28 ?_
      refine lv_iload_n hx hb dX5_strips_31 rfl (lv_at hl 1 rfl) ?_
      obtain ⟨hin, hf⟩ := gd_some hf
      refine q_zald C hP wM_a_23 rfl hin dX5_strips_32 ?_
      refine lv_if_ne (tgt := 124) hx hb dX5_strips_33 (by decide) (fun c7 => ?_) (fun c7 => ?_)
      · have hf := if_f c7 hf
        refine lv_iinc (v := (v1 + 1)) (lv' := [(1, .int (v1 + 1)), (0, .ref (q 42))]) hx hb dX5_strips_124 hl (k := 1) rfl rfl (by decide) rfl (fun ls hl => ?_)
        refine lv_goto (tgt := 22) hx hb dX5_strips_127 (by decide) ?_
        exact ih hf hP hS (lv_sub hl [1, 0] rfl) kk
      · have hf := if_t c7 hf
        refine lv_aload_n hx hb dX5_strips_36 rfl (lv_at hl 0 rfl) ?_
        refine lv_aload_n hx hb dX5_strips_37 rfl (lv_at hl 0 rfl) ?_
        refine q_get C hP wM_o rfl hiX5_strips_X5 21 (by decide) wdX5_strips_2 rfl dX5_strips_38 ?_
        refine lv_iload_n hx hb dX5_strips_41 rfl (lv_at hl 1 rfl) ?_
        obtain ⟨hin, hf⟩ := gd_some hf
        refine q_iald C hP wM_a_21 rfl hin dX5_strips_42 ?_
        obtain ⟨x8, hx8, hf⟩ := bd_some hf
        refine q_Vi C (rc := (RX5, TX5, 42)) (q0 := 0) (ci := 5) (ws' := wM G q st) (wr := []) (c_X5_oldOf hx8) gX5_strips_X5_oldOf rfl ⟨rfl, rfl⟩ hdX5_oldOf ⟨(Nat.le_of_ble_eq_true rfl), (Nat.le_of_ble_eq_true rfl)⟩ rfl hP (dd_M hD) hS rfl rfl (List.Perm.refl _) (List.Perm.refl _) hl.1 (Nat.le_of_ble_eq_true rfl) ⟨Nat.zero_le _, Nat.zero_le _⟩ rfl dX5_strips_43 (fun H locs hP hS => ?_)
        refine lv_iconst (v := (-1)) hx hb dX5_strips_46 (by decide) ?_
        refine lv_icmp_ne (tgt := 124) hx hb dX5_strips_47 (by decide) (fun c9 => ?_) (fun c9 => ?_)
        · have hf := if_f c9 hf
          refine lv_iinc (v := (v1 + 1)) (lv' := [(1, .int (v1 + 1)), (0, .ref (q 42))]) hx hb dX5_strips_124 hl (k := 1) rfl rfl (by decide) rfl (fun ls hl => ?_)
          refine lv_goto (tgt := 22) hx hb dX5_strips_127 (by decide) ?_
          exact ih hf hP hS (lv_sub hl [1, 0] rfl) kk
        · have hf := if_t c9 hf
          refine lv_iload_n hx hb dX5_strips_50 rfl (lv_at hl 1 rfl) ?_
          refine lv_istore_n (lv' := [(2, .int v1), (0, .ref (q 42)), (1, .int v1)]) hx hb dX5_strips_51 rfl hl (by decide) rfl (fun ls hl => ?_)
          refine lv_iconst (v := (-1)) hx hb dX5_strips_52 (by decide) ?_
          refine lv_istore_n (lv' := [(3, .int (-1)), (2, .int v1), (0, .ref (q 42)), (1, .int v1)]) hx hb dX5_strips_53 rfl hl (by decide) rfl (fun ls hl => ?_)
          obtain ⟨x10, hx10, hf⟩ := bd_some hf
          refine t_X5_strips_54 C hD hx10 hP hS (lv_sub hl [2, 3, 1, 0] rfl) (fun {H locs ls} hP hS hl => ?_)
          refine lv_aload_n hx hb dX5_strips_113 rfl (lv_at hl 0 rfl) ?_
          refine lv_aload_n hx hb dX5_strips_114 rfl (lv_at hl 0 rfl) ?_
          refine q_get C hP wM_o rfl hiX5_strips_X5 21 (by decide) wdX5_strips_2 rfl dX5_strips_115 ?_
          refine lv_iload_n hx hb dX5_strips_118 rfl (lv_at hl 1 rfl) ?_
          obtain ⟨hin, hf⟩ := gd_some hf
          refine q_iald C hP wM_a_21 rfl hin dX5_strips_119 ?_
          refine lv_iload_n hx hb dX5_strips_120 rfl (lv_at hl 2 rfl) ?_
          obtain ⟨x11, hx11, hf⟩ := bd_some hf
          refine q_Vv C (rc := (RX5, TX5, 42)) (q0 := 0) (ci := 5) (ws' := wM G q x11) (wr := []) (c_X5_links hx11) gX5_strips_X5_links rfl ⟨rfl, rfl⟩ hdX5_links ⟨(Nat.le_of_ble_eq_true rfl), (Nat.le_of_ble_eq_true rfl)⟩ rfl hP (dd_M hD) hS rfl rfl (List.Perm.refl _) (List.Perm.refl _) hl.1 (Nat.le_of_ble_eq_true rfl) ⟨Nat.zero_le _, Nat.zero_le _⟩ rfl dX5_strips_121 (fun H locs hP hS => ?_)
          refine lv_iinc (v := (v1 + 1)) (lv' := [(1, .int (v1 + 1)), (0, .ref (q 42)), (3, .int x10.2)]) hx hb dX5_strips_124 hl (k := 1) rfl rfl (by decide) rfl (fun ls hl => ?_)
          refine lv_goto (tgt := 22) hx hb dX5_strips_127 (by decide) ?_
          exact ih hf hP hS (lv_sub hl [1, 0] rfl) kk
set_option maxHeartbeats 4000000 in
set_option maxRecDepth 100000 in
theorem t_X5_strips_159 {p : Program} {l : Launch} {e : Env} {s : State} {m : MethodId} {args : Array Value} {below : List Frame} {meth : Method} {c : Code} {Q : State → Prop} {A : Nat → Prop} {G : Gx} {q : Nat → Nat} {st0 : OSt} (C : Cx p s m args meth c G cX5_strips wsX5_strips RX5 none 5 A) (hD : va_D A (wM G q st0)) :
    ∀ {n : Nat} {st : OSt} {v1 : Int32} {v2 : Int32} {x : OSt}, m_strips_159 n st v1 v2 = some x → ∀ {H : Heap} {locs : List Loc} {ls : Array Slot}, va_P G.1 vwCl (wM G q st) H → va_S A s.heap H locs → lv_has ls 5 [(0, .ref (q 42)), (1, .int v1), (2, .int v2)] → (∀ {H : Heap} {locs : List Loc} {ls : Array Slot}, va_P G.1 vwCl (wM G q x) H → va_S A s.heap H locs → lv_has ls 5 [(0, .ref (q 42)), (1, .int v1)] → W p l e rmX5_strips s m args below meth c H locs 0 0 Q (F0 m 202 ls [])) → W p l e rmX5_strips s m args below meth c H locs 0 0 Q (F0 m 159 ls []) := by
  have hx := C.1
  have hb := C.2.1
  intro n
  induction n with
  | zero => intro st v1 v2 x hf; cases hf
  | succ n ih =>
    intro st v1 v2 x hf H locs ls hP hS hl kk
    rw [m_strips_159] at hf
    refine lv_aload_n hx hb dX5_strips_159 rfl (lv_at hl 0 rfl) ?_
    refine q_get C hP wM_o rfl hiX5_strips_X5 23 (by decide) wdX5_strips_1 rfl dX5_strips_160 ?_
    refine lv_iload_n hx hb dX5_strips_163 rfl (lv_at hl 2 rfl) ?_
    obtain ⟨hin, hf⟩ := gd_some hf
    refine q_zald C hP wM_a_23 rfl hin dX5_strips_164 ?_
    refine lv_if_ne (tgt := 202) hx hb dX5_strips_165 (by decide) (fun c23 => ?_) (fun c23 => ?_)
    · have hf := if_f c23 hf
      cases hf
      exact kk hP hS (lv_sub hl [0, 1] rfl)
    · have hf := if_t c23 hf
      refine lv_iload_n hx hb dX5_strips_168 rfl (lv_at hl 2 rfl) ?_
      refine lv_iconst (v := 2) hx hb dX5_strips_169 (by decide) ?_
      refine lv_iadd hx hb dX5_strips_170 ?_
      refine lv_iconst (v := 4) hx hb dX5_strips_171 (by decide) ?_
      refine lv_irem hx hb dX5_strips_172 (by decide) ?_
      obtain ⟨y24, ey24, hf⟩ := nm_ex hf
      refine lv_tI ey24 ?_
      refine lv_istore_n (lv' := [(3, .int y24), (0, .ref (q 42)), (1, .int v1), (2, .int v2)]) hx hb dX5_strips_173 rfl hl (by decide) rfl (fun ls hl => ?_)
      refine lv_aload_n hx hb dX5_strips_174 rfl (lv_at hl 1 rfl) ?_
      refine q_get C hP wM_o rfl hiX5_strips_X5 23 (by decide) wdX5_strips_1 rfl dX5_strips_175 ?_
      refine lv_iload_n hx hb dX5_strips_178 rfl (lv_at hl 3 rfl) ?_
      refine lv_iconst (v := 1) hx hb dX5_strips_179 (by decide) ?_
      obtain ⟨hin, hf⟩ := gd_some hf
      obtain ⟨s25, es25, hf⟩ := nm_ex hf
      refine q_zast C hP (dd_M hD) hS wM_a_23 rfl wM_sA_23 hin dX5_strips_180 (fun H locs hP hS => ?_)
      rw [es25] at hP
      refine lv_aload_n hx hb dX5_strips_181 rfl (lv_at hl 1 rfl) ?_
      refine q_get C hP wM_o rfl hiX5_strips_X5 23 (by decide) wdX5_strips_1 rfl dX5_strips_182 ?_
      refine lv_iload_n hx hb dX5_strips_185 rfl (lv_at hl 0 rfl) ?_
      refine lv_iconst (v := 1) hx hb dX5_strips_186 (by decide) ?_
      obtain ⟨hin, hf⟩ := gd_some hf
      obtain ⟨s26, es26, hf⟩ := nm_ex hf
      refine q_zast C hP (dd_M hD) hS wM_a_23 rfl wM_sA_23 hin dX5_strips_187 (fun H locs hP hS => ?_)
      rw [es26] at hP
      refine lv_aload_n hx hb dX5_strips_188 rfl (lv_at hl 1 rfl) ?_
      refine lv_aload_n hx hb dX5_strips_189 rfl (lv_at hl 1 rfl) ?_
      refine q_get C hP wM_o rfl hiX5_strips_X5 21 (by decide) wdX5_strips_2 rfl dX5_strips_190 ?_
      refine lv_iload_n hx hb dX5_strips_193 rfl (lv_at hl 0 rfl) ?_
      obtain ⟨hin, hf⟩ := gd_some hf
      refine q_iald C hP wM_a_21 rfl hin dX5_strips_194 ?_
      obtain ⟨x27, hx27, hf⟩ := bd_some hf
      refine q_Vi C (rc := (RX5, TX5, 42)) (q0 := 0) (ci := 5) (ws' := wM G q s26) (wr := []) (c_X5_oldOf hx27) gX5_strips_X5_oldOf rfl ⟨rfl, rfl⟩ hdX5_oldOf ⟨(Nat.le_of_ble_eq_true rfl), (Nat.le_of_ble_eq_true rfl)⟩ rfl hP (dd_M hD) hS rfl rfl (List.Perm.refl _) (List.Perm.refl _) hl.1 (Nat.le_of_ble_eq_true rfl) ⟨Nat.zero_le _, Nat.zero_le _⟩ rfl dX5_strips_195 (fun H locs hP hS => ?_)
      refine lv_istore_n (lv' := [(2, .int x27), (3, .int y24), (0, .ref (q 42)), (1, .int v1)]) hx hb dX5_strips_198 rfl hl (by decide) rfl (fun ls hl => ?_)
      refine lv_goto (tgt := 159) hx hb dX5_strips_199 (by decide) ?_
      exact ih hf hP hS (lv_sub hl [2, 3, 0] rfl) kk
set_option maxHeartbeats 4000000 in
set_option maxRecDepth 100000 in
theorem t_X5_strips_132 {p : Program} {l : Launch} {e : Env} {s : State} {m : MethodId} {args : Array Value} {below : List Frame} {meth : Method} {c : Code} {Q : State → Prop} {A : Nat → Prop} {G : Gx} {q : Nat → Nat} {st0 : OSt} (C : Cx p s m args meth c G cX5_strips wsX5_strips RX5 none 5 A) (hD : va_D A (wM G q st0)) :
    ∀ {n : Nat} {st : OSt} {v1 : Int32} {x : OSt}, m_strips_132 n st v1 = some x → ∀ {H : Heap} {locs : List Loc} {ls : Array Slot}, va_P G.1 vwCl (wM G q st) H → va_S A s.heap H locs → lv_has ls 5 [(0, .ref (q 42)), (1, .int v1)] → (∀ {H : Heap} {locs : List Loc} {ls : Array Slot}, va_P G.1 vwCl (wM G q x) H → va_S A s.heap H locs → lv_has ls 5 [] → W p l e rmX5_strips s m args below meth c H locs 0 0 Q (F0 m 208 ls [])) → W p l e rmX5_strips s m args below meth c H locs 0 0 Q (F0 m 132 ls []) := by
  have hx := C.1
  have hb := C.2.1
  intro n
  induction n with
  | zero => intro st v1 x hf; cases hf
  | succ n ih =>
    intro st v1 x hf H locs ls hP hS hl kk
    rw [m_strips_132] at hf
    refine lv_iload_n hx hb dX5_strips_132 rfl (lv_at hl 1 rfl) ?_
    refine lv_iconst (v := 2) hx hb dX5_strips_133 (by decide) ?_
    refine lv_icmp_ge (tgt := 208) hx hb dX5_strips_134 (by decide) (fun c12 => ?_) (fun c12 => ?_)
    · have hf := if_t c12 hf
      cases hf
      exact kk hP hS (lv_sub hl [] rfl)
    · have hf := if_f c12 hf
      refine lv_aload_n hx hb dX5_strips_137 rfl (lv_at hl 0 rfl) ?_
      refine q_get C hP wM_o rfl hiX5_strips_X5 23 (by decide) wdX5_strips_1 rfl dX5_strips_138 ?_
      refine lv_iload_n hx hb dX5_strips_141 rfl (lv_at hl 1 rfl) ?_
      obtain ⟨hin, hf⟩ := gd_some hf
      refine q_zald C hP wM_a_23 rfl hin dX5_strips_142 ?_
      refine lv_if_ne (tgt := 202) hx hb dX5_strips_143 (by decide) (fun c13 => ?_) (fun c13 => ?_)
      · have hf := if_f c13 hf
        refine lv_iinc (v := (v1 + 1)) (lv' := [(1, .int (v1 + 1)), (0, .ref (q 42))]) hx hb dX5_strips_202 hl (k := 1) rfl rfl (by decide) rfl (fun ls hl => ?_)
        refine lv_goto (tgt := 132) hx hb dX5_strips_205 (by decide) ?_
        exact ih hf hP hS (lv_sub hl [1, 0] rfl) kk
      · have hf := if_t c13 hf
        refine lv_aload_n hx hb dX5_strips_146 rfl (lv_at hl 0 rfl) ?_
        refine q_get C hP wM_o rfl hiX5_strips_X5 1 (by decide) wdX5_strips_3 rfl dX5_strips_147 ?_
        refine lv_bipush (v := 7) hx hb dX5_strips_150 (by decide) ?_
        refine lv_dup2_11 hx hb dX5_strips_152 rfl rfl ?_
        refine q_iald C hP wM_a_1 (j := 7) (by decide) (vp_k (j := 7) (by decide) (by decide) (by decide)) dX5_strips_153 ?_
        refine lv_iconst (v := 1) hx hb dX5_strips_154 (by decide) ?_
        refine lv_iadd hx hb dX5_strips_155 ?_
        obtain ⟨s14, es14, hf⟩ := nm_ex hf
        refine q_iast C hP (dd_M hD) hS wM_a_1 (j := 7) (by decide) wM_sA_1 (vp_k (j := 7) (by decide) (by decide) (by decide)) dX5_strips_156 (fun H locs hP hS => ?_)
        rw [es14] at hP
        refine lv_iload_n hx hb dX5_strips_157 rfl (lv_at hl 1 rfl) ?_
        refine lv_istore_n (lv' := [(2, .int v1), (0, .ref (q 42)), (1, .int v1)]) hx hb dX5_strips_158 rfl hl (by decide) rfl (fun ls hl => ?_)
        obtain ⟨x15, hx15, hf⟩ := bd_some hf
        refine t_X5_strips_159 C hD hx15 hP hS (lv_sub hl [1, 2, 0] rfl) (fun {H locs ls} hP hS hl => ?_)
        refine lv_iinc (v := (v1 + 1)) (lv' := [(1, .int (v1 + 1)), (0, .ref (q 42))]) hx hb dX5_strips_202 hl (k := 1) rfl rfl (by decide) rfl (fun ls hl => ?_)
        refine lv_goto (tgt := 132) hx hb dX5_strips_205 (by decide) ?_
        exact ih hf hP hS (lv_sub hl [1, 0] rfl) kk
set_option maxHeartbeats 4000000 in
set_option maxRecDepth 100000 in
theorem c_X5_strips {l : Launch} {G : Gx} {q : Nat → Nat} {st : OSt}  {x : OSt} (hf : m_strips st = some x) : QM l G yX5_strips wsX5_strips rmX5_strips [.ref (q 42)] (wM G q st) (wM G q x) none := by
  refine QM.of (cc := cX5_strips) (maxL := 5) (ret := none) (by decide) rfl (Nat.le_of_ble_eq_true rfl) ?_
  intro p e s m below meth c A ls C hD hP hS hl
  have hx := C.1
  have hb := C.2.1
  have hl : lv_has ls 5 [(0, .ref (q 42))] := hl
  unfold m_strips at hf
  refine lv_iconst (v := 0) hx hb dX5_strips_0 (by decide) ?_
  refine lv_istore_n (lv' := [(1, .int 0), (0, .ref (q 42))]) hx hb dX5_strips_1 rfl hl (by decide) rfl (fun ls hl => ?_)
  obtain ⟨x1, hx1, hf⟩ := bd_some hf
  refine t_X5_strips_2 C hD hx1 hP hS (lv_sub hl [1, 0] rfl) (fun {H locs ls} hP hS hl => ?_)
  refine lv_iconst (v := 0) hx hb dX5_strips_20 (by decide) ?_
  refine lv_istore_n (lv' := [(1, .int 0), (0, .ref (q 42))]) hx hb dX5_strips_21 rfl hl (by decide) rfl (fun ls hl => ?_)
  obtain ⟨x2, hx2, hf⟩ := bd_some hf
  refine t_X5_strips_22 C hD hx2 hP hS (lv_sub hl [1, 0] rfl) (fun {H locs ls} hP hS hl => ?_)
  refine lv_iconst (v := 0) hx hb dX5_strips_130 (by decide) ?_
  refine lv_istore_n (lv' := [(1, .int 0), (0, .ref (q 42))]) hx hb dX5_strips_131 rfl hl (by decide) rfl (fun ls hl => ?_)
  obtain ⟨x3, hx3, hf⟩ := bd_some hf
  refine t_X5_strips_132 C hD hx3 hP hS (lv_sub hl [1, 0] rfl) (fun {H locs ls} hP hS hl => ?_)
  cases hf
  exact q_vret C hP hS rfl dX5_strips_208
