-- X5_likeImage
theorem hiX5_likeImage_X5 : ∀ w ∈ u_ws RX5 TX5 42, w ∈ wsX5_likeImage := mem_run (i := 54) (by decide +kernel)
theorem wdX5_likeImage_2 : (Cond.fieldLink RX5 79 "CombinatorRingModel" "hasImage" "[Z") ∈ wsX5_likeImage := List.mem_of_getElem? (i := 2) rfl
theorem wdX5_likeImage_3 : (Cond.fieldLink RX5 7 "CombinatorRingModel" "now" "[I") ∈ wsX5_likeImage := List.mem_of_getElem? (i := 3) rfl
theorem wdX5_likeImage_4 : (Cond.fieldLink RX5 76 "CombinatorRingModel" "thought" "[I") ∈ wsX5_likeImage := List.mem_of_getElem? (i := 4) rfl
theorem wdX5_likeImage_5 : (Cond.fieldLink RX5 82 "CombinatorRingModel" "images" "[I") ∈ wsX5_likeImage := List.mem_of_getElem? (i := 5) rfl
theorem wdX5_likeImage_1 : (Cond.fieldLink RX5 1 "CombinatorRingModel" "thrown" "I") ∈ wsX5_likeImage := List.mem_of_getElem? (i := 1) rfl
def m_likeImage (st : OSt) (a1 : Int32) : Option (Int32 × OSt) := nm (sI st 0 0) fun s1 => bd (m_within a1 0 1) fun x2 => if x2 = 0 then some ((-1), s1) else gd a1 2 (if (s1.2 40 a1.toNatClampNeg) = 0 then some ((-1), s1) else bd (m_laysBy s1) fun x5 => bd (m_copies 1646 (x5.2 1) 1646 (x5.2 39) 0 0) fun x6 => bd (m_copies 3292 ((sA x5 39 x6).2 41) 1646 ((sA x5 39 x6).2 1) (1646 * a1) 0) fun x7 => bd (m_areAlike (sA (sA x5 39 x6) 1 x7)) fun x8 => bd (m_copies 1646 (x8.2.2 39) 1646 (x8.2.2 1) 0 0) fun x9 => if x8.1 = 0 then some (0, (sA x8.2 1 x9)) else some (1, (sA x8.2 1 x9)))
abbrev rmX5_likeImage : Room := { frames := 4, cells := 0, slots := 0, locals := 91 }
theorem hdX5_likeImage : yX5_likeImage.cls = RX5 ∧ yX5_likeImage.cls ≠ "java/lang/invoke/MethodHandle" ∧ yX5_likeImage.cls ≠ "java/lang/invoke/VarHandle" ∧ (parseMethodDescriptor yX5_likeImage.desc).map (fun d => d.parameters.length) = some 1 := by decide +kernel
set_option maxHeartbeats 4000000 in
set_option maxRecDepth 100000 in
theorem c_X5_likeImage {l : Launch} {G : Gx} {q : Nat → Nat} {st : OSt} {a1 : Int32} {x : Int32 × OSt} (hf : m_likeImage st a1 = some x) : QM l G yX5_likeImage wsX5_likeImage rmX5_likeImage [.ref (q 42), .int a1] (wM G q st) (wM G q x.2) (some (.int x.1)) := by
  refine QM.of (cc := cX5_likeImage) (maxL := 3) (ret := (some .int)) (by decide) rfl (Nat.le_of_ble_eq_true rfl) ?_
  intro p e s m below meth c A ls C hD hP hS hl
  have hx := C.1
  have hb := C.2.1
  have hl : lv_has ls 3 [(0, .ref (q 42)), (1, .int a1)] := hl
  unfold m_likeImage at hf
  refine lv_aload_n hx hb dX5_likeImage_0 rfl (lv_at hl 0 rfl) ?_
  refine lv_iconst (v := 0) hx hb dX5_likeImage_1 (by decide) ?_
  obtain ⟨s1, es1, hf⟩ := nm_ex hf
  refine q_put C hP (dd_M hD) hS wM_o rfl hiX5_likeImage_X5 tyX5_ok nmX5 0 (by decide) wdX5_likeImage_1 rfl rfl rfl (Nat.le_of_ble_eq_true rfl) wM_sI_0 dX5_likeImage_2 (fun H locs hP hS => ?_)
  rw [es1] at hP
  refine lv_iload_n hx hb dX5_likeImage_5 rfl (lv_at hl 1 rfl) ?_
  refine lv_iconst (v := 0) hx hb dX5_likeImage_6 (by decide) ?_
  refine lv_iconst (v := 1) hx hb dX5_likeImage_7 (by decide) ?_
  obtain ⟨x2, hx2, hf⟩ := bd_some hf
  refine q_Si C (ws' := wM G q s1) (wr := []) (c_X5_within (w := wM G q s1) hx2) gX5_likeImage_X5_within rfl ⟨rfl, rfl⟩ hdX5_within ⟨(Nat.le_of_ble_eq_true rfl), (Nat.le_of_ble_eq_true rfl)⟩ rfl hP (dd_M hD) hS (List.Perm.refl _) (List.Perm.refl _) hl.1 (Nat.le_of_ble_eq_true rfl) ⟨Nat.zero_le _, Nat.zero_le _⟩ rfl dX5_likeImage_8 (fun H locs hP hS => ?_)
  refine lv_if_eq (tgt := 23) hx hb dX5_likeImage_11 (by decide) (fun c3 => ?_) (fun c3 => ?_)
  · have hf := if_t c3 hf
    refine lv_iconst (v := (-1)) hx hb dX5_likeImage_23 (by decide) ?_
    cases hf
    exact q_iret C hP hS rfl dX5_likeImage_24
  · have hf := if_f c3 hf
    refine lv_aload_n hx hb dX5_likeImage_14 rfl (lv_at hl 0 rfl) ?_
    refine q_get C hP wM_o rfl hiX5_likeImage_X5 40 (by decide) wdX5_likeImage_2 rfl dX5_likeImage_15 ?_
    refine lv_iload_n hx hb dX5_likeImage_18 rfl (lv_at hl 1 rfl) ?_
    obtain ⟨hin, hf⟩ := gd_some hf
    refine q_zald C hP wM_a_40 rfl hin dX5_likeImage_19 ?_
    refine lv_if_ne (tgt := 25) hx hb dX5_likeImage_20 (by decide) (fun c4 => ?_) (fun c4 => ?_)
    · have hf := if_f c4 hf
      refine lv_aload_n hx hb dX5_likeImage_25 rfl (lv_at hl 0 rfl) ?_
      obtain ⟨x5, hx5, hf⟩ := bd_some hf
      refine q_Vv C (rc := (RX5, TX5, 42)) (q0 := 0) (ci := 5) (ws' := wM G q x5) (wr := []) (c_X5_laysBy hx5) gX5_likeImage_X5_laysBy rfl ⟨rfl, rfl⟩ hdX5_laysBy ⟨(Nat.le_of_ble_eq_true rfl), (Nat.le_of_ble_eq_true rfl)⟩ rfl hP (dd_M hD) hS rfl rfl (List.Perm.refl _) (List.Perm.refl _) hl.1 (Nat.le_of_ble_eq_true rfl) ⟨Nat.zero_le _, Nat.zero_le _⟩ rfl dX5_likeImage_26 (fun H locs hP hS => ?_)
      refine lv_aload_n hx hb dX5_likeImage_29 rfl (lv_at hl 0 rfl) ?_
      refine q_get C hP wM_o rfl hiX5_likeImage_X5 1 (by decide) wdX5_likeImage_3 rfl dX5_likeImage_30 ?_
      refine lv_iconst (v := 0) hx hb dX5_likeImage_33 (by decide) ?_
      refine lv_aload_n hx hb dX5_likeImage_34 rfl (lv_at hl 0 rfl) ?_
      refine q_get C hP wM_o rfl hiX5_likeImage_X5 39 (by decide) wdX5_likeImage_4 rfl dX5_likeImage_35 ?_
      refine lv_iconst (v := 0) hx hb dX5_likeImage_38 (by decide) ?_
      obtain ⟨x6, hx6, hf⟩ := bd_some hf
      refine q_Sv C (ws' := wM G q (sA x5 39 x6)) (c_X5_copies (da := (q 1)) (ka := 1646) (da2 := (q 39)) (ka2 := 1646) hx6) gX5_likeImage_X5_copies rfl ⟨rfl, rfl⟩ hdX5_copies ⟨(Nat.le_of_ble_eq_true rfl), (Nat.le_of_ble_eq_true rfl)⟩ rfl hP (dd_M hD) hS (pm_M2 (i := 1) (j := 21) rfl rfl (by decide)) (pm_M2' (i := 1) (j := 21) rfl rfl (by decide) rfl) hl.1 (Nat.le_of_ble_eq_true rfl) ⟨Nat.zero_le _, Nat.zero_le _⟩ rfl dX5_likeImage_39 (fun H locs hP hS => ?_)
      refine lv_aload_n hx hb dX5_likeImage_42 rfl (lv_at hl 0 rfl) ?_
      refine q_get C hP wM_o rfl hiX5_likeImage_X5 41 (by decide) wdX5_likeImage_5 rfl dX5_likeImage_43 ?_
      refine lv_sipush (v := 1646) hx hb dX5_likeImage_46 (by decide) ?_
      refine lv_iload_n hx hb dX5_likeImage_49 rfl (lv_at hl 1 rfl) ?_
      refine lv_imul hx hb dX5_likeImage_50 ?_
      refine lv_aload_n hx hb dX5_likeImage_51 rfl (lv_at hl 0 rfl) ?_
      refine q_get C hP wM_o rfl hiX5_likeImage_X5 1 (by decide) wdX5_likeImage_3 rfl dX5_likeImage_52 ?_
      refine lv_iconst (v := 0) hx hb dX5_likeImage_55 (by decide) ?_
      obtain ⟨x7, hx7, hf⟩ := bd_some hf
      refine q_Sv C (ws' := wM G q (sA (sA x5 39 x6) 1 x7)) (c_X5_copies (da := (q 41)) (ka := 3292) (da2 := (q 1)) (ka2 := 1646) hx7) gX5_likeImage_X5_copies rfl ⟨rfl, rfl⟩ hdX5_copies ⟨(Nat.le_of_ble_eq_true rfl), (Nat.le_of_ble_eq_true rfl)⟩ rfl hP (dd_M hD) hS (pm_M2 (i := 23) (j := 1) rfl rfl (by decide)) (pm_M2' (i := 23) (j := 1) rfl rfl (by decide) rfl) hl.1 (Nat.le_of_ble_eq_true rfl) ⟨Nat.zero_le _, Nat.zero_le _⟩ rfl dX5_likeImage_56 (fun H locs hP hS => ?_)
      refine lv_aload_n hx hb dX5_likeImage_59 rfl (lv_at hl 0 rfl) ?_
      obtain ⟨x8, hx8, hf⟩ := bd_some hf
      refine q_Vi C (rc := (RX5, TX5, 42)) (q0 := 0) (ci := 5) (ws' := wM G q x8.2) (wr := []) (c_X5_areAlike hx8) gX5_likeImage_X5_areAlike rfl ⟨rfl, rfl⟩ hdX5_areAlike ⟨(Nat.le_of_ble_eq_true rfl), (Nat.le_of_ble_eq_true rfl)⟩ rfl hP (dd_M hD) hS rfl rfl (List.Perm.refl _) (List.Perm.refl _) hl.1 (Nat.le_of_ble_eq_true rfl) ⟨Nat.zero_le _, Nat.zero_le _⟩ rfl dX5_likeImage_60 (fun H locs hP hS => ?_)
      refine lv_istore_n (lv' := [(2, .int x8.1), (0, .ref (q 42)), (1, .int a1)]) hx hb dX5_likeImage_63 rfl hl (by decide) rfl (fun ls hl => ?_)
      refine lv_aload_n hx hb dX5_likeImage_64 rfl (lv_at hl 1 rfl) ?_
      refine q_get C hP wM_o rfl hiX5_likeImage_X5 39 (by decide) wdX5_likeImage_4 rfl dX5_likeImage_65 ?_
      refine lv_iconst (v := 0) hx hb dX5_likeImage_68 (by decide) ?_
      refine lv_aload_n hx hb dX5_likeImage_69 rfl (lv_at hl 1 rfl) ?_
      refine q_get C hP wM_o rfl hiX5_likeImage_X5 1 (by decide) wdX5_likeImage_3 rfl dX5_likeImage_70 ?_
      refine lv_iconst (v := 0) hx hb dX5_likeImage_73 (by decide) ?_
      obtain ⟨x9, hx9, hf⟩ := bd_some hf
      refine q_Sv C (ws' := wM G q (sA x8.2 1 x9)) (c_X5_copies (da := (q 39)) (ka := 1646) (da2 := (q 1)) (ka2 := 1646) hx9) gX5_likeImage_X5_copies rfl ⟨rfl, rfl⟩ hdX5_copies ⟨(Nat.le_of_ble_eq_true rfl), (Nat.le_of_ble_eq_true rfl)⟩ rfl hP (dd_M hD) hS (pm_M2 (i := 21) (j := 1) rfl rfl (by decide)) (pm_M2' (i := 21) (j := 1) rfl rfl (by decide) rfl) hl.1 (Nat.le_of_ble_eq_true rfl) ⟨Nat.zero_le _, Nat.zero_le _⟩ rfl dX5_likeImage_74 (fun H locs hP hS => ?_)
      refine lv_iload_n hx hb dX5_likeImage_77 rfl (lv_at hl 0 rfl) ?_
      refine lv_if_eq (tgt := 85) hx hb dX5_likeImage_78 (by decide) (fun c10 => ?_) (fun c10 => ?_)
      · have hf := if_t c10 hf
        refine lv_iconst (v := 0) hx hb dX5_likeImage_85 (by decide) ?_
        cases hf
        exact q_iret C hP hS rfl dX5_likeImage_86
      · have hf := if_f c10 hf
        refine lv_iconst (v := 1) hx hb dX5_likeImage_81 (by decide) ?_
        refine lv_goto (tgt := 86) hx hb dX5_likeImage_82 (by decide) ?_
        cases hf
        exact q_iret C hP hS rfl dX5_likeImage_86
    · have hf := if_t c4 hf
      refine lv_iconst (v := (-1)) hx hb dX5_likeImage_23 (by decide) ?_
      cases hf
      exact q_iret C hP hS rfl dX5_likeImage_24

-- X5_replaces
theorem hiX5_replaces_X5 : ∀ w ∈ u_ws RX5 TX5 42, w ∈ wsX5_replaces := mem_run (i := 11) (by decide +kernel)
theorem wdX5_replaces_1 : (Cond.fieldLink RX5 7 "CombinatorRingModel" "now" "[I") ∈ wsX5_replaces := List.mem_of_getElem? (i := 1) rfl
def m_replaces (st : OSt) (a1 : Int32) (a2 : Int32) : Option (OSt) := bd (m_linkOf st (1000 + a1)) fun x1 => gd (14 + a1) 1646 (nm (sA st 1 (upd (st.2 1) (14 + a1).toNatClampNeg 0)) fun s2 => bd (m_links s2 a2 x1) fun x3 => some x3)
abbrev rmX5_replaces : Room := { frames := 1, cells := 0, slots := 0, locals := 22 }
theorem hdX5_replaces : yX5_replaces.cls = RX5 ∧ yX5_replaces.cls ≠ "java/lang/invoke/MethodHandle" ∧ yX5_replaces.cls ≠ "java/lang/invoke/VarHandle" ∧ (parseMethodDescriptor yX5_replaces.desc).map (fun d => d.parameters.length) = some 2 := by decide +kernel
set_option maxHeartbeats 4000000 in
set_option maxRecDepth 100000 in
theorem c_X5_replaces {l : Launch} {G : Gx} {q : Nat → Nat} {st : OSt} {a1 : Int32} {a2 : Int32} {x : OSt} (hf : m_replaces st a1 a2 = some x) : QM l G yX5_replaces wsX5_replaces rmX5_replaces [.ref (q 42), .int a1, .int a2] (wM G q st) (wM G q x) none := by
  refine QM.of (cc := cX5_replaces) (maxL := 4) (ret := none) (by decide) rfl (Nat.le_of_ble_eq_true rfl) ?_
  intro p e s m below meth c A ls C hD hP hS hl
  have hx := C.1
  have hb := C.2.1
  have hl : lv_has ls 4 [(0, .ref (q 42)), (1, .int a1), (2, .int a2)] := hl
  unfold m_replaces at hf
  refine lv_aload_n hx hb dX5_replaces_0 rfl (lv_at hl 0 rfl) ?_
  refine lv_sipush (v := 1000) hx hb dX5_replaces_1 (by decide) ?_
  refine lv_iload_n hx hb dX5_replaces_4 rfl (lv_at hl 1 rfl) ?_
  refine lv_iadd hx hb dX5_replaces_5 ?_
  obtain ⟨x1, hx1, hf⟩ := bd_some hf
  refine q_Vi C (rc := (RX5, TX5, 42)) (q0 := 0) (ci := 5) (ws' := wM G q st) (wr := []) (c_X5_linkOf hx1) gX5_replaces_X5_linkOf rfl ⟨rfl, rfl⟩ hdX5_linkOf ⟨(Nat.le_of_ble_eq_true rfl), (Nat.le_of_ble_eq_true rfl)⟩ rfl hP (dd_M hD) hS rfl rfl (List.Perm.refl _) (List.Perm.refl _) hl.1 (Nat.le_of_ble_eq_true rfl) ⟨Nat.zero_le _, Nat.zero_le _⟩ rfl dX5_replaces_6 (fun H locs hP hS => ?_)
  refine lv_istore_n (lv' := [(3, .int x1), (0, .ref (q 42)), (1, .int a1), (2, .int a2)]) hx hb dX5_replaces_9 rfl hl (by decide) rfl (fun ls hl => ?_)
  refine lv_aload_n hx hb dX5_replaces_10 rfl (lv_at hl 1 rfl) ?_
  refine q_get C hP wM_o rfl hiX5_replaces_X5 1 (by decide) wdX5_replaces_1 rfl dX5_replaces_11 ?_
  refine lv_bipush (v := 14) hx hb dX5_replaces_14 (by decide) ?_
  refine lv_iload_n hx hb dX5_replaces_16 rfl (lv_at hl 2 rfl) ?_
  refine lv_iadd hx hb dX5_replaces_17 ?_
  refine lv_iconst (v := 0) hx hb dX5_replaces_18 (by decide) ?_
  obtain ⟨hin, hf⟩ := gd_some hf
  obtain ⟨s2, es2, hf⟩ := nm_ex hf
  refine q_iast C hP (dd_M hD) hS wM_a_1 rfl wM_sA_1 hin dX5_replaces_19 (fun H locs hP hS => ?_)
  rw [es2] at hP
  refine lv_aload_n hx hb dX5_replaces_20 rfl (lv_at hl 1 rfl) ?_
  refine lv_iload_n hx hb dX5_replaces_21 rfl (lv_at hl 3 rfl) ?_
  refine lv_iload_n hx hb dX5_replaces_22 rfl (lv_at hl 0 rfl) ?_
  obtain ⟨x3, hx3, hf⟩ := bd_some hf
  refine q_Vv C (rc := (RX5, TX5, 42)) (q0 := 0) (ci := 5) (ws' := wM G q x3) (wr := []) (c_X5_links hx3) gX5_replaces_X5_links rfl ⟨rfl, rfl⟩ hdX5_links ⟨(Nat.le_of_ble_eq_true rfl), (Nat.le_of_ble_eq_true rfl)⟩ rfl hP (dd_M hD) hS rfl rfl (List.Perm.refl _) (List.Perm.refl _) hl.1 (Nat.le_of_ble_eq_true rfl) ⟨Nat.zero_le _, Nat.zero_le _⟩ rfl dX5_replaces_23 (fun H locs hP hS => ?_)
  cases hf
  exact q_vret C hP hS rfl dX5_replaces_26

-- X5_put
theorem hiX5_put_X5 : ∀ w ∈ u_ws RX5 TX5 42, w ∈ wsX5_put := mem_run (i := 44) (by decide +kernel)
theorem wdX5_put_2 : (Cond.fieldLink RX5 7 "CombinatorRingModel" "now" "[I") ∈ wsX5_put := List.mem_of_getElem? (i := 2) rfl
theorem wdX5_put_1 : (Cond.fieldLink RX5 1 "CombinatorRingModel" "thrown" "I") ∈ wsX5_put := List.mem_of_getElem? (i := 1) rfl
def m_put (st : OSt) (a1 : Int32) (a2 : Int32) : Option (Int32 × OSt) := nm (sI st 0 0) fun s1 => bd (m_isRoot s1 a1) fun x2 => if x2 = 0 then some ((-1), s1) else bd (m_within a2 0 20) fun x4 => if x4 = 0 then some ((-1), s1) else bd (m_hasRoom s1 ((2 * a2) + 1)) fun x6 => if x6 = 0 then some ((-1), s1) else bd (m_keepsAhead s1) fun x8 => bd (m_makesNumber x8 a2) fun x9 => bd (m_replaces x9.2 a1 x9.1) fun x10 => some ((x10.2 1 1), x10)
abbrev rmX5_put : Room := { frames := 2, cells := 0, slots := 0, locals := 48 }
theorem hdX5_put : yX5_put.cls = RX5 ∧ yX5_put.cls ≠ "java/lang/invoke/MethodHandle" ∧ yX5_put.cls ≠ "java/lang/invoke/VarHandle" ∧ (parseMethodDescriptor yX5_put.desc).map (fun d => d.parameters.length) = some 2 := by decide +kernel
set_option maxHeartbeats 4000000 in
set_option maxRecDepth 100000 in
theorem c_X5_put {l : Launch} {G : Gx} {q : Nat → Nat} {st : OSt} {a1 : Int32} {a2 : Int32} {x : Int32 × OSt} (hf : m_put st a1 a2 = some x) : QM l G yX5_put wsX5_put rmX5_put [.ref (q 42), .int a1, .int a2] (wM G q st) (wM G q x.2) (some (.int x.1)) := by
  refine QM.of (cc := cX5_put) (maxL := 3) (ret := (some .int)) (by decide) rfl (Nat.le_of_ble_eq_true rfl) ?_
  intro p e s m below meth c A ls C hD hP hS hl
  have hx := C.1
  have hb := C.2.1
  have hl : lv_has ls 3 [(0, .ref (q 42)), (1, .int a1), (2, .int a2)] := hl
  unfold m_put at hf
  refine lv_aload_n hx hb dX5_put_0 rfl (lv_at hl 0 rfl) ?_
  refine lv_iconst (v := 0) hx hb dX5_put_1 (by decide) ?_
  obtain ⟨s1, es1, hf⟩ := nm_ex hf
  refine q_put C hP (dd_M hD) hS wM_o rfl hiX5_put_X5 tyX5_ok nmX5 0 (by decide) wdX5_put_1 rfl rfl rfl (Nat.le_of_ble_eq_true rfl) wM_sI_0 dX5_put_2 (fun H locs hP hS => ?_)
  rw [es1] at hP
  refine lv_aload_n hx hb dX5_put_5 rfl (lv_at hl 0 rfl) ?_
  refine lv_iload_n hx hb dX5_put_6 rfl (lv_at hl 1 rfl) ?_
  obtain ⟨x2, hx2, hf⟩ := bd_some hf
  refine q_Vi C (rc := (RX5, TX5, 42)) (q0 := 0) (ci := 5) (ws' := wM G q s1) (wr := []) (c_X5_isRoot hx2) gX5_put_X5_isRoot rfl ⟨rfl, rfl⟩ hdX5_isRoot ⟨(Nat.le_of_ble_eq_true rfl), (Nat.le_of_ble_eq_true rfl)⟩ rfl hP (dd_M hD) hS rfl rfl (List.Perm.refl _) (List.Perm.refl _) hl.1 (Nat.le_of_ble_eq_true rfl) ⟨Nat.zero_le _, Nat.zero_le _⟩ rfl dX5_put_7 (fun H locs hP hS => ?_)
  refine lv_if_eq (tgt := 35) hx hb dX5_put_10 (by decide) (fun c3 => ?_) (fun c3 => ?_)
  · have hf := if_t c3 hf
    refine lv_iconst (v := (-1)) hx hb dX5_put_35 (by decide) ?_
    cases hf
    exact q_iret C hP hS rfl dX5_put_36
  · have hf := if_f c3 hf
    refine lv_iload_n hx hb dX5_put_13 rfl (lv_at hl 2 rfl) ?_
    refine lv_iconst (v := 0) hx hb dX5_put_14 (by decide) ?_
    refine lv_bipush (v := 20) hx hb dX5_put_15 (by decide) ?_
    obtain ⟨x4, hx4, hf⟩ := bd_some hf
    refine q_Si C (ws' := wM G q s1) (wr := []) (c_X5_within (w := wM G q s1) hx4) gX5_put_X5_within rfl ⟨rfl, rfl⟩ hdX5_within ⟨(Nat.le_of_ble_eq_true rfl), (Nat.le_of_ble_eq_true rfl)⟩ rfl hP (dd_M hD) hS (List.Perm.refl _) (List.Perm.refl _) hl.1 (Nat.le_of_ble_eq_true rfl) ⟨Nat.zero_le _, Nat.zero_le _⟩ rfl dX5_put_17 (fun H locs hP hS => ?_)
    refine lv_if_eq (tgt := 35) hx hb dX5_put_20 (by decide) (fun c5 => ?_) (fun c5 => ?_)
    · have hf := if_t c5 hf
      refine lv_iconst (v := (-1)) hx hb dX5_put_35 (by decide) ?_
      cases hf
      exact q_iret C hP hS rfl dX5_put_36
    · have hf := if_f c5 hf
      refine lv_aload_n hx hb dX5_put_23 rfl (lv_at hl 0 rfl) ?_
      refine lv_iconst (v := 2) hx hb dX5_put_24 (by decide) ?_
      refine lv_iload_n hx hb dX5_put_25 rfl (lv_at hl 2 rfl) ?_
      refine lv_imul hx hb dX5_put_26 ?_
      refine lv_iconst (v := 1) hx hb dX5_put_27 (by decide) ?_
      refine lv_iadd hx hb dX5_put_28 ?_
      obtain ⟨x6, hx6, hf⟩ := bd_some hf
      refine q_Vi C (rc := (RX5, TX5, 42)) (q0 := 0) (ci := 5) (ws' := wM G q s1) (wr := []) (c_X5_hasRoom hx6) gX5_put_X5_hasRoom rfl ⟨rfl, rfl⟩ hdX5_hasRoom ⟨(Nat.le_of_ble_eq_true rfl), (Nat.le_of_ble_eq_true rfl)⟩ rfl hP (dd_M hD) hS rfl rfl (List.Perm.refl _) (List.Perm.refl _) hl.1 (Nat.le_of_ble_eq_true rfl) ⟨Nat.zero_le _, Nat.zero_le _⟩ rfl dX5_put_29 (fun H locs hP hS => ?_)
      refine lv_if_ne (tgt := 37) hx hb dX5_put_32 (by decide) (fun c7 => ?_) (fun c7 => ?_)
      · have hf := if_f c7 hf
        refine lv_aload_n hx hb dX5_put_37 rfl (lv_at hl 0 rfl) ?_
        obtain ⟨x8, hx8, hf⟩ := bd_some hf
        refine q_Vv C (rc := (RX5, TX5, 42)) (q0 := 0) (ci := 5) (ws' := wM G q x8) (wr := []) (c_X5_keepsAhead hx8) gX5_put_X5_keepsAhead rfl ⟨rfl, rfl⟩ hdX5_keepsAhead ⟨(Nat.le_of_ble_eq_true rfl), (Nat.le_of_ble_eq_true rfl)⟩ rfl hP (dd_M hD) hS rfl rfl (List.Perm.refl _) (List.Perm.refl _) hl.1 (Nat.le_of_ble_eq_true rfl) ⟨Nat.zero_le _, Nat.zero_le _⟩ rfl dX5_put_38 (fun H locs hP hS => ?_)
        refine lv_aload_n hx hb dX5_put_41 rfl (lv_at hl 0 rfl) ?_
        refine lv_iload_n hx hb dX5_put_42 rfl (lv_at hl 1 rfl) ?_
        refine lv_aload_n hx hb dX5_put_43 rfl (lv_at hl 0 rfl) ?_
        refine lv_iload_n hx hb dX5_put_44 rfl (lv_at hl 2 rfl) ?_
        obtain ⟨x9, hx9, hf⟩ := bd_some hf
        refine q_Vi C (rc := (RX5, TX5, 42)) (q0 := 0) (ci := 5) (ws' := wM G q x9.2) (wr := []) (c_X5_makesNumber hx9) gX5_put_X5_makesNumber rfl ⟨rfl, rfl⟩ hdX5_makesNumber ⟨(Nat.le_of_ble_eq_true rfl), (Nat.le_of_ble_eq_true rfl)⟩ rfl hP (dd_M hD) hS rfl rfl (List.Perm.refl _) (List.Perm.refl _) hl.1 (Nat.le_of_ble_eq_true rfl) ⟨Nat.zero_le _, Nat.zero_le _⟩ rfl dX5_put_45 (fun H locs hP hS => ?_)
        obtain ⟨x10, hx10, hf⟩ := bd_some hf
        refine q_Vv C (rc := (RX5, TX5, 42)) (q0 := 0) (ci := 5) (ws' := wM G q x10) (wr := []) (c_X5_replaces hx10) gX5_put_X5_replaces rfl ⟨rfl, rfl⟩ hdX5_replaces ⟨(Nat.le_of_ble_eq_true rfl), (Nat.le_of_ble_eq_true rfl)⟩ rfl hP (dd_M hD) hS rfl rfl (List.Perm.refl _) (List.Perm.refl _) hl.1 (Nat.le_of_ble_eq_true rfl) ⟨Nat.zero_le _, Nat.zero_le _⟩ rfl dX5_put_48 (fun H locs hP hS => ?_)
        refine lv_aload_n hx hb dX5_put_51 rfl (lv_at hl 0 rfl) ?_
        refine q_get C hP wM_o rfl hiX5_put_X5 1 (by decide) wdX5_put_2 rfl dX5_put_52 ?_
        refine lv_iconst (v := 1) hx hb dX5_put_55 (by decide) ?_
        refine q_iald C hP wM_a_1 (j := 1) (by decide) (vp_k (j := 1) (by decide) (by decide) (by decide)) dX5_put_56 ?_
        cases hf
        exact q_iret C hP hS rfl dX5_put_57
      · have hf := if_t c7 hf
        refine lv_iconst (v := (-1)) hx hb dX5_put_35 (by decide) ?_
        cases hf
        exact q_iret C hP hS rfl dX5_put_36

-- X5_parts
theorem hiX5_parts_X5 : ∀ w ∈ u_ws RX5 TX5 42, w ∈ wsX5_parts := mem_run (i := 39) (by decide +kernel)
theorem wdX5_parts_1 : (Cond.fieldLink RX5 7 "CombinatorRingModel" "now" "[I") ∈ wsX5_parts := List.mem_of_getElem? (i := 1) rfl
def m_parts_54 : Nat → OSt → Int32 → Int32 → Int32 → Int32 → Option (OSt)
  | 0, _, _, _, _, _ => none
  | n + 1, st, v1, v3, v4, v5 => if 3 ≤ v5 then some st else gd (14 + (st.2 1 6)) 1646 (nm (sA st 1 (upd (st.2 1) (14 + (st.2 1 6)).toNatClampNeg 1)) fun s11 => nm (sA s11 1 (upd (s11.2 1) 6 ((s11.2 1 6) + 1))) fun s12 => bd (m_links s12 ((3 * v3) + v5) (1000 + (st.2 1 6))) fun x13 => m_parts_54 n x13 v1 v3 v4 (v5 + 1))
def m_parts (st : OSt) (a1 : Int32) (a2 : Int32) : Option (Int32 × OSt) := bd (m_isRoot st a1) fun x1 => if x1 = 0 then some ((-1), st) else bd (m_hasRoom st 1) fun x3 => if x3 = 0 then some ((-1), st) else if ((st.2 1 6) + 2) ≤ 16 then bd (m_keepsAhead st) fun x6 => bd (m_makes x6 a2) fun x7 => bd (m_parts_54 20000 x7.2 a1 x7.1 (x7.2.2 1 6) 1) fun x8 => bd (m_replaces x8 a1 (3 * x7.1)) fun x9 => some ((x7.2.2 1 6), x9) else some ((-1), st)
abbrev rmX5_parts : Room := { frames := 2, cells := 0, slots := 0, locals := 45 }
theorem hdX5_parts : yX5_parts.cls = RX5 ∧ yX5_parts.cls ≠ "java/lang/invoke/MethodHandle" ∧ yX5_parts.cls ≠ "java/lang/invoke/VarHandle" ∧ (parseMethodDescriptor yX5_parts.desc).map (fun d => d.parameters.length) = some 2 := by decide +kernel
set_option maxHeartbeats 4000000 in
set_option maxRecDepth 100000 in
theorem t_X5_parts_54 {p : Program} {l : Launch} {e : Env} {s : State} {m : MethodId} {args : Array Value} {below : List Frame} {meth : Method} {c : Code} {Q : State → Prop} {A : Nat → Prop} {G : Gx} {q : Nat → Nat} {st0 : OSt} (C : Cx p s m args meth c G cX5_parts wsX5_parts RX5 (some .int) 7 A) (hD : va_D A (wM G q st0)) :
    ∀ {n : Nat} {st : OSt} {v1 : Int32} {v3 : Int32} {v4 : Int32} {v5 : Int32} {x : OSt}, m_parts_54 n st v1 v3 v4 v5 = some x → ∀ {H : Heap} {locs : List Loc} {ls : Array Slot}, va_P G.1 vwCl (wM G q st) H → va_S A s.heap H locs → lv_has ls 7 [(0, .ref (q 42)), (1, .int v1), (3, .int v3), (4, .int v4), (5, .int v5)] → (∀ {H : Heap} {locs : List Loc} {ls : Array Slot}, va_P G.1 vwCl (wM G q x) H → va_S A s.heap H locs → lv_has ls 7 [(0, .ref (q 42)), (1, .int v1), (3, .int v3), (4, .int v4)] → W p l e rmX5_parts s m args below meth c H locs 0 0 Q (F0 m 113 ls [])) → W p l e rmX5_parts s m args below meth c H locs 0 0 Q (F0 m 54 ls []) := by
  have hx := C.1
  have hb := C.2.1
  intro n
  induction n with
  | zero => intro st v1 v3 v4 v5 x hf; cases hf
  | succ n ih =>
    intro st v1 v3 v4 v5 x hf H locs ls hP hS hl kk
    rw [m_parts_54] at hf
    refine lv_iload hx hb dX5_parts_54 (lv_at hl 4 rfl) ?_
    refine lv_iconst (v := 3) hx hb dX5_parts_56 (by decide) ?_
    refine lv_icmp_ge (tgt := 113) hx hb dX5_parts_57 (by decide) (fun c10 => ?_) (fun c10 => ?_)
    · have hf := if_t c10 hf
      cases hf
      exact kk hP hS (lv_sub hl [0, 1, 2, 3] rfl)
    · have hf := if_f c10 hf
      refine lv_aload_n hx hb dX5_parts_60 rfl (lv_at hl 0 rfl) ?_
      refine q_get C hP wM_o rfl hiX5_parts_X5 1 (by decide) wdX5_parts_1 rfl dX5_parts_61 ?_
      refine lv_bipush (v := 6) hx hb dX5_parts_64 (by decide) ?_
      refine q_iald C hP wM_a_1 (j := 6) (by decide) (vp_k (j := 6) (by decide) (by decide) (by decide)) dX5_parts_66 ?_
      refine lv_istore (lv' := [(6, .int (st.2 1 6)), (0, .ref (q 42)), (1, .int v1), (3, .int v3), (4, .int v4), (5, .int v5)]) hx hb dX5_parts_67 hl (by decide) rfl (fun ls hl => ?_)
      refine lv_aload_n hx hb dX5_parts_69 rfl (lv_at hl 1 rfl) ?_
      refine q_get C hP wM_o rfl hiX5_parts_X5 1 (by decide) wdX5_parts_1 rfl dX5_parts_70 ?_
      refine lv_bipush (v := 14) hx hb dX5_parts_73 (by decide) ?_
      refine lv_iload hx hb dX5_parts_75 (lv_at hl 0 rfl) ?_
      refine lv_iadd hx hb dX5_parts_77 ?_
      refine lv_iconst (v := 1) hx hb dX5_parts_78 (by decide) ?_
      obtain ⟨hin, hf⟩ := gd_some hf
      obtain ⟨s11, es11, hf⟩ := nm_ex hf
      refine q_iast C hP (dd_M hD) hS wM_a_1 rfl wM_sA_1 hin dX5_parts_79 (fun H locs hP hS => ?_)
      rw [es11] at hP
      refine lv_aload_n hx hb dX5_parts_80 rfl (lv_at hl 1 rfl) ?_
      refine q_get C hP wM_o rfl hiX5_parts_X5 1 (by decide) wdX5_parts_1 rfl dX5_parts_81 ?_
      refine lv_bipush (v := 6) hx hb dX5_parts_84 (by decide) ?_
      refine lv_dup2_11 hx hb dX5_parts_86 rfl rfl ?_
      refine q_iald C hP wM_a_1 (j := 6) (by decide) (vp_k (j := 6) (by decide) (by decide) (by decide)) dX5_parts_87 ?_
      refine lv_iconst (v := 1) hx hb dX5_parts_88 (by decide) ?_
      refine lv_iadd hx hb dX5_parts_89 ?_
      obtain ⟨s12, es12, hf⟩ := nm_ex hf
      refine q_iast C hP (dd_M hD) hS wM_a_1 (j := 6) (by decide) wM_sA_1 (vp_k (j := 6) (by decide) (by decide) (by decide)) dX5_parts_90 (fun H locs hP hS => ?_)
      rw [es12] at hP
      refine lv_aload_n hx hb dX5_parts_91 rfl (lv_at hl 1 rfl) ?_
      refine lv_iconst (v := 3) hx hb dX5_parts_92 (by decide) ?_
      refine lv_iload_n hx hb dX5_parts_93 rfl (lv_at hl 3 rfl) ?_
      refine lv_imul hx hb dX5_parts_94 ?_
      refine lv_iload hx hb dX5_parts_95 (lv_at hl 5 rfl) ?_
      refine lv_iadd hx hb dX5_parts_97 ?_
      refine lv_sipush (v := 1000) hx hb dX5_parts_98 (by decide) ?_
      refine lv_iload hx hb dX5_parts_101 (lv_at hl 0 rfl) ?_
      refine lv_iadd hx hb dX5_parts_103 ?_
      obtain ⟨x13, hx13, hf⟩ := bd_some hf
      refine q_Vv C (rc := (RX5, TX5, 42)) (q0 := 0) (ci := 5) (ws' := wM G q x13) (wr := []) (c_X5_links hx13) gX5_parts_X5_links rfl ⟨rfl, rfl⟩ hdX5_links ⟨(Nat.le_of_ble_eq_true rfl), (Nat.le_of_ble_eq_true rfl)⟩ rfl hP (dd_M hD) hS rfl rfl (List.Perm.refl _) (List.Perm.refl _) hl.1 (Nat.le_of_ble_eq_true rfl) ⟨Nat.zero_le _, Nat.zero_le _⟩ rfl dX5_parts_104 (fun H locs hP hS => ?_)
      refine lv_iinc (v := (v5 + 1)) (lv' := [(5, .int (v5 + 1)), (6, .int (st.2 1 6)), (0, .ref (q 42)), (1, .int v1), (3, .int v3), (4, .int v4)]) hx hb dX5_parts_107 hl (k := 5) rfl rfl (by decide) rfl (fun ls hl => ?_)
      refine lv_goto (tgt := 54) hx hb dX5_parts_110 (by decide) ?_
      exact ih hf hP hS (lv_sub hl [2, 3, 4, 5, 0] rfl) kk
set_option maxHeartbeats 4000000 in
set_option maxRecDepth 100000 in
theorem c_X5_parts {l : Launch} {G : Gx} {q : Nat → Nat} {st : OSt} {a1 : Int32} {a2 : Int32} {x : Int32 × OSt} (hf : m_parts st a1 a2 = some x) : QM l G yX5_parts wsX5_parts rmX5_parts [.ref (q 42), .int a1, .int a2] (wM G q st) (wM G q x.2) (some (.int x.1)) := by
  refine QM.of (cc := cX5_parts) (maxL := 7) (ret := (some .int)) (by decide) rfl (Nat.le_of_ble_eq_true rfl) ?_
  intro p e s m below meth c A ls C hD hP hS hl
  have hx := C.1
  have hb := C.2.1
  have hl : lv_has ls 7 [(0, .ref (q 42)), (1, .int a1), (2, .int a2)] := hl
  unfold m_parts at hf
  refine lv_aload_n hx hb dX5_parts_0 rfl (lv_at hl 0 rfl) ?_
  refine lv_iload_n hx hb dX5_parts_1 rfl (lv_at hl 1 rfl) ?_
  obtain ⟨x1, hx1, hf⟩ := bd_some hf
  refine q_Vi C (rc := (RX5, TX5, 42)) (q0 := 0) (ci := 5) (ws' := wM G q st) (wr := []) (c_X5_isRoot hx1) gX5_parts_X5_isRoot rfl ⟨rfl, rfl⟩ hdX5_isRoot ⟨(Nat.le_of_ble_eq_true rfl), (Nat.le_of_ble_eq_true rfl)⟩ rfl hP (dd_M hD) hS rfl rfl (List.Perm.refl _) (List.Perm.refl _) hl.1 (Nat.le_of_ble_eq_true rfl) ⟨Nat.zero_le _, Nat.zero_le _⟩ rfl dX5_parts_2 (fun H locs hP hS => ?_)
  refine lv_if_eq (tgt := 30) hx hb dX5_parts_5 (by decide) (fun c2 => ?_) (fun c2 => ?_)
  · have hf := if_t c2 hf
    refine lv_iconst (v := (-1)) hx hb dX5_parts_30 (by decide) ?_
    cases hf
    exact q_iret C hP hS rfl dX5_parts_31
  · have hf := if_f c2 hf
    refine lv_aload_n hx hb dX5_parts_8 rfl (lv_at hl 0 rfl) ?_
    refine lv_iconst (v := 1) hx hb dX5_parts_9 (by decide) ?_
    obtain ⟨x3, hx3, hf⟩ := bd_some hf
    refine q_Vi C (rc := (RX5, TX5, 42)) (q0 := 0) (ci := 5) (ws' := wM G q st) (wr := []) (c_X5_hasRoom hx3) gX5_parts_X5_hasRoom rfl ⟨rfl, rfl⟩ hdX5_hasRoom ⟨(Nat.le_of_ble_eq_true rfl), (Nat.le_of_ble_eq_true rfl)⟩ rfl hP (dd_M hD) hS rfl rfl (List.Perm.refl _) (List.Perm.refl _) hl.1 (Nat.le_of_ble_eq_true rfl) ⟨Nat.zero_le _, Nat.zero_le _⟩ rfl dX5_parts_10 (fun H locs hP hS => ?_)
    refine lv_if_eq (tgt := 30) hx hb dX5_parts_13 (by decide) (fun c4 => ?_) (fun c4 => ?_)
    · have hf := if_t c4 hf
      refine lv_iconst (v := (-1)) hx hb dX5_parts_30 (by decide) ?_
      cases hf
      exact q_iret C hP hS rfl dX5_parts_31
    · have hf := if_f c4 hf
      refine lv_aload_n hx hb dX5_parts_16 rfl (lv_at hl 0 rfl) ?_
      refine q_get C hP wM_o rfl hiX5_parts_X5 1 (by decide) wdX5_parts_1 rfl dX5_parts_17 ?_
      refine lv_bipush (v := 6) hx hb dX5_parts_20 (by decide) ?_
      refine q_iald C hP wM_a_1 (j := 6) (by decide) (vp_k (j := 6) (by decide) (by decide) (by decide)) dX5_parts_22 ?_
      refine lv_iconst (v := 2) hx hb dX5_parts_23 (by decide) ?_
      refine lv_iadd hx hb dX5_parts_24 ?_
      refine lv_bipush (v := 16) hx hb dX5_parts_25 (by decide) ?_
      refine lv_icmp_le (tgt := 32) hx hb dX5_parts_27 (by decide) (fun c5 => ?_) (fun c5 => ?_)
      · have hf := if_t c5 hf
        refine lv_aload_n hx hb dX5_parts_32 rfl (lv_at hl 0 rfl) ?_
        obtain ⟨x6, hx6, hf⟩ := bd_some hf
        refine q_Vv C (rc := (RX5, TX5, 42)) (q0 := 0) (ci := 5) (ws' := wM G q x6) (wr := []) (c_X5_keepsAhead hx6) gX5_parts_X5_keepsAhead rfl ⟨rfl, rfl⟩ hdX5_keepsAhead ⟨(Nat.le_of_ble_eq_true rfl), (Nat.le_of_ble_eq_true rfl)⟩ rfl hP (dd_M hD) hS rfl rfl (List.Perm.refl _) (List.Perm.refl _) hl.1 (Nat.le_of_ble_eq_true rfl) ⟨Nat.zero_le _, Nat.zero_le _⟩ rfl dX5_parts_33 (fun H locs hP hS => ?_)
        refine lv_aload_n hx hb dX5_parts_36 rfl (lv_at hl 0 rfl) ?_
        refine lv_iload_n hx hb dX5_parts_37 rfl (lv_at hl 2 rfl) ?_
        obtain ⟨x7, hx7, hf⟩ := bd_some hf
        refine q_Vi C (rc := (RX5, TX5, 42)) (q0 := 0) (ci := 5) (ws' := wM G q x7.2) (wr := []) (c_X5_makes hx7) gX5_parts_X5_makes rfl ⟨rfl, rfl⟩ hdX5_makes ⟨(Nat.le_of_ble_eq_true rfl), (Nat.le_of_ble_eq_true rfl)⟩ rfl hP (dd_M hD) hS rfl rfl (List.Perm.refl _) (List.Perm.refl _) hl.1 (Nat.le_of_ble_eq_true rfl) ⟨Nat.zero_le _, Nat.zero_le _⟩ rfl dX5_parts_38 (fun H locs hP hS => ?_)
        refine lv_istore_n (lv' := [(3, .int x7.1), (0, .ref (q 42)), (1, .int a1), (2, .int a2)]) hx hb dX5_parts_41 rfl hl (by decide) rfl (fun ls hl => ?_)
        refine lv_aload_n hx hb dX5_parts_42 rfl (lv_at hl 1 rfl) ?_
        refine q_get C hP wM_o rfl hiX5_parts_X5 1 (by decide) wdX5_parts_1 rfl dX5_parts_43 ?_
        refine lv_bipush (v := 6) hx hb dX5_parts_46 (by decide) ?_
        refine q_iald C hP wM_a_1 (j := 6) (by decide) (vp_k (j := 6) (by decide) (by decide) (by decide)) dX5_parts_48 ?_
        refine lv_istore (lv' := [(4, .int (x7.2.2 1 6)), (3, .int x7.1), (0, .ref (q 42)), (1, .int a1), (2, .int a2)]) hx hb dX5_parts_49 hl (by decide) rfl (fun ls hl => ?_)
        refine lv_iconst (v := 1) hx hb dX5_parts_51 (by decide) ?_
        refine lv_istore (lv' := [(5, .int 1), (4, .int (x7.2.2 1 6)), (3, .int x7.1), (0, .ref (q 42)), (1, .int a1), (2, .int a2)]) hx hb dX5_parts_52 hl (by decide) rfl (fun ls hl => ?_)
        obtain ⟨x8, hx8, hf⟩ := bd_some hf
        refine t_X5_parts_54 C hD hx8 hP hS (lv_sub hl [3, 4, 2, 1, 0] rfl) (fun {H locs ls} hP hS hl => ?_)
        refine lv_aload_n hx hb dX5_parts_113 rfl (lv_at hl 0 rfl) ?_
        refine lv_iload_n hx hb dX5_parts_114 rfl (lv_at hl 1 rfl) ?_
        refine lv_iconst (v := 3) hx hb dX5_parts_115 (by decide) ?_
        refine lv_iload_n hx hb dX5_parts_116 rfl (lv_at hl 2 rfl) ?_
        refine lv_imul hx hb dX5_parts_117 ?_
        obtain ⟨x9, hx9, hf⟩ := bd_some hf
        refine q_Vv C (rc := (RX5, TX5, 42)) (q0 := 0) (ci := 5) (ws' := wM G q x9) (wr := []) (c_X5_replaces hx9) gX5_parts_X5_replaces rfl ⟨rfl, rfl⟩ hdX5_replaces ⟨(Nat.le_of_ble_eq_true rfl), (Nat.le_of_ble_eq_true rfl)⟩ rfl hP (dd_M hD) hS rfl rfl (List.Perm.refl _) (List.Perm.refl _) hl.1 (Nat.le_of_ble_eq_true rfl) ⟨Nat.zero_le _, Nat.zero_le _⟩ rfl dX5_parts_118 (fun H locs hP hS => ?_)
        refine lv_iload hx hb dX5_parts_121 (lv_at hl 3 rfl) ?_
        cases hf
        exact q_iret C hP hS rfl dX5_parts_123
      · have hf := if_f c5 hf
        refine lv_iconst (v := (-1)) hx hb dX5_parts_30 (by decide) ?_
        cases hf
        exact q_iret C hP hS rfl dX5_parts_31

-- X5_split
theorem hiX5_split_X5 : ∀ w ∈ u_ws RX5 TX5 42, w ∈ wsX5_split := mem_run (i := 44) (by decide +kernel)
theorem wdX5_split_1 : (Cond.fieldLink RX5 1 "CombinatorRingModel" "thrown" "I") ∈ wsX5_split := List.mem_of_getElem? (i := 1) rfl
def m_split (st : OSt) (a1 : Int32) : Option (Int32 × OSt) := nm (sI st 0 0) fun s1 => bd (m_parts s1 a1 1) fun x2 => some (x2.1, x2.2)
abbrev rmX5_split : Room := { frames := 3, cells := 0, slots := 0, locals := 71 }
theorem hdX5_split : yX5_split.cls = RX5 ∧ yX5_split.cls ≠ "java/lang/invoke/MethodHandle" ∧ yX5_split.cls ≠ "java/lang/invoke/VarHandle" ∧ (parseMethodDescriptor yX5_split.desc).map (fun d => d.parameters.length) = some 1 := by decide +kernel
set_option maxHeartbeats 4000000 in
set_option maxRecDepth 100000 in
theorem c_X5_split {l : Launch} {G : Gx} {q : Nat → Nat} {st : OSt} {a1 : Int32} {x : Int32 × OSt} (hf : m_split st a1 = some x) : QM l G yX5_split wsX5_split rmX5_split [.ref (q 42), .int a1] (wM G q st) (wM G q x.2) (some (.int x.1)) := by
  refine QM.of (cc := cX5_split) (maxL := 2) (ret := (some .int)) (by decide) rfl (Nat.le_of_ble_eq_true rfl) ?_
  intro p e s m below meth c A ls C hD hP hS hl
  have hx := C.1
  have hb := C.2.1
  have hl : lv_has ls 2 [(0, .ref (q 42)), (1, .int a1)] := hl
  unfold m_split at hf
  refine lv_aload_n hx hb dX5_split_0 rfl (lv_at hl 0 rfl) ?_
  refine lv_iconst (v := 0) hx hb dX5_split_1 (by decide) ?_
  obtain ⟨s1, es1, hf⟩ := nm_ex hf
  refine q_put C hP (dd_M hD) hS wM_o rfl hiX5_split_X5 tyX5_ok nmX5 0 (by decide) wdX5_split_1 rfl rfl rfl (Nat.le_of_ble_eq_true rfl) wM_sI_0 dX5_split_2 (fun H locs hP hS => ?_)
  rw [es1] at hP
  refine lv_aload_n hx hb dX5_split_5 rfl (lv_at hl 0 rfl) ?_
  refine lv_iload_n hx hb dX5_split_6 rfl (lv_at hl 1 rfl) ?_
  refine lv_iconst (v := 1) hx hb dX5_split_7 (by decide) ?_
  obtain ⟨x2, hx2, hf⟩ := bd_some hf
  refine q_Vi C (rc := (RX5, TX5, 42)) (q0 := 0) (ci := 5) (ws' := wM G q x2.2) (wr := []) (c_X5_parts hx2) gX5_split_X5_parts rfl ⟨rfl, rfl⟩ hdX5_parts ⟨(Nat.le_of_ble_eq_true rfl), (Nat.le_of_ble_eq_true rfl)⟩ rfl hP (dd_M hD) hS rfl rfl (List.Perm.refl _) (List.Perm.refl _) hl.1 (Nat.le_of_ble_eq_true rfl) ⟨Nat.zero_le _, Nat.zero_le _⟩ rfl dX5_split_8 (fun H locs hP hS => ?_)
  cases hf
  exact q_iret C hP hS rfl dX5_split_11

-- X5_twice
theorem hiX5_twice_X5 : ∀ w ∈ u_ws RX5 TX5 42, w ∈ wsX5_twice := mem_run (i := 44) (by decide +kernel)
theorem wdX5_twice_1 : (Cond.fieldLink RX5 1 "CombinatorRingModel" "thrown" "I") ∈ wsX5_twice := List.mem_of_getElem? (i := 1) rfl
def m_twice (st : OSt) (a1 : Int32) : Option (Int32 × OSt) := nm (sI st 0 0) fun s1 => bd (m_parts s1 a1 2) fun x2 => some (x2.1, x2.2)
abbrev rmX5_twice : Room := { frames := 3, cells := 0, slots := 0, locals := 71 }
theorem hdX5_twice : yX5_twice.cls = RX5 ∧ yX5_twice.cls ≠ "java/lang/invoke/MethodHandle" ∧ yX5_twice.cls ≠ "java/lang/invoke/VarHandle" ∧ (parseMethodDescriptor yX5_twice.desc).map (fun d => d.parameters.length) = some 1 := by decide +kernel
set_option maxHeartbeats 4000000 in
set_option maxRecDepth 100000 in
theorem c_X5_twice {l : Launch} {G : Gx} {q : Nat → Nat} {st : OSt} {a1 : Int32} {x : Int32 × OSt} (hf : m_twice st a1 = some x) : QM l G yX5_twice wsX5_twice rmX5_twice [.ref (q 42), .int a1] (wM G q st) (wM G q x.2) (some (.int x.1)) := by
  refine QM.of (cc := cX5_twice) (maxL := 2) (ret := (some .int)) (by decide) rfl (Nat.le_of_ble_eq_true rfl) ?_
  intro p e s m below meth c A ls C hD hP hS hl
  have hx := C.1
  have hb := C.2.1
  have hl : lv_has ls 2 [(0, .ref (q 42)), (1, .int a1)] := hl
  unfold m_twice at hf
  refine lv_aload_n hx hb dX5_twice_0 rfl (lv_at hl 0 rfl) ?_
  refine lv_iconst (v := 0) hx hb dX5_twice_1 (by decide) ?_
  obtain ⟨s1, es1, hf⟩ := nm_ex hf
  refine q_put C hP (dd_M hD) hS wM_o rfl hiX5_twice_X5 tyX5_ok nmX5 0 (by decide) wdX5_twice_1 rfl rfl rfl (Nat.le_of_ble_eq_true rfl) wM_sI_0 dX5_twice_2 (fun H locs hP hS => ?_)
  rw [es1] at hP
  refine lv_aload_n hx hb dX5_twice_5 rfl (lv_at hl 0 rfl) ?_
  refine lv_iload_n hx hb dX5_twice_6 rfl (lv_at hl 1 rfl) ?_
  refine lv_iconst (v := 2) hx hb dX5_twice_7 (by decide) ?_
  obtain ⟨x2, hx2, hf⟩ := bd_some hf
  refine q_Vi C (rc := (RX5, TX5, 42)) (q0 := 0) (ci := 5) (ws' := wM G q x2.2) (wr := []) (c_X5_parts hx2) gX5_twice_X5_parts rfl ⟨rfl, rfl⟩ hdX5_parts ⟨(Nat.le_of_ble_eq_true rfl), (Nat.le_of_ble_eq_true rfl)⟩ rfl hP (dd_M hD) hS rfl rfl (List.Perm.refl _) (List.Perm.refl _) hl.1 (Nat.le_of_ble_eq_true rfl) ⟨Nat.zero_le _, Nat.zero_le _⟩ rfl dX5_twice_8 (fun H locs hP hS => ?_)
  cases hf
  exact q_iret C hP hS rfl dX5_twice_11

-- X5_drop
theorem hiX5_drop_X5 : ∀ w ∈ u_ws RX5 TX5 42, w ∈ wsX5_drop := mem_run (i := 40) (by decide +kernel)
theorem wdX5_drop_2 : (Cond.fieldLink RX5 7 "CombinatorRingModel" "now" "[I") ∈ wsX5_drop := List.mem_of_getElem? (i := 2) rfl
theorem wdX5_drop_1 : (Cond.fieldLink RX5 1 "CombinatorRingModel" "thrown" "I") ∈ wsX5_drop := List.mem_of_getElem? (i := 1) rfl
def m_drop (st : OSt) (a1 : Int32) : Option (Int32 × OSt) := nm (sI st 0 0) fun s1 => bd (m_isRoot s1 a1) fun x2 => if x2 = 0 then some ((-1), s1) else bd (m_hasRoom s1 1) fun x4 => if x4 = 0 then some ((-1), s1) else bd (m_keepsAhead s1) fun x6 => bd (m_makes x6 0) fun x7 => bd (m_replaces x7.2 a1 (3 * x7.1)) fun x8 => some ((x8.2 1 1), x8)
abbrev rmX5_drop : Room := { frames := 2, cells := 0, slots := 0, locals := 45 }
theorem hdX5_drop : yX5_drop.cls = RX5 ∧ yX5_drop.cls ≠ "java/lang/invoke/MethodHandle" ∧ yX5_drop.cls ≠ "java/lang/invoke/VarHandle" ∧ (parseMethodDescriptor yX5_drop.desc).map (fun d => d.parameters.length) = some 1 := by decide +kernel
set_option maxHeartbeats 4000000 in
set_option maxRecDepth 100000 in
theorem c_X5_drop {l : Launch} {G : Gx} {q : Nat → Nat} {st : OSt} {a1 : Int32} {x : Int32 × OSt} (hf : m_drop st a1 = some x) : QM l G yX5_drop wsX5_drop rmX5_drop [.ref (q 42), .int a1] (wM G q st) (wM G q x.2) (some (.int x.1)) := by
  refine QM.of (cc := cX5_drop) (maxL := 2) (ret := (some .int)) (by decide) rfl (Nat.le_of_ble_eq_true rfl) ?_
  intro p e s m below meth c A ls C hD hP hS hl
  have hx := C.1
  have hb := C.2.1
  have hl : lv_has ls 2 [(0, .ref (q 42)), (1, .int a1)] := hl
  unfold m_drop at hf
  refine lv_aload_n hx hb dX5_drop_0 rfl (lv_at hl 0 rfl) ?_
  refine lv_iconst (v := 0) hx hb dX5_drop_1 (by decide) ?_
  obtain ⟨s1, es1, hf⟩ := nm_ex hf
  refine q_put C hP (dd_M hD) hS wM_o rfl hiX5_drop_X5 tyX5_ok nmX5 0 (by decide) wdX5_drop_1 rfl rfl rfl (Nat.le_of_ble_eq_true rfl) wM_sI_0 dX5_drop_2 (fun H locs hP hS => ?_)
  rw [es1] at hP
  refine lv_aload_n hx hb dX5_drop_5 rfl (lv_at hl 0 rfl) ?_
  refine lv_iload_n hx hb dX5_drop_6 rfl (lv_at hl 1 rfl) ?_
  obtain ⟨x2, hx2, hf⟩ := bd_some hf
  refine q_Vi C (rc := (RX5, TX5, 42)) (q0 := 0) (ci := 5) (ws' := wM G q s1) (wr := []) (c_X5_isRoot hx2) gX5_drop_X5_isRoot rfl ⟨rfl, rfl⟩ hdX5_isRoot ⟨(Nat.le_of_ble_eq_true rfl), (Nat.le_of_ble_eq_true rfl)⟩ rfl hP (dd_M hD) hS rfl rfl (List.Perm.refl _) (List.Perm.refl _) hl.1 (Nat.le_of_ble_eq_true rfl) ⟨Nat.zero_le _, Nat.zero_le _⟩ rfl dX5_drop_7 (fun H locs hP hS => ?_)
  refine lv_if_eq (tgt := 21) hx hb dX5_drop_10 (by decide) (fun c3 => ?_) (fun c3 => ?_)
  · have hf := if_t c3 hf
    refine lv_iconst (v := (-1)) hx hb dX5_drop_21 (by decide) ?_
    cases hf
    exact q_iret C hP hS rfl dX5_drop_22
  · have hf := if_f c3 hf
    refine lv_aload_n hx hb dX5_drop_13 rfl (lv_at hl 0 rfl) ?_
    refine lv_iconst (v := 1) hx hb dX5_drop_14 (by decide) ?_
    obtain ⟨x4, hx4, hf⟩ := bd_some hf
    refine q_Vi C (rc := (RX5, TX5, 42)) (q0 := 0) (ci := 5) (ws' := wM G q s1) (wr := []) (c_X5_hasRoom hx4) gX5_drop_X5_hasRoom rfl ⟨rfl, rfl⟩ hdX5_hasRoom ⟨(Nat.le_of_ble_eq_true rfl), (Nat.le_of_ble_eq_true rfl)⟩ rfl hP (dd_M hD) hS rfl rfl (List.Perm.refl _) (List.Perm.refl _) hl.1 (Nat.le_of_ble_eq_true rfl) ⟨Nat.zero_le _, Nat.zero_le _⟩ rfl dX5_drop_15 (fun H locs hP hS => ?_)
    refine lv_if_ne (tgt := 23) hx hb dX5_drop_18 (by decide) (fun c5 => ?_) (fun c5 => ?_)
    · have hf := if_f c5 hf
      refine lv_aload_n hx hb dX5_drop_23 rfl (lv_at hl 0 rfl) ?_
      obtain ⟨x6, hx6, hf⟩ := bd_some hf
      refine q_Vv C (rc := (RX5, TX5, 42)) (q0 := 0) (ci := 5) (ws' := wM G q x6) (wr := []) (c_X5_keepsAhead hx6) gX5_drop_X5_keepsAhead rfl ⟨rfl, rfl⟩ hdX5_keepsAhead ⟨(Nat.le_of_ble_eq_true rfl), (Nat.le_of_ble_eq_true rfl)⟩ rfl hP (dd_M hD) hS rfl rfl (List.Perm.refl _) (List.Perm.refl _) hl.1 (Nat.le_of_ble_eq_true rfl) ⟨Nat.zero_le _, Nat.zero_le _⟩ rfl dX5_drop_24 (fun H locs hP hS => ?_)
      refine lv_aload_n hx hb dX5_drop_27 rfl (lv_at hl 0 rfl) ?_
      refine lv_iload_n hx hb dX5_drop_28 rfl (lv_at hl 1 rfl) ?_
      refine lv_iconst (v := 3) hx hb dX5_drop_29 (by decide) ?_
      refine lv_aload_n hx hb dX5_drop_30 rfl (lv_at hl 0 rfl) ?_
      refine lv_iconst (v := 0) hx hb dX5_drop_31 (by decide) ?_
      obtain ⟨x7, hx7, hf⟩ := bd_some hf
      refine q_Vi C (rc := (RX5, TX5, 42)) (q0 := 0) (ci := 5) (ws' := wM G q x7.2) (wr := []) (c_X5_makes hx7) gX5_drop_X5_makes rfl ⟨rfl, rfl⟩ hdX5_makes ⟨(Nat.le_of_ble_eq_true rfl), (Nat.le_of_ble_eq_true rfl)⟩ rfl hP (dd_M hD) hS rfl rfl (List.Perm.refl _) (List.Perm.refl _) hl.1 (Nat.le_of_ble_eq_true rfl) ⟨Nat.zero_le _, Nat.zero_le _⟩ rfl dX5_drop_32 (fun H locs hP hS => ?_)
      refine lv_imul hx hb dX5_drop_35 ?_
      obtain ⟨x8, hx8, hf⟩ := bd_some hf
      refine q_Vv C (rc := (RX5, TX5, 42)) (q0 := 0) (ci := 5) (ws' := wM G q x8) (wr := []) (c_X5_replaces hx8) gX5_drop_X5_replaces rfl ⟨rfl, rfl⟩ hdX5_replaces ⟨(Nat.le_of_ble_eq_true rfl), (Nat.le_of_ble_eq_true rfl)⟩ rfl hP (dd_M hD) hS rfl rfl (List.Perm.refl _) (List.Perm.refl _) hl.1 (Nat.le_of_ble_eq_true rfl) ⟨Nat.zero_le _, Nat.zero_le _⟩ rfl dX5_drop_36 (fun H locs hP hS => ?_)
      refine lv_aload_n hx hb dX5_drop_39 rfl (lv_at hl 0 rfl) ?_
      refine q_get C hP wM_o rfl hiX5_drop_X5 1 (by decide) wdX5_drop_2 rfl dX5_drop_40 ?_
      refine lv_iconst (v := 1) hx hb dX5_drop_43 (by decide) ?_
      refine q_iald C hP wM_a_1 (j := 1) (by decide) (vp_k (j := 1) (by decide) (by decide) (by decide)) dX5_drop_44 ?_
      cases hf
      exact q_iret C hP hS rfl dX5_drop_45
    · have hf := if_t c5 hf
      refine lv_iconst (v := (-1)) hx hb dX5_drop_21 (by decide) ?_
      cases hf
      exact q_iret C hP hS rfl dX5_drop_22

-- X5_join
theorem hiX5_join_X5 : ∀ w ∈ u_ws RX5 TX5 42, w ∈ wsX5_join := mem_run (i := 32) (by decide +kernel)
theorem wdX5_join_2 : (Cond.fieldLink RX5 7 "CombinatorRingModel" "now" "[I") ∈ wsX5_join := List.mem_of_getElem? (i := 2) rfl
theorem wdX5_join_1 : (Cond.fieldLink RX5 1 "CombinatorRingModel" "thrown" "I") ∈ wsX5_join := List.mem_of_getElem? (i := 1) rfl
def m_join (st : OSt) (a1 : Int32) (a2 : Int32) : Option (Int32 × OSt) := nm (sI st 0 0) fun s1 => bd (m_isRoot s1 a1) fun x2 => if x2 = 0 then some ((-1), s1) else bd (m_isRoot s1 a2) fun x4 => if x4 = 0 then some ((-1), s1) else if a1 = a2 then some ((-1), s1) else bd (m_keepsAhead s1) fun x7 => bd (m_linkOf x7 (1000 + a1)) fun x8 => bd (m_linkOf x7 (1000 + a2)) fun x9 => gd (14 + a1) 1646 (nm (sA x7 1 (upd (x7.2 1) (14 + a1).toNatClampNeg 0)) fun s10 => gd (14 + a2) 1646 (nm (sA s10 1 (upd (s10.2 1) (14 + a2).toNatClampNeg 0)) fun s11 => if x8 = (1000 + a2) then nm (sA s11 1 (upd (s11.2 1) 7 ((s11.2 1 7) + 1))) fun s15 => bd (m_roots s15) fun x16 => some (x16, s15) else bd (m_links s11 x8 x9) fun x13 => bd (m_roots x13) fun x14 => some (x14, x13)))
abbrev rmX5_join : Room := { frames := 2, cells := 0, slots := 0, locals := 45 }
theorem hdX5_join : yX5_join.cls = RX5 ∧ yX5_join.cls ≠ "java/lang/invoke/MethodHandle" ∧ yX5_join.cls ≠ "java/lang/invoke/VarHandle" ∧ (parseMethodDescriptor yX5_join.desc).map (fun d => d.parameters.length) = some 2 := by decide +kernel
set_option maxHeartbeats 4000000 in
set_option maxRecDepth 100000 in
theorem c_X5_join {l : Launch} {G : Gx} {q : Nat → Nat} {st : OSt} {a1 : Int32} {a2 : Int32} {x : Int32 × OSt} (hf : m_join st a1 a2 = some x) : QM l G yX5_join wsX5_join rmX5_join [.ref (q 42), .int a1, .int a2] (wM G q st) (wM G q x.2) (some (.int x.1)) := by
  refine QM.of (cc := cX5_join) (maxL := 5) (ret := (some .int)) (by decide) rfl (Nat.le_of_ble_eq_true rfl) ?_
  intro p e s m below meth c A ls C hD hP hS hl
  have hx := C.1
  have hb := C.2.1
  have hl : lv_has ls 5 [(0, .ref (q 42)), (1, .int a1), (2, .int a2)] := hl
  unfold m_join at hf
  refine lv_aload_n hx hb dX5_join_0 rfl (lv_at hl 0 rfl) ?_
  refine lv_iconst (v := 0) hx hb dX5_join_1 (by decide) ?_
  obtain ⟨s1, es1, hf⟩ := nm_ex hf
  refine q_put C hP (dd_M hD) hS wM_o rfl hiX5_join_X5 tyX5_ok nmX5 0 (by decide) wdX5_join_1 rfl rfl rfl (Nat.le_of_ble_eq_true rfl) wM_sI_0 dX5_join_2 (fun H locs hP hS => ?_)
  rw [es1] at hP
  refine lv_aload_n hx hb dX5_join_5 rfl (lv_at hl 0 rfl) ?_
  refine lv_iload_n hx hb dX5_join_6 rfl (lv_at hl 1 rfl) ?_
  obtain ⟨x2, hx2, hf⟩ := bd_some hf
  refine q_Vi C (rc := (RX5, TX5, 42)) (q0 := 0) (ci := 5) (ws' := wM G q s1) (wr := []) (c_X5_isRoot hx2) gX5_join_X5_isRoot rfl ⟨rfl, rfl⟩ hdX5_isRoot ⟨(Nat.le_of_ble_eq_true rfl), (Nat.le_of_ble_eq_true rfl)⟩ rfl hP (dd_M hD) hS rfl rfl (List.Perm.refl _) (List.Perm.refl _) hl.1 (Nat.le_of_ble_eq_true rfl) ⟨Nat.zero_le _, Nat.zero_le _⟩ rfl dX5_join_7 (fun H locs hP hS => ?_)
  refine lv_if_eq (tgt := 26) hx hb dX5_join_10 (by decide) (fun c3 => ?_) (fun c3 => ?_)
  · have hf := if_t c3 hf
    refine lv_iconst (v := (-1)) hx hb dX5_join_26 (by decide) ?_
    cases hf
    exact q_iret C hP hS rfl dX5_join_27
  · have hf := if_f c3 hf
    refine lv_aload_n hx hb dX5_join_13 rfl (lv_at hl 0 rfl) ?_
    refine lv_iload_n hx hb dX5_join_14 rfl (lv_at hl 2 rfl) ?_
    obtain ⟨x4, hx4, hf⟩ := bd_some hf
    refine q_Vi C (rc := (RX5, TX5, 42)) (q0 := 0) (ci := 5) (ws' := wM G q s1) (wr := []) (c_X5_isRoot hx4) gX5_join_X5_isRoot rfl ⟨rfl, rfl⟩ hdX5_isRoot ⟨(Nat.le_of_ble_eq_true rfl), (Nat.le_of_ble_eq_true rfl)⟩ rfl hP (dd_M hD) hS rfl rfl (List.Perm.refl _) (List.Perm.refl _) hl.1 (Nat.le_of_ble_eq_true rfl) ⟨Nat.zero_le _, Nat.zero_le _⟩ rfl dX5_join_15 (fun H locs hP hS => ?_)
    refine lv_if_eq (tgt := 26) hx hb dX5_join_18 (by decide) (fun c5 => ?_) (fun c5 => ?_)
    · have hf := if_t c5 hf
      refine lv_iconst (v := (-1)) hx hb dX5_join_26 (by decide) ?_
      cases hf
      exact q_iret C hP hS rfl dX5_join_27
    · have hf := if_f c5 hf
      refine lv_iload_n hx hb dX5_join_21 rfl (lv_at hl 1 rfl) ?_
      refine lv_iload_n hx hb dX5_join_22 rfl (lv_at hl 2 rfl) ?_
      refine lv_icmp_ne (tgt := 28) hx hb dX5_join_23 (by decide) (fun c6 => ?_) (fun c6 => ?_)
      · have hf := if_f c6 hf
        refine lv_aload_n hx hb dX5_join_28 rfl (lv_at hl 0 rfl) ?_
        obtain ⟨x7, hx7, hf⟩ := bd_some hf
        refine q_Vv C (rc := (RX5, TX5, 42)) (q0 := 0) (ci := 5) (ws' := wM G q x7) (wr := []) (c_X5_keepsAhead hx7) gX5_join_X5_keepsAhead rfl ⟨rfl, rfl⟩ hdX5_keepsAhead ⟨(Nat.le_of_ble_eq_true rfl), (Nat.le_of_ble_eq_true rfl)⟩ rfl hP (dd_M hD) hS rfl rfl (List.Perm.refl _) (List.Perm.refl _) hl.1 (Nat.le_of_ble_eq_true rfl) ⟨Nat.zero_le _, Nat.zero_le _⟩ rfl dX5_join_29 (fun H locs hP hS => ?_)
        refine lv_aload_n hx hb dX5_join_32 rfl (lv_at hl 0 rfl) ?_
        refine lv_sipush (v := 1000) hx hb dX5_join_33 (by decide) ?_
        refine lv_iload_n hx hb dX5_join_36 rfl (lv_at hl 1 rfl) ?_
        refine lv_iadd hx hb dX5_join_37 ?_
        obtain ⟨x8, hx8, hf⟩ := bd_some hf
        refine q_Vi C (rc := (RX5, TX5, 42)) (q0 := 0) (ci := 5) (ws' := wM G q x7) (wr := []) (c_X5_linkOf hx8) gX5_join_X5_linkOf rfl ⟨rfl, rfl⟩ hdX5_linkOf ⟨(Nat.le_of_ble_eq_true rfl), (Nat.le_of_ble_eq_true rfl)⟩ rfl hP (dd_M hD) hS rfl rfl (List.Perm.refl _) (List.Perm.refl _) hl.1 (Nat.le_of_ble_eq_true rfl) ⟨Nat.zero_le _, Nat.zero_le _⟩ rfl dX5_join_38 (fun H locs hP hS => ?_)
        refine lv_istore_n (lv' := [(3, .int x8), (0, .ref (q 42)), (1, .int a1), (2, .int a2)]) hx hb dX5_join_41 rfl hl (by decide) rfl (fun ls hl => ?_)
        refine lv_aload_n hx hb dX5_join_42 rfl (lv_at hl 1 rfl) ?_
        refine lv_sipush (v := 1000) hx hb dX5_join_43 (by decide) ?_
        refine lv_iload_n hx hb dX5_join_46 rfl (lv_at hl 3 rfl) ?_
        refine lv_iadd hx hb dX5_join_47 ?_
        obtain ⟨x9, hx9, hf⟩ := bd_some hf
        refine q_Vi C (rc := (RX5, TX5, 42)) (q0 := 0) (ci := 5) (ws' := wM G q x7) (wr := []) (c_X5_linkOf hx9) gX5_join_X5_linkOf rfl ⟨rfl, rfl⟩ hdX5_linkOf ⟨(Nat.le_of_ble_eq_true rfl), (Nat.le_of_ble_eq_true rfl)⟩ rfl hP (dd_M hD) hS rfl rfl (List.Perm.refl _) (List.Perm.refl _) hl.1 (Nat.le_of_ble_eq_true rfl) ⟨Nat.zero_le _, Nat.zero_le _⟩ rfl dX5_join_48 (fun H locs hP hS => ?_)
        refine lv_istore (lv' := [(4, .int x9), (3, .int x8), (0, .ref (q 42)), (1, .int a1), (2, .int a2)]) hx hb dX5_join_51 hl (by decide) rfl (fun ls hl => ?_)
        refine lv_aload_n hx hb dX5_join_53 rfl (lv_at hl 2 rfl) ?_
        refine q_get C hP wM_o rfl hiX5_join_X5 1 (by decide) wdX5_join_2 rfl dX5_join_54 ?_
        refine lv_bipush (v := 14) hx hb dX5_join_57 (by decide) ?_
        refine lv_iload_n hx hb dX5_join_59 rfl (lv_at hl 3 rfl) ?_
        refine lv_iadd hx hb dX5_join_60 ?_
        refine lv_iconst (v := 0) hx hb dX5_join_61 (by decide) ?_
        obtain ⟨hin, hf⟩ := gd_some hf
        obtain ⟨s10, es10, hf⟩ := nm_ex hf
        refine q_iast C hP (dd_M hD) hS wM_a_1 rfl wM_sA_1 hin dX5_join_62 (fun H locs hP hS => ?_)
        rw [es10] at hP
        refine lv_aload_n hx hb dX5_join_63 rfl (lv_at hl 2 rfl) ?_
        refine q_get C hP wM_o rfl hiX5_join_X5 1 (by decide) wdX5_join_2 rfl dX5_join_64 ?_
        refine lv_bipush (v := 14) hx hb dX5_join_67 (by decide) ?_
        refine lv_iload_n hx hb dX5_join_69 rfl (lv_at hl 4 rfl) ?_
        refine lv_iadd hx hb dX5_join_70 ?_
        refine lv_iconst (v := 0) hx hb dX5_join_71 (by decide) ?_
        obtain ⟨hin, hf⟩ := gd_some hf
        obtain ⟨s11, es11, hf⟩ := nm_ex hf
        refine q_iast C hP (dd_M hD) hS wM_a_1 rfl wM_sA_1 hin dX5_join_72 (fun H locs hP hS => ?_)
        rw [es11] at hP
        refine lv_iload_n hx hb dX5_join_73 rfl (lv_at hl 1 rfl) ?_
        refine lv_sipush (v := 1000) hx hb dX5_join_74 (by decide) ?_
        refine lv_iload_n hx hb dX5_join_77 rfl (lv_at hl 4 rfl) ?_
        refine lv_iadd hx hb dX5_join_78 ?_
        refine lv_icmp_ne (tgt := 96) hx hb dX5_join_79 (by decide) (fun c12 => ?_) (fun c12 => ?_)
        · have hf := if_f c12 hf
          refine lv_aload_n hx hb dX5_join_96 rfl (lv_at hl 2 rfl) ?_
          refine lv_iload_n hx hb dX5_join_97 rfl (lv_at hl 1 rfl) ?_
          refine lv_iload hx hb dX5_join_98 (lv_at hl 0 rfl) ?_
          obtain ⟨x13, hx13, hf⟩ := bd_some hf
          refine q_Vv C (rc := (RX5, TX5, 42)) (q0 := 0) (ci := 5) (ws' := wM G q x13) (wr := []) (c_X5_links hx13) gX5_join_X5_links rfl ⟨rfl, rfl⟩ hdX5_links ⟨(Nat.le_of_ble_eq_true rfl), (Nat.le_of_ble_eq_true rfl)⟩ rfl hP (dd_M hD) hS rfl rfl (List.Perm.refl _) (List.Perm.refl _) hl.1 (Nat.le_of_ble_eq_true rfl) ⟨Nat.zero_le _, Nat.zero_le _⟩ rfl dX5_join_100 (fun H locs hP hS => ?_)
          refine lv_aload_n hx hb dX5_join_103 rfl (lv_at hl 2 rfl) ?_
          obtain ⟨x14, hx14, hf⟩ := bd_some hf
          refine q_Vi C (rc := (RX5, TX5, 42)) (q0 := 0) (ci := 5) (ws' := wM G q x13) (wr := []) (c_X5_roots hx14) gX5_join_X5_roots rfl ⟨rfl, rfl⟩ hdX5_roots ⟨(Nat.le_of_ble_eq_true rfl), (Nat.le_of_ble_eq_true rfl)⟩ rfl hP (dd_M hD) hS rfl rfl (List.Perm.refl _) (List.Perm.refl _) hl.1 (Nat.le_of_ble_eq_true rfl) ⟨Nat.zero_le _, Nat.zero_le _⟩ rfl dX5_join_104 (fun H locs hP hS => ?_)
          cases hf
          exact q_iret C hP hS rfl dX5_join_107
        · have hf := if_t c12 hf
          refine lv_aload_n hx hb dX5_join_82 rfl (lv_at hl 2 rfl) ?_
          refine q_get C hP wM_o rfl hiX5_join_X5 1 (by decide) wdX5_join_2 rfl dX5_join_83 ?_
          refine lv_bipush (v := 7) hx hb dX5_join_86 (by decide) ?_
          refine lv_dup2_11 hx hb dX5_join_88 rfl rfl ?_
          refine q_iald C hP wM_a_1 (j := 7) (by decide) (vp_k (j := 7) (by decide) (by decide) (by decide)) dX5_join_89 ?_
          refine lv_iconst (v := 1) hx hb dX5_join_90 (by decide) ?_
          refine lv_iadd hx hb dX5_join_91 ?_
          obtain ⟨s15, es15, hf⟩ := nm_ex hf
          refine q_iast C hP (dd_M hD) hS wM_a_1 (j := 7) (by decide) wM_sA_1 (vp_k (j := 7) (by decide) (by decide) (by decide)) dX5_join_92 (fun H locs hP hS => ?_)
          rw [es15] at hP
          refine lv_goto (tgt := 103) hx hb dX5_join_93 (by decide) ?_
          refine lv_aload_n hx hb dX5_join_103 rfl (lv_at hl 2 rfl) ?_
          obtain ⟨x16, hx16, hf⟩ := bd_some hf
          refine q_Vi C (rc := (RX5, TX5, 42)) (q0 := 0) (ci := 5) (ws' := wM G q s15) (wr := []) (c_X5_roots hx16) gX5_join_X5_roots rfl ⟨rfl, rfl⟩ hdX5_roots ⟨(Nat.le_of_ble_eq_true rfl), (Nat.le_of_ble_eq_true rfl)⟩ rfl hP (dd_M hD) hS rfl rfl (List.Perm.refl _) (List.Perm.refl _) hl.1 (Nat.le_of_ble_eq_true rfl) ⟨Nat.zero_le _, Nat.zero_le _⟩ rfl dX5_join_104 (fun H locs hP hS => ?_)
          cases hf
          exact q_iret C hP hS rfl dX5_join_107
      · have hf := if_t c6 hf
        refine lv_iconst (v := (-1)) hx hb dX5_join_26 (by decide) ?_
        cases hf
        exact q_iret C hP hS rfl dX5_join_27

-- X5_undo
theorem hiX5_undo_X5 : ∀ w ∈ u_ws RX5 TX5 42, w ∈ wsX5_undo := mem_run (i := 9) (by decide +kernel)
theorem wdX5_undo_2 : (Cond.fieldLink RX5 212 "CombinatorRingModel" "backMany" "I") ∈ wsX5_undo := List.mem_of_getElem? (i := 2) rfl
theorem wdX5_undo_3 : (Cond.fieldLink RX5 73 "CombinatorRingModel" "backs" "[I") ∈ wsX5_undo := List.mem_of_getElem? (i := 3) rfl
theorem wdX5_undo_4 : (Cond.fieldLink RX5 7 "CombinatorRingModel" "now" "[I") ∈ wsX5_undo := List.mem_of_getElem? (i := 4) rfl
theorem wdX5_undo_1 : (Cond.fieldLink RX5 1 "CombinatorRingModel" "thrown" "I") ∈ wsX5_undo := List.mem_of_getElem? (i := 1) rfl
def m_undo (st : OSt)  : Option (Int32 × OSt) := nm (sI st 0 0) fun s1 => if (s1.1 37) = 0 then some ((-1), s1) else nm (sI s1 37 ((s1.1 37) - 1)) fun s3 => bd (m_copies 19752 (s3.2 38) 1646 (s3.2 1) (1646 * (s3.1 37)) 0) fun x4 => some (((sA s3 1 x4).1 37), (sA s3 1 x4))
abbrev rmX5_undo : Room := { frames := 1, cells := 0, slots := 0, locals := 24 }
theorem hdX5_undo : yX5_undo.cls = RX5 ∧ yX5_undo.cls ≠ "java/lang/invoke/MethodHandle" ∧ yX5_undo.cls ≠ "java/lang/invoke/VarHandle" ∧ (parseMethodDescriptor yX5_undo.desc).map (fun d => d.parameters.length) = some 0 := by decide +kernel
set_option maxHeartbeats 4000000 in
set_option maxRecDepth 100000 in
theorem c_X5_undo {l : Launch} {G : Gx} {q : Nat → Nat} {st : OSt}  {x : Int32 × OSt} (hf : m_undo st = some x) : QM l G yX5_undo wsX5_undo rmX5_undo [.ref (q 42)] (wM G q st) (wM G q x.2) (some (.int x.1)) := by
  refine QM.of (cc := cX5_undo) (maxL := 1) (ret := (some .int)) (by decide) rfl (Nat.le_of_ble_eq_true rfl) ?_
  intro p e s m below meth c A ls C hD hP hS hl
  have hx := C.1
  have hb := C.2.1
  have hl : lv_has ls 1 [(0, .ref (q 42))] := hl
  unfold m_undo at hf
  refine lv_aload_n hx hb dX5_undo_0 rfl (lv_at hl 0 rfl) ?_
  refine lv_iconst (v := 0) hx hb dX5_undo_1 (by decide) ?_
  obtain ⟨s1, es1, hf⟩ := nm_ex hf
  refine q_put C hP (dd_M hD) hS wM_o rfl hiX5_undo_X5 tyX5_ok nmX5 0 (by decide) wdX5_undo_1 rfl rfl rfl (Nat.le_of_ble_eq_true rfl) wM_sI_0 dX5_undo_2 (fun H locs hP hS => ?_)
  rw [es1] at hP
  refine lv_aload_n hx hb dX5_undo_5 rfl (lv_at hl 0 rfl) ?_
  refine q_get C hP wM_o rfl hiX5_undo_X5 37 (by decide) wdX5_undo_2 rfl dX5_undo_6 ?_
  refine lv_if_ne (tgt := 14) hx hb dX5_undo_9 (by decide) (fun c2 => ?_) (fun c2 => ?_)
  · have hf := if_f c2 hf
    refine lv_aload_n hx hb dX5_undo_14 rfl (lv_at hl 0 rfl) ?_
    refine lv_dup hx hb dX5_undo_15 rfl ?_
    refine q_get C hP wM_o rfl hiX5_undo_X5 37 (by decide) wdX5_undo_2 rfl dX5_undo_16 ?_
    refine lv_iconst (v := 1) hx hb dX5_undo_19 (by decide) ?_
    refine lv_isub hx hb dX5_undo_20 ?_
    obtain ⟨s3, es3, hf⟩ := nm_ex hf
    refine q_put C hP (dd_M hD) hS wM_o rfl hiX5_undo_X5 tyX5_ok nmX5 37 (by decide) wdX5_undo_2 rfl rfl rfl (Nat.le_of_ble_eq_true rfl) wM_sI_37 dX5_undo_21 (fun H locs hP hS => ?_)
    rw [es3] at hP
    refine lv_aload_n hx hb dX5_undo_24 rfl (lv_at hl 0 rfl) ?_
    refine q_get C hP wM_o rfl hiX5_undo_X5 38 (by decide) wdX5_undo_3 rfl dX5_undo_25 ?_
    refine lv_sipush (v := 1646) hx hb dX5_undo_28 (by decide) ?_
    refine lv_aload_n hx hb dX5_undo_31 rfl (lv_at hl 0 rfl) ?_
    refine q_get C hP wM_o rfl hiX5_undo_X5 37 (by decide) wdX5_undo_2 rfl dX5_undo_32 ?_
    refine lv_imul hx hb dX5_undo_35 ?_
    refine lv_aload_n hx hb dX5_undo_36 rfl (lv_at hl 0 rfl) ?_
    refine q_get C hP wM_o rfl hiX5_undo_X5 1 (by decide) wdX5_undo_4 rfl dX5_undo_37 ?_
    refine lv_iconst (v := 0) hx hb dX5_undo_40 (by decide) ?_
    obtain ⟨x4, hx4, hf⟩ := bd_some hf
    refine q_Sv C (ws' := wM G q (sA s3 1 x4)) (c_X5_copies (da := (q 38)) (ka := 19752) (da2 := (q 1)) (ka2 := 1646) hx4) gX5_undo_X5_copies rfl ⟨rfl, rfl⟩ hdX5_copies ⟨(Nat.le_of_ble_eq_true rfl), (Nat.le_of_ble_eq_true rfl)⟩ rfl hP (dd_M hD) hS (pm_M2 (i := 20) (j := 1) rfl rfl (by decide)) (pm_M2' (i := 20) (j := 1) rfl rfl (by decide) rfl) hl.1 (Nat.le_of_ble_eq_true rfl) ⟨Nat.zero_le _, Nat.zero_le _⟩ rfl dX5_undo_41 (fun H locs hP hS => ?_)
    refine lv_aload_n hx hb dX5_undo_44 rfl (lv_at hl 0 rfl) ?_
    refine q_get C hP wM_o rfl hiX5_undo_X5 37 (by decide) wdX5_undo_2 rfl dX5_undo_45 ?_
    cases hf
    exact q_iret C hP hS rfl dX5_undo_48
  · have hf := if_t c2 hf
    refine lv_iconst (v := (-1)) hx hb dX5_undo_12 (by decide) ?_
    cases hf
    exact q_iret C hP hS rfl dX5_undo_13

-- X5_image
theorem hiX5_image_X5 : ∀ w ∈ u_ws RX5 TX5 42, w ∈ wsX5_image := mem_run (i := 13) (by decide +kernel)
theorem wdX5_image_2 : (Cond.fieldLink RX5 79 "CombinatorRingModel" "hasImage" "[Z") ∈ wsX5_image := List.mem_of_getElem? (i := 2) rfl
theorem wdX5_image_1 : (Cond.fieldLink RX5 1 "CombinatorRingModel" "thrown" "I") ∈ wsX5_image := List.mem_of_getElem? (i := 1) rfl
theorem wdX5_image_4 : (Cond.fieldLink RX5 7 "CombinatorRingModel" "now" "[I") ∈ wsX5_image := List.mem_of_getElem? (i := 4) rfl
theorem wdX5_image_3 : (Cond.fieldLink RX5 82 "CombinatorRingModel" "images" "[I") ∈ wsX5_image := List.mem_of_getElem? (i := 3) rfl
theorem wdX5_image_5 : (Cond.fieldLink RX5 212 "CombinatorRingModel" "backMany" "I") ∈ wsX5_image := List.mem_of_getElem? (i := 5) rfl
def m_image_29 (st : OSt) (v1 : Int32) (v2 : Int32) : Option (Int32 × OSt) := if v2 = 0 then bd (m_copies 1646 (st.2 1) 3292 (st.2 41) 0 (1646 * v1)) fun x7 => gd v1 2 (nm (sA (sA st 41 x7) 40 (upd ((sA st 41 x7).2 40) v1.toNatClampNeg (vp_nar .boolean (1)))) fun s8 => some (1, s8)) else bd (m_copies 3292 (st.2 41) 1646 (st.2 1) (1646 * v1) 0) fun x9 => nm (sI (sA st 1 x9) 37 0) fun s10 => some (1, s10)
def m_image (st : OSt) (a1 : Int32) (a2 : Int32) : Option (Int32 × OSt) := nm (sI st 0 0) fun s1 => bd (m_within a1 0 1) fun x2 => if x2 = 0 then some (0, s1) else if a2 = 0 then m_image_29 s1 a1 a2 else gd a1 2 (if (s1.2 40 a1.toNatClampNeg) = 0 then some (0, s1) else m_image_29 s1 a1 a2)
abbrev rmX5_image : Room := { frames := 1, cells := 0, slots := 0, locals := 24 }
theorem hdX5_image : yX5_image.cls = RX5 ∧ yX5_image.cls ≠ "java/lang/invoke/MethodHandle" ∧ yX5_image.cls ≠ "java/lang/invoke/VarHandle" ∧ (parseMethodDescriptor yX5_image.desc).map (fun d => d.parameters.length) = some 2 := by decide +kernel
set_option maxHeartbeats 4000000 in
set_option maxRecDepth 100000 in
theorem t_X5_image_29 {p : Program} {l : Launch} {e : Env} {s : State} {m : MethodId} {args : Array Value} {below : List Frame} {meth : Method} {c : Code} {A : Nat → Prop} {G : Gx} {q : Nat → Nat} {st0 : OSt} (C : Cx p s m args meth c G cX5_image wsX5_image RX5 (some .boolean) 3 A) (hD : va_D A (wM G q st0)) :
    ∀ {st : OSt} {v1 : Int32} {v2 : Int32} {x : Int32 × OSt}, m_image_29 st v1 v2 = some x → ∀ {H : Heap} {locs : List Loc} {ls : Array Slot}, va_P G.1 vwCl (wM G q st) H → va_S A s.heap H locs → lv_has ls 3 [(0, .ref (q 42)), (1, .int v1), (2, .int v2)] → W p l e rmX5_image s m args below meth c H locs 0 0 (MQ below (qE G A (wM G q x.2) (some (.int x.1))) args s 0 0 A) (F0 m 29 ls []) := by
  have hx := C.1
  have hb := C.2.1
  intro st v1 v2 x hf H locs ls hP hS hl
  unfold m_image_29 at hf
  refine lv_iload_n hx hb dX5_image_29 rfl (lv_at hl 2 rfl) ?_
  refine lv_if_eq (tgt := 58) hx hb dX5_image_30 (by decide) (fun c6 => ?_) (fun c6 => ?_)
  · have hf := if_t c6 hf
    refine lv_aload_n hx hb dX5_image_58 rfl (lv_at hl 0 rfl) ?_
    refine q_get C hP wM_o rfl hiX5_image_X5 1 (by decide) wdX5_image_4 rfl dX5_image_59 ?_
    refine lv_iconst (v := 0) hx hb dX5_image_62 (by decide) ?_
    refine lv_aload_n hx hb dX5_image_63 rfl (lv_at hl 0 rfl) ?_
    refine q_get C hP wM_o rfl hiX5_image_X5 41 (by decide) wdX5_image_3 rfl dX5_image_64 ?_
    refine lv_sipush (v := 1646) hx hb dX5_image_67 (by decide) ?_
    refine lv_iload_n hx hb dX5_image_70 rfl (lv_at hl 1 rfl) ?_
    refine lv_imul hx hb dX5_image_71 ?_
    obtain ⟨x7, hx7, hf⟩ := bd_some hf
    refine q_Sv C (ws' := wM G q (sA st 41 x7)) (c_X5_copies (da := (q 1)) (ka := 1646) (da2 := (q 41)) (ka2 := 3292) hx7) gX5_image_X5_copies rfl ⟨rfl, rfl⟩ hdX5_copies ⟨(Nat.le_of_ble_eq_true rfl), (Nat.le_of_ble_eq_true rfl)⟩ rfl hP (dd_M hD) hS (pm_M2 (i := 1) (j := 23) rfl rfl (by decide)) (pm_M2' (i := 1) (j := 23) rfl rfl (by decide) rfl) hl.1 (Nat.le_of_ble_eq_true rfl) ⟨Nat.zero_le _, Nat.zero_le _⟩ rfl dX5_image_72 (fun H locs hP hS => ?_)
    refine lv_aload_n hx hb dX5_image_75 rfl (lv_at hl 0 rfl) ?_
    refine q_get C hP wM_o rfl hiX5_image_X5 40 (by decide) wdX5_image_2 rfl dX5_image_76 ?_
    refine lv_iload_n hx hb dX5_image_79 rfl (lv_at hl 1 rfl) ?_
    refine lv_iconst (v := 1) hx hb dX5_image_80 (by decide) ?_
    obtain ⟨hin, hf⟩ := gd_some hf
    obtain ⟨s8, es8, hf⟩ := nm_ex hf
    refine q_zast C hP (dd_M hD) hS wM_a_40 rfl wM_sA_40 hin dX5_image_81 (fun H locs hP hS => ?_)
    rw [es8] at hP
    refine lv_iconst (v := 1) hx hb dX5_image_82 (by decide) ?_
    cases hf
    exact q_zret C hP hS rfl (gb_nar (Or.inr rfl)) dX5_image_83
  · have hf := if_f c6 hf
    refine lv_aload_n hx hb dX5_image_33 rfl (lv_at hl 0 rfl) ?_
    refine q_get C hP wM_o rfl hiX5_image_X5 41 (by decide) wdX5_image_3 rfl dX5_image_34 ?_
    refine lv_sipush (v := 1646) hx hb dX5_image_37 (by decide) ?_
    refine lv_iload_n hx hb dX5_image_40 rfl (lv_at hl 1 rfl) ?_
    refine lv_imul hx hb dX5_image_41 ?_
    refine lv_aload_n hx hb dX5_image_42 rfl (lv_at hl 0 rfl) ?_
    refine q_get C hP wM_o rfl hiX5_image_X5 1 (by decide) wdX5_image_4 rfl dX5_image_43 ?_
    refine lv_iconst (v := 0) hx hb dX5_image_46 (by decide) ?_
    obtain ⟨x9, hx9, hf⟩ := bd_some hf
    refine q_Sv C (ws' := wM G q (sA st 1 x9)) (c_X5_copies (da := (q 41)) (ka := 3292) (da2 := (q 1)) (ka2 := 1646) hx9) gX5_image_X5_copies rfl ⟨rfl, rfl⟩ hdX5_copies ⟨(Nat.le_of_ble_eq_true rfl), (Nat.le_of_ble_eq_true rfl)⟩ rfl hP (dd_M hD) hS (pm_M2 (i := 23) (j := 1) rfl rfl (by decide)) (pm_M2' (i := 23) (j := 1) rfl rfl (by decide) rfl) hl.1 (Nat.le_of_ble_eq_true rfl) ⟨Nat.zero_le _, Nat.zero_le _⟩ rfl dX5_image_47 (fun H locs hP hS => ?_)
    refine lv_aload_n hx hb dX5_image_50 rfl (lv_at hl 0 rfl) ?_
    refine lv_iconst (v := 0) hx hb dX5_image_51 (by decide) ?_
    obtain ⟨s10, es10, hf⟩ := nm_ex hf
    refine q_put C hP (dd_M hD) hS wM_o rfl hiX5_image_X5 tyX5_ok nmX5 37 (by decide) wdX5_image_5 rfl rfl rfl (Nat.le_of_ble_eq_true rfl) wM_sI_37 dX5_image_52 (fun H locs hP hS => ?_)
    rw [es10] at hP
    refine lv_goto (tgt := 82) hx hb dX5_image_55 (by decide) ?_
    refine lv_iconst (v := 1) hx hb dX5_image_82 (by decide) ?_
    cases hf
    exact q_zret C hP hS rfl (gb_nar (Or.inr rfl)) dX5_image_83
set_option maxHeartbeats 4000000 in
set_option maxRecDepth 100000 in
theorem c_X5_image {l : Launch} {G : Gx} {q : Nat → Nat} {st : OSt} {a1 : Int32} {a2 : Int32} {x : Int32 × OSt} (hf : m_image st a1 a2 = some x) : QM l G yX5_image wsX5_image rmX5_image [.ref (q 42), .int a1, .int a2] (wM G q st) (wM G q x.2) (some (.int x.1)) := by
  refine QM.of (cc := cX5_image) (maxL := 3) (ret := (some .boolean)) (by decide) rfl (Nat.le_of_ble_eq_true rfl) ?_
  intro p e s m below meth c A ls C hD hP hS hl
  have hx := C.1
  have hb := C.2.1
  have hl : lv_has ls 3 [(0, .ref (q 42)), (1, .int a1), (2, .int a2)] := hl
  unfold m_image at hf
  refine lv_aload_n hx hb dX5_image_0 rfl (lv_at hl 0 rfl) ?_
  refine lv_iconst (v := 0) hx hb dX5_image_1 (by decide) ?_
  obtain ⟨s1, es1, hf⟩ := nm_ex hf
  refine q_put C hP (dd_M hD) hS wM_o rfl hiX5_image_X5 tyX5_ok nmX5 0 (by decide) wdX5_image_1 rfl rfl rfl (Nat.le_of_ble_eq_true rfl) wM_sI_0 dX5_image_2 (fun H locs hP hS => ?_)
  rw [es1] at hP
  refine lv_iload_n hx hb dX5_image_5 rfl (lv_at hl 1 rfl) ?_
  refine lv_iconst (v := 0) hx hb dX5_image_6 (by decide) ?_
  refine lv_iconst (v := 1) hx hb dX5_image_7 (by decide) ?_
  obtain ⟨x2, hx2, hf⟩ := bd_some hf
  refine q_Si C (ws' := wM G q s1) (wr := []) (c_X5_within (w := wM G q s1) hx2) gX5_image_X5_within rfl ⟨rfl, rfl⟩ hdX5_within ⟨(Nat.le_of_ble_eq_true rfl), (Nat.le_of_ble_eq_true rfl)⟩ rfl hP (dd_M hD) hS (List.Perm.refl _) (List.Perm.refl _) hl.1 (Nat.le_of_ble_eq_true rfl) ⟨Nat.zero_le _, Nat.zero_le _⟩ rfl dX5_image_8 (fun H locs hP hS => ?_)
  refine lv_if_eq (tgt := 27) hx hb dX5_image_11 (by decide) (fun c3 => ?_) (fun c3 => ?_)
  · have hf := if_t c3 hf
    refine lv_iconst (v := 0) hx hb dX5_image_27 (by decide) ?_
    cases hf
    exact q_zret C hP hS rfl (gb_nar (Or.inl rfl)) dX5_image_28
  · have hf := if_f c3 hf
    refine lv_iload_n hx hb dX5_image_14 rfl (lv_at hl 2 rfl) ?_
    refine lv_if_eq (tgt := 29) hx hb dX5_image_15 (by decide) (fun c4 => ?_) (fun c4 => ?_)
    · have hf := if_t c4 hf
      exact t_X5_image_29 C hD hf hP hS (lv_sub hl [0, 1, 2] rfl)
    · have hf := if_f c4 hf
      refine lv_aload_n hx hb dX5_image_18 rfl (lv_at hl 0 rfl) ?_
      refine q_get C hP wM_o rfl hiX5_image_X5 40 (by decide) wdX5_image_2 rfl dX5_image_19 ?_
      refine lv_iload_n hx hb dX5_image_22 rfl (lv_at hl 1 rfl) ?_
      obtain ⟨hin, hf⟩ := gd_some hf
      refine q_zald C hP wM_a_40 rfl hin dX5_image_23 ?_
      refine lv_if_ne (tgt := 29) hx hb dX5_image_24 (by decide) (fun c5 => ?_) (fun c5 => ?_)
      · have hf := if_f c5 hf
        exact t_X5_image_29 C hD hf hP hS (lv_sub hl [0, 1, 2] rfl)
      · have hf := if_t c5 hf
        refine lv_iconst (v := 0) hx hb dX5_image_27 (by decide) ?_
        cases hf
        exact q_zret C hP hS rfl (gb_nar (Or.inl rfl)) dX5_image_28
