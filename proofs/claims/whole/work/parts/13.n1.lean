-- X0_clear
theorem hiX0_clear_X0 : ∀ w ∈ u_ws RX0 TX0 15, w ∈ wsX0_clear := mem_run (i := 35) (by decide +kernel)
theorem wdX0_clear_1 : (Cond.fieldLink RX0 9 "CombinatorRing$Net" "kinds" "[I") ∈ wsX0_clear := List.mem_of_getElem? (i := 1) rfl
theorem wdX0_clear_2 : (Cond.fieldLink RX0 37 "CombinatorRing$Net" "links" "[I") ∈ wsX0_clear := List.mem_of_getElem? (i := 2) rfl
theorem wdX0_clear_3 : (Cond.fieldLink RX0 18 "CombinatorRing$Net" "ruleCounts" "[I") ∈ wsX0_clear := List.mem_of_getElem? (i := 3) rfl
theorem wdX0_clear_4 : (Cond.fieldLink RX0 24 "CombinatorRing$Net" "pairs" "LCombinatorRing$Pairs;") ∈ wsX0_clear := List.mem_of_getElem? (i := 4) rfl
theorem wdX0_clear_5 : (Cond.methodLink RX0 52 Lib.Math.min.name) ∈ wsX0_clear := List.mem_of_getElem? (i := 5) rfl
theorem wdX0_clear_6 : (Cond.static Lib.Math.min.name) ∈ wsX0_clear := List.mem_of_getElem? (i := 6) rfl
theorem wdX0_clear_7 : (Cond.initialized "java/lang/Math") ∈ wsX0_clear := List.mem_of_getElem? (i := 7) rfl
theorem wdX0_clear_8 : (Cond.code Lib.Math.min.name Lib.Math.min.code 2 (some .int)) ∈ wsX0_clear := List.mem_of_getElem? (i := 8) rfl
theorem wdX0_clear_9 : (Cond.methodLink RX0 31 Lib.Math.max.name) ∈ wsX0_clear := List.mem_of_getElem? (i := 9) rfl
theorem wdX0_clear_10 : (Cond.static Lib.Math.max.name) ∈ wsX0_clear := List.mem_of_getElem? (i := 10) rfl
theorem wdX0_clear_11 : (Cond.code Lib.Math.max.name Lib.Math.max.code 2 (some .int)) ∈ wsX0_clear := List.mem_of_getElem? (i := 11) rfl
theorem wdX0_clear_20 : (Cond.fieldLink RX0 80 "CombinatorRing$Net" "peak" "I") ∈ wsX0_clear := List.mem_of_getElem? (i := 20) rfl
theorem wdX0_clear_19 : (Cond.fieldLink RX0 77 "CombinatorRing$Net" "loops" "I") ∈ wsX0_clear := List.mem_of_getElem? (i := 19) rfl
theorem wdX0_clear_18 : (Cond.fieldLink RX0 74 "CombinatorRing$Net" "rootsEver" "I") ∈ wsX0_clear := List.mem_of_getElem? (i := 18) rfl
theorem wdX0_clear_17 : (Cond.fieldLink RX0 71 "CombinatorRing$Net" "given" "I") ∈ wsX0_clear := List.mem_of_getElem? (i := 17) rfl
theorem wdX0_clear_16 : (Cond.fieldLink RX0 68 "CombinatorRing$Net" "freedCount" "I") ∈ wsX0_clear := List.mem_of_getElem? (i := 16) rfl
theorem wdX0_clear_15 : (Cond.fieldLink RX0 65 "CombinatorRing$Net" "freedEver" "I") ∈ wsX0_clear := List.mem_of_getElem? (i := 15) rfl
theorem wdX0_clear_14 : (Cond.fieldLink RX0 62 "CombinatorRing$Net" "made" "I") ∈ wsX0_clear := List.mem_of_getElem? (i := 14) rfl
theorem wdX0_clear_13 : (Cond.fieldLink RX0 59 "CombinatorRing$Net" "nodes" "I") ∈ wsX0_clear := List.mem_of_getElem? (i := 13) rfl
theorem wdX0_clear_12 : (Cond.fieldLink RX0 55 "CombinatorRing$Net" "memory" "I") ∈ wsX0_clear := List.mem_of_getElem? (i := 12) rfl
def n_clear (sn : NSt) (a1 : Int32) : Option (NSt) := bd (j_fill_53 300 (na sn 0) (-1)) fun x1 => bd (j_fill_53 (nl (nsA sn 0 x1)) (na (nsA sn 0 x1) 1) (-1)) fun x2 => bd (j_fill_53 6 (na (nsA (nsA sn 0 x1) 1 x2) 3) 0) fun x3 => bd (p_clear (np (nsA (nsA (nsA sn 0 x1) 1 x2) 3 x3))) fun x4 => nm (nsI (nsP (nsA (nsA (nsA sn 0 x1) 1 x2) 3 x3) x4) 6 (if 0 < (if 300 < a1 then 300 else a1) then (if 300 < a1 then 300 else a1) else 0)) fun s5 => nm (nsI s5 7 0) fun s6 => nm (nsI s6 8 0) fun s7 => nm (nsI s7 9 0) fun s8 => nm (nsI s8 10 0) fun s9 => nm (nsI s9 11 0) fun s10 => nm (nsI s10 12 0) fun s11 => nm (nsI s11 13 0) fun s12 => nm (nsI s12 14 0) fun s13 => some s13
abbrev rmX0_clear : Room := { frames := 2, cells := 0, slots := 0, locals := 44 }
theorem hdX0_clear : yX0_clear.cls = RX0 ∧ yX0_clear.cls ≠ "java/lang/invoke/MethodHandle" ∧ yX0_clear.cls ≠ "java/lang/invoke/VarHandle" ∧ (parseMethodDescriptor yX0_clear.desc).map (fun d => d.parameters.length) = some 1 := by decide +kernel
set_option maxHeartbeats 4000000 in
set_option maxRecDepth 100000 in
theorem c_X0_clear {l : Launch} {G : Gx} {qn : Nat → Nat} {sn : NSt} {a1 : Int32} {x : NSt} (hf : n_clear sn a1 = some x) : QM l G yX0_clear wsX0_clear rmX0_clear [.ref (qn 15), .int a1] (wN G qn sn) (wN G qn x) none := by
  refine QM.of (cc := cX0_clear) (maxL := 2) (ret := none) (by decide) rfl (Nat.le_of_ble_eq_true rfl) ?_
  intro p e s m below meth c A ls C hD hP hS hl
  have hx := C.1
  have hb := C.2.1
  have hl : lv_has ls 2 [(0, .ref (qn 15)), (1, .int a1)] := hl
  unfold n_clear at hf
  refine lv_aload_n hx hb dX0_clear_0 rfl (lv_at hl 0 rfl) ?_
  refine q_get C hP (q0 := 0) rfl rfl hiX0_clear_X0 0 (by decide) wdX0_clear_1 rfl dX0_clear_1 ?_
  refine lv_iconst (v := (-1)) hx hb dX0_clear_4 (by decide) ?_
  obtain ⟨x1, hx1, hf⟩ := bd_some hf
  refine q_Sv C (ws' := wN G qn (nsA sn 0 x1)) (c_J7_fill_53178 (da := (qn 0)) (ka := 300) hx1) gX0_clear_J7_fill_53178 rfl ⟨rfl, rfl⟩ hdJ7_fill_53178 ⟨(Nat.le_of_ble_eq_true rfl), (Nat.le_of_ble_eq_true rfl)⟩ rfl hP (dd_N hD) hS (pm_at (p := 1) rfl) (pm_at' (p := 1) rfl rfl) hl.1 (Nat.le_of_ble_eq_true rfl) ⟨Nat.zero_le _, Nat.zero_le _⟩ rfl dX0_clear_5 (fun H locs hP hS => ?_)
  refine lv_aload_n hx hb dX0_clear_8 rfl (lv_at hl 0 rfl) ?_
  refine q_get C hP (q0 := 0) rfl rfl hiX0_clear_X0 1 (by decide) wdX0_clear_2 rfl dX0_clear_9 ?_
  refine lv_iconst (v := (-1)) hx hb dX0_clear_12 (by decide) ?_
  obtain ⟨x2, hx2, hf⟩ := bd_some hf
  refine q_Sv C (ws' := wN G qn (nsA (nsA sn 0 x1) 1 x2)) (c_J7_fill_53178 (da := (qn 1)) (ka := (nl (nsA sn 0 x1))) hx2) gX0_clear_J7_fill_53178 rfl ⟨rfl, rfl⟩ hdJ7_fill_53178 ⟨(Nat.le_of_ble_eq_true rfl), (Nat.le_of_ble_eq_true rfl)⟩ rfl hP (dd_N hD) hS (pm_at (p := 2) rfl) (pm_at' (p := 2) rfl rfl) hl.1 (Nat.le_of_ble_eq_true rfl) ⟨Nat.zero_le _, Nat.zero_le _⟩ rfl dX0_clear_13 (fun H locs hP hS => ?_)
  refine lv_aload_n hx hb dX0_clear_16 rfl (lv_at hl 0 rfl) ?_
  refine q_get C hP (q0 := 0) rfl rfl hiX0_clear_X0 3 (by decide) wdX0_clear_3 rfl dX0_clear_17 ?_
  refine lv_iconst (v := 0) hx hb dX0_clear_20 (by decide) ?_
  obtain ⟨x3, hx3, hf⟩ := bd_some hf
  refine q_Sv C (ws' := wN G qn (nsA (nsA (nsA sn 0 x1) 1 x2) 3 x3)) (c_J7_fill_53178 (da := (qn 3)) (ka := 6) hx3) gX0_clear_J7_fill_53178 rfl ⟨rfl, rfl⟩ hdJ7_fill_53178 ⟨(Nat.le_of_ble_eq_true rfl), (Nat.le_of_ble_eq_true rfl)⟩ rfl hP (dd_N hD) hS (pm_at (p := 4) rfl) (pm_at' (p := 4) rfl rfl) hl.1 (Nat.le_of_ble_eq_true rfl) ⟨Nat.zero_le _, Nat.zero_le _⟩ rfl dX0_clear_21 (fun H locs hP hS => ?_)
  refine lv_aload_n hx hb dX0_clear_24 rfl (lv_at hl 0 rfl) ?_
  refine q_get C hP (q0 := 0) rfl rfl hiX0_clear_X0 4 (by decide) wdX0_clear_4 rfl dX0_clear_25 ?_
  obtain ⟨x4, hx4, hf⟩ := bd_some hf
  refine q_Vv C (rc := (RX1, TX1, 2)) (q0 := 5) (ci := 1) (ws' := wN G qn (nsP (nsA (nsA (nsA sn 0 x1) 1 x2) 3 x3) x4)) (c_X1_clear (qp := qPp qn) hx4) gX0_clear_X1_clear rfl ⟨rfl, rfl⟩ hdX1_clear ⟨(Nat.le_of_ble_eq_true rfl), (Nat.le_of_ble_eq_true rfl)⟩ rfl hP (dd_N hD) hS rfl rfl pm_NP1 pm_NP1' hl.1 (Nat.le_of_ble_eq_true rfl) ⟨Nat.zero_le _, Nat.zero_le _⟩ rfl dX0_clear_28 (fun H locs hP hS => ?_)
  refine lv_aload_n hx hb dX0_clear_31 rfl (lv_at hl 0 rfl) ?_
  refine lv_iconst (v := 0) hx hb dX0_clear_32 (by decide) ?_
  refine lv_iload_n hx hb dX0_clear_33 rfl (lv_at hl 1 rfl) ?_
  refine lv_sipush (v := 300) hx hb dX0_clear_34 (by decide) ?_
  refine va_mmin hx hb (C.2.2.1.trans hl.1.symm) C.2.2.2.1 (C.2.2.2.2.1 _ wdX0_clear_5) (C.2.2.2.2.1 _ wdX0_clear_6) (C.2.2.2.2.1 _ wdX0_clear_7) (C.2.2.2.2.1 _ wdX0_clear_8) (Nat.le_of_ble_eq_true rfl) (Nat.le_of_ble_eq_true rfl) (Nat.le_of_ble_eq_true rfl) (Nat.le_of_ble_eq_true rfl) dX0_clear_37 ?_
  refine va_mmax hx hb (C.2.2.1.trans hl.1.symm) C.2.2.2.1 (C.2.2.2.2.1 _ wdX0_clear_9) (C.2.2.2.2.1 _ wdX0_clear_10) (C.2.2.2.2.1 _ wdX0_clear_7) (C.2.2.2.2.1 _ wdX0_clear_11) (Nat.le_of_ble_eq_true rfl) (Nat.le_of_ble_eq_true rfl) (Nat.le_of_ble_eq_true rfl) (Nat.le_of_ble_eq_true rfl) dX0_clear_40 ?_
  obtain ⟨s5, es5, hf⟩ := nm_ex hf
  refine q_put C hP (dd_N hD) hS (q0 := 0) rfl rfl hiX0_clear_X0 tyX0_ok nmX0 6 (by decide) wdX0_clear_12 rfl rfl rfl (Nat.le_of_ble_eq_true rfl) rfl dX0_clear_43 (fun H locs hP hS => ?_)
  have hP : va_P G.1 vwCl (wN G qn s5) H := by rw [← es5]; exact hP
  refine lv_aload_n hx hb dX0_clear_46 rfl (lv_at hl 0 rfl) ?_
  refine lv_iconst (v := 0) hx hb dX0_clear_47 (by decide) ?_
  obtain ⟨s6, es6, hf⟩ := nm_ex hf
  refine q_put C hP (dd_N hD) hS (q0 := 0) rfl rfl hiX0_clear_X0 tyX0_ok nmX0 7 (by decide) wdX0_clear_13 rfl rfl rfl (Nat.le_of_ble_eq_true rfl) rfl dX0_clear_48 (fun H locs hP hS => ?_)
  have hP : va_P G.1 vwCl (wN G qn s6) H := by rw [← es6]; exact hP
  refine lv_aload_n hx hb dX0_clear_51 rfl (lv_at hl 0 rfl) ?_
  refine lv_iconst (v := 0) hx hb dX0_clear_52 (by decide) ?_
  obtain ⟨s7, es7, hf⟩ := nm_ex hf
  refine q_put C hP (dd_N hD) hS (q0 := 0) rfl rfl hiX0_clear_X0 tyX0_ok nmX0 8 (by decide) wdX0_clear_14 rfl rfl rfl (Nat.le_of_ble_eq_true rfl) rfl dX0_clear_53 (fun H locs hP hS => ?_)
  have hP : va_P G.1 vwCl (wN G qn s7) H := by rw [← es7]; exact hP
  refine lv_aload_n hx hb dX0_clear_56 rfl (lv_at hl 0 rfl) ?_
  refine lv_iconst (v := 0) hx hb dX0_clear_57 (by decide) ?_
  obtain ⟨s8, es8, hf⟩ := nm_ex hf
  refine q_put C hP (dd_N hD) hS (q0 := 0) rfl rfl hiX0_clear_X0 tyX0_ok nmX0 9 (by decide) wdX0_clear_15 rfl rfl rfl (Nat.le_of_ble_eq_true rfl) rfl dX0_clear_58 (fun H locs hP hS => ?_)
  have hP : va_P G.1 vwCl (wN G qn s8) H := by rw [← es8]; exact hP
  refine lv_aload_n hx hb dX0_clear_61 rfl (lv_at hl 0 rfl) ?_
  refine lv_iconst (v := 0) hx hb dX0_clear_62 (by decide) ?_
  obtain ⟨s9, es9, hf⟩ := nm_ex hf
  refine q_put C hP (dd_N hD) hS (q0 := 0) rfl rfl hiX0_clear_X0 tyX0_ok nmX0 10 (by decide) wdX0_clear_16 rfl rfl rfl (Nat.le_of_ble_eq_true rfl) rfl dX0_clear_63 (fun H locs hP hS => ?_)
  have hP : va_P G.1 vwCl (wN G qn s9) H := by rw [← es9]; exact hP
  refine lv_aload_n hx hb dX0_clear_66 rfl (lv_at hl 0 rfl) ?_
  refine lv_iconst (v := 0) hx hb dX0_clear_67 (by decide) ?_
  obtain ⟨s10, es10, hf⟩ := nm_ex hf
  refine q_put C hP (dd_N hD) hS (q0 := 0) rfl rfl hiX0_clear_X0 tyX0_ok nmX0 11 (by decide) wdX0_clear_17 rfl rfl rfl (Nat.le_of_ble_eq_true rfl) rfl dX0_clear_68 (fun H locs hP hS => ?_)
  have hP : va_P G.1 vwCl (wN G qn s10) H := by rw [← es10]; exact hP
  refine lv_aload_n hx hb dX0_clear_71 rfl (lv_at hl 0 rfl) ?_
  refine lv_iconst (v := 0) hx hb dX0_clear_72 (by decide) ?_
  obtain ⟨s11, es11, hf⟩ := nm_ex hf
  refine q_put C hP (dd_N hD) hS (q0 := 0) rfl rfl hiX0_clear_X0 tyX0_ok nmX0 12 (by decide) wdX0_clear_18 rfl rfl rfl (Nat.le_of_ble_eq_true rfl) rfl dX0_clear_73 (fun H locs hP hS => ?_)
  have hP : va_P G.1 vwCl (wN G qn s11) H := by rw [← es11]; exact hP
  refine lv_aload_n hx hb dX0_clear_76 rfl (lv_at hl 0 rfl) ?_
  refine lv_iconst (v := 0) hx hb dX0_clear_77 (by decide) ?_
  obtain ⟨s12, es12, hf⟩ := nm_ex hf
  refine q_put C hP (dd_N hD) hS (q0 := 0) rfl rfl hiX0_clear_X0 tyX0_ok nmX0 13 (by decide) wdX0_clear_19 rfl rfl rfl (Nat.le_of_ble_eq_true rfl) rfl dX0_clear_78 (fun H locs hP hS => ?_)
  have hP : va_P G.1 vwCl (wN G qn s12) H := by rw [← es12]; exact hP
  refine lv_aload_n hx hb dX0_clear_81 rfl (lv_at hl 0 rfl) ?_
  refine lv_iconst (v := 0) hx hb dX0_clear_82 (by decide) ?_
  obtain ⟨s13, es13, hf⟩ := nm_ex hf
  refine q_put C hP (dd_N hD) hS (q0 := 0) rfl rfl hiX0_clear_X0 tyX0_ok nmX0 14 (by decide) wdX0_clear_20 rfl rfl rfl (Nat.le_of_ble_eq_true rfl) rfl dX0_clear_83 (fun H locs hP hS => ?_)
  have hP : va_P G.1 vwCl (wN G qn s13) H := by rw [← es13]; exact hP
  cases hf
  exact q_vret C hP hS rfl dX0_clear_86

-- X0_become
theorem hiX0_become_X0 : ∀ w ∈ u_ws RX0 TX0 15, w ∈ wsX0_become := mem_run (i := 26) (by decide +kernel)
theorem wdX0_become_1 : (Cond.fieldLink RX0 9 "CombinatorRing$Net" "kinds" "[I") ∈ wsX0_become := List.mem_of_getElem? (i := 1) rfl
theorem wdX0_become_6 : (Cond.fieldLink RX0 37 "CombinatorRing$Net" "links" "[I") ∈ wsX0_become := List.mem_of_getElem? (i := 6) rfl
theorem wdX0_become_7 : (Cond.fieldLink RX0 15 "CombinatorRing$Net" "freed" "[I") ∈ wsX0_become := List.mem_of_getElem? (i := 7) rfl
theorem wdX0_become_8 : (Cond.fieldLink RX0 18 "CombinatorRing$Net" "ruleCounts" "[I") ∈ wsX0_become := List.mem_of_getElem? (i := 8) rfl
theorem wdX0_become_9 : (Cond.fieldLink RX0 24 "CombinatorRing$Net" "pairs" "LCombinatorRing$Pairs;") ∈ wsX0_become := List.mem_of_getElem? (i := 9) rfl
theorem wdX0_become_10 : (Cond.fieldLink RX0 55 "CombinatorRing$Net" "memory" "I") ∈ wsX0_become := List.mem_of_getElem? (i := 10) rfl
theorem wdX0_become_11 : (Cond.fieldLink RX0 59 "CombinatorRing$Net" "nodes" "I") ∈ wsX0_become := List.mem_of_getElem? (i := 11) rfl
theorem wdX0_become_12 : (Cond.fieldLink RX0 62 "CombinatorRing$Net" "made" "I") ∈ wsX0_become := List.mem_of_getElem? (i := 12) rfl
theorem wdX0_become_13 : (Cond.fieldLink RX0 65 "CombinatorRing$Net" "freedEver" "I") ∈ wsX0_become := List.mem_of_getElem? (i := 13) rfl
theorem wdX0_become_14 : (Cond.fieldLink RX0 68 "CombinatorRing$Net" "freedCount" "I") ∈ wsX0_become := List.mem_of_getElem? (i := 14) rfl
theorem wdX0_become_15 : (Cond.fieldLink RX0 71 "CombinatorRing$Net" "given" "I") ∈ wsX0_become := List.mem_of_getElem? (i := 15) rfl
theorem wdX0_become_16 : (Cond.fieldLink RX0 74 "CombinatorRing$Net" "rootsEver" "I") ∈ wsX0_become := List.mem_of_getElem? (i := 16) rfl
theorem wdX0_become_17 : (Cond.fieldLink RX0 77 "CombinatorRing$Net" "loops" "I") ∈ wsX0_become := List.mem_of_getElem? (i := 17) rfl
theorem wdX0_become_2 : (Cond.methodLink RX0 83 arraycopyName) ∈ wsX0_become := List.mem_of_getElem? (i := 2) rfl
theorem wdX0_become_3 : (Cond.native arraycopyName) ∈ wsX0_become := List.mem_of_getElem? (i := 3) rfl
theorem wdX0_become_4 : (Cond.static arraycopyName) ∈ wsX0_become := List.mem_of_getElem? (i := 4) rfl
theorem wdX0_become_5 : (Cond.initialized "java/lang/System") ∈ wsX0_become := List.mem_of_getElem? (i := 5) rfl
def n_become (sn : NSt) (sn2 : NSt)  : Option (NSt) := nm (nsA sn 0 (va_cpy (na sn2 0) (na sn 0) 0 0 300)) fun s1 => gl 1016 (nl sn2) (gl 1016 (nl s1) (nm (nsA s1 1 (va_cpy (na sn2 1) (na s1 1) 0 0 1016)) fun s2 => nm (nsA s2 2 (va_cpy (na sn2 2) (na s2 2) 0 0 300)) fun s3 => nm (nsA s3 3 (va_cpy (na sn2 3) (na s3 3) 0 0 6)) fun s4 => bd (p_become (np s4) (np sn2)) fun x5 => nm (nsI (nsP s4 x5) 6 (ni sn2 6)) fun s6 => nm (nsI s6 7 (ni sn2 7)) fun s7 => nm (nsI s7 8 (ni sn2 8)) fun s8 => nm (nsI s8 9 (ni sn2 9)) fun s9 => nm (nsI s9 10 (ni sn2 10)) fun s10 => nm (nsI s10 11 (ni sn2 11)) fun s11 => nm (nsI s11 12 (ni sn2 12)) fun s12 => nm (nsI s12 13 (ni sn2 13)) fun s13 => some s13))
abbrev rmX0_become : Room := { frames := 2, cells := 0, slots := 0, locals := 47 }
theorem hdX0_become : yX0_become.cls = RX0 ∧ yX0_become.cls ≠ "java/lang/invoke/MethodHandle" ∧ yX0_become.cls ≠ "java/lang/invoke/VarHandle" ∧ (parseMethodDescriptor yX0_become.desc).map (fun d => d.parameters.length) = some 1 := by decide +kernel
set_option maxHeartbeats 4000000 in
set_option maxRecDepth 100000 in
theorem c_X0_become {l : Launch} {G : Gx} {qn : Nat → Nat} {qn2 : Nat → Nat} {sn : NSt} {sn2 : NSt}  {x : NSt} (hf : n_become sn sn2 = some x) : QM l G yX0_become wsX0_become rmX0_become [.ref (qn 15), .ref (qn2 15)] (wN G qn sn ++ wN G qn2 sn2) (wN G qn x ++ wN G qn2 sn2) none := by
  refine QM.of (cc := cX0_become) (maxL := 2) (ret := none) (by decide) rfl (Nat.le_of_ble_eq_true rfl) ?_
  intro p e s m below meth c A ls C hD hP hS hl
  have hx := C.1
  have hb := C.2.1
  have hl : lv_has ls 2 [(0, .ref (qn 15)), (1, .ref (qn2 15))] := hl
  unfold n_become at hf
  refine lv_aload_n hx hb dX0_become_0 rfl (lv_at hl 1 rfl) ?_
  refine q_get C hP (q0 := 11) rfl rfl hiX0_become_X0 0 (by decide) wdX0_become_1 rfl dX0_become_1 ?_
  refine lv_iconst (v := 0) hx hb dX0_become_4 (by decide) ?_
  refine lv_aload_n hx hb dX0_become_5 rfl (lv_at hl 0 rfl) ?_
  refine q_get C hP (q0 := 0) rfl rfl hiX0_become_X0 0 (by decide) wdX0_become_1 rfl dX0_become_6 ?_
  refine lv_iconst (v := 0) hx hb dX0_become_9 (by decide) ?_
  refine lv_sipush (v := 300) hx hb dX0_become_10 (by decide) ?_
  obtain ⟨s1, es1, hf⟩ := nm_ex hf
  refine q_copyi C hP (dd_NN hD) hS (q0 := 12) rfl (q1 := 1) rfl (N := 300) (by decide) (by decide) (by decide) (by decide) (C.2.2.2.2.1 _ wdX0_become_2) (C.2.2.2.2.1 _ wdX0_become_3) (C.2.2.2.2.1 _ wdX0_become_4) (C.2.2.2.2.1 _ wdX0_become_5) rfl hl.1 (Nat.le_of_ble_eq_true rfl) (Nat.le_of_ble_eq_true rfl) dX0_become_13 (fun H locs hP hS => ?_)
  have hP : va_P G.1 vwCl (wN G qn s1 ++ wN G qn2 sn2) H := by rw [← es1]; exact hP
  refine lv_aload_n hx hb dX0_become_16 rfl (lv_at hl 1 rfl) ?_
  refine q_get C hP (q0 := 11) rfl rfl hiX0_become_X0 1 (by decide) wdX0_become_6 rfl dX0_become_17 ?_
  refine lv_iconst (v := 0) hx hb dX0_become_20 (by decide) ?_
  refine lv_aload_n hx hb dX0_become_21 rfl (lv_at hl 0 rfl) ?_
  refine q_get C hP (q0 := 0) rfl rfl hiX0_become_X0 1 (by decide) wdX0_become_6 rfl dX0_become_22 ?_
  refine lv_iconst (v := 0) hx hb dX0_become_25 (by decide) ?_
  refine lv_sipush (v := 1016) hx hb dX0_become_26 (by decide) ?_
  obtain ⟨h90, hf⟩ := gl_some hf
  obtain ⟨h91, hf⟩ := gl_some hf
  obtain ⟨s2, es2, hf⟩ := nm_ex hf
  refine q_copyi C hP (dd_NN hD) hS (q0 := 13) rfl (q1 := 2) rfl (N := 1016) (by decide) (by decide) h90 h91 (C.2.2.2.2.1 _ wdX0_become_2) (C.2.2.2.2.1 _ wdX0_become_3) (C.2.2.2.2.1 _ wdX0_become_4) (C.2.2.2.2.1 _ wdX0_become_5) rfl hl.1 (Nat.le_of_ble_eq_true rfl) (Nat.le_of_ble_eq_true rfl) dX0_become_29 (fun H locs hP hS => ?_)
  have hP : va_P G.1 vwCl (wN G qn s2 ++ wN G qn2 sn2) H := by rw [← es2]; exact hP
  refine lv_aload_n hx hb dX0_become_32 rfl (lv_at hl 1 rfl) ?_
  refine q_get C hP (q0 := 11) rfl rfl hiX0_become_X0 2 (by decide) wdX0_become_7 rfl dX0_become_33 ?_
  refine lv_iconst (v := 0) hx hb dX0_become_36 (by decide) ?_
  refine lv_aload_n hx hb dX0_become_37 rfl (lv_at hl 0 rfl) ?_
  refine q_get C hP (q0 := 0) rfl rfl hiX0_become_X0 2 (by decide) wdX0_become_7 rfl dX0_become_38 ?_
  refine lv_iconst (v := 0) hx hb dX0_become_41 (by decide) ?_
  refine lv_sipush (v := 300) hx hb dX0_become_42 (by decide) ?_
  obtain ⟨s3, es3, hf⟩ := nm_ex hf
  refine q_copyi C hP (dd_NN hD) hS (q0 := 14) rfl (q1 := 3) rfl (N := 300) (by decide) (by decide) (by decide) (by decide) (C.2.2.2.2.1 _ wdX0_become_2) (C.2.2.2.2.1 _ wdX0_become_3) (C.2.2.2.2.1 _ wdX0_become_4) (C.2.2.2.2.1 _ wdX0_become_5) rfl hl.1 (Nat.le_of_ble_eq_true rfl) (Nat.le_of_ble_eq_true rfl) dX0_become_45 (fun H locs hP hS => ?_)
  have hP : va_P G.1 vwCl (wN G qn s3 ++ wN G qn2 sn2) H := by rw [← es3]; exact hP
  refine lv_aload_n hx hb dX0_become_48 rfl (lv_at hl 1 rfl) ?_
  refine q_get C hP (q0 := 11) rfl rfl hiX0_become_X0 3 (by decide) wdX0_become_8 rfl dX0_become_49 ?_
  refine lv_iconst (v := 0) hx hb dX0_become_52 (by decide) ?_
  refine lv_aload_n hx hb dX0_become_53 rfl (lv_at hl 0 rfl) ?_
  refine q_get C hP (q0 := 0) rfl rfl hiX0_become_X0 3 (by decide) wdX0_become_8 rfl dX0_become_54 ?_
  refine lv_iconst (v := 0) hx hb dX0_become_57 (by decide) ?_
  refine lv_bipush (v := 6) hx hb dX0_become_58 (by decide) ?_
  obtain ⟨s4, es4, hf⟩ := nm_ex hf
  refine q_copyi C hP (dd_NN hD) hS (q0 := 15) rfl (q1 := 4) rfl (N := 6) (by decide) (by decide) (by decide) (by decide) (C.2.2.2.2.1 _ wdX0_become_2) (C.2.2.2.2.1 _ wdX0_become_3) (C.2.2.2.2.1 _ wdX0_become_4) (C.2.2.2.2.1 _ wdX0_become_5) rfl hl.1 (Nat.le_of_ble_eq_true rfl) (Nat.le_of_ble_eq_true rfl) dX0_become_60 (fun H locs hP hS => ?_)
  have hP : va_P G.1 vwCl (wN G qn s4 ++ wN G qn2 sn2) H := by rw [← es4]; exact hP
  refine lv_aload_n hx hb dX0_become_63 rfl (lv_at hl 0 rfl) ?_
  refine q_get C hP (q0 := 0) rfl rfl hiX0_become_X0 4 (by decide) wdX0_become_9 rfl dX0_become_64 ?_
  refine lv_aload_n hx hb dX0_become_67 rfl (lv_at hl 1 rfl) ?_
  refine q_get C hP (q0 := 11) rfl rfl hiX0_become_X0 4 (by decide) wdX0_become_9 rfl dX0_become_68 ?_
  obtain ⟨x5, hx5, hf⟩ := bd_some hf
  refine q_Vv C (rc := (RX1, TX1, 2)) (q0 := 5) (ci := 1) (ws' := wN G qn (nsP s4 x5) ++ wN G qn2 sn2) (c_X1_become (qp := qPp qn) (qp2 := qPp qn2) hx5) gX0_become_X1_become rfl ⟨rfl, rfl⟩ hdX1_become ⟨(Nat.le_of_ble_eq_true rfl), (Nat.le_of_ble_eq_true rfl)⟩ rfl hP (dd_NN hD) hS rfl rfl pm_NNPP pm_NNPP' hl.1 (Nat.le_of_ble_eq_true rfl) ⟨Nat.zero_le _, Nat.zero_le _⟩ rfl dX0_become_71 (fun H locs hP hS => ?_)
  refine lv_aload_n hx hb dX0_become_74 rfl (lv_at hl 0 rfl) ?_
  refine lv_aload_n hx hb dX0_become_75 rfl (lv_at hl 1 rfl) ?_
  refine q_get C hP (q0 := 11) rfl rfl hiX0_become_X0 6 (by decide) wdX0_become_10 rfl dX0_become_76 ?_
  obtain ⟨s6, es6, hf⟩ := nm_ex hf
  refine q_put C hP (dd_NN hD) hS (q0 := 0) rfl rfl hiX0_become_X0 tyX0_ok nmX0 6 (by decide) wdX0_become_10 rfl rfl rfl (Nat.le_of_ble_eq_true rfl) rfl dX0_become_79 (fun H locs hP hS => ?_)
  have hP : va_P G.1 vwCl (wN G qn s6 ++ wN G qn2 sn2) H := by rw [← es6]; exact hP
  refine lv_aload_n hx hb dX0_become_82 rfl (lv_at hl 0 rfl) ?_
  refine lv_aload_n hx hb dX0_become_83 rfl (lv_at hl 1 rfl) ?_
  refine q_get C hP (q0 := 11) rfl rfl hiX0_become_X0 7 (by decide) wdX0_become_11 rfl dX0_become_84 ?_
  obtain ⟨s7, es7, hf⟩ := nm_ex hf
  refine q_put C hP (dd_NN hD) hS (q0 := 0) rfl rfl hiX0_become_X0 tyX0_ok nmX0 7 (by decide) wdX0_become_11 rfl rfl rfl (Nat.le_of_ble_eq_true rfl) rfl dX0_become_87 (fun H locs hP hS => ?_)
  have hP : va_P G.1 vwCl (wN G qn s7 ++ wN G qn2 sn2) H := by rw [← es7]; exact hP
  refine lv_aload_n hx hb dX0_become_90 rfl (lv_at hl 0 rfl) ?_
  refine lv_aload_n hx hb dX0_become_91 rfl (lv_at hl 1 rfl) ?_
  refine q_get C hP (q0 := 11) rfl rfl hiX0_become_X0 8 (by decide) wdX0_become_12 rfl dX0_become_92 ?_
  obtain ⟨s8, es8, hf⟩ := nm_ex hf
  refine q_put C hP (dd_NN hD) hS (q0 := 0) rfl rfl hiX0_become_X0 tyX0_ok nmX0 8 (by decide) wdX0_become_12 rfl rfl rfl (Nat.le_of_ble_eq_true rfl) rfl dX0_become_95 (fun H locs hP hS => ?_)
  have hP : va_P G.1 vwCl (wN G qn s8 ++ wN G qn2 sn2) H := by rw [← es8]; exact hP
  refine lv_aload_n hx hb dX0_become_98 rfl (lv_at hl 0 rfl) ?_
  refine lv_aload_n hx hb dX0_become_99 rfl (lv_at hl 1 rfl) ?_
  refine q_get C hP (q0 := 11) rfl rfl hiX0_become_X0 9 (by decide) wdX0_become_13 rfl dX0_become_100 ?_
  obtain ⟨s9, es9, hf⟩ := nm_ex hf
  refine q_put C hP (dd_NN hD) hS (q0 := 0) rfl rfl hiX0_become_X0 tyX0_ok nmX0 9 (by decide) wdX0_become_13 rfl rfl rfl (Nat.le_of_ble_eq_true rfl) rfl dX0_become_103 (fun H locs hP hS => ?_)
  have hP : va_P G.1 vwCl (wN G qn s9 ++ wN G qn2 sn2) H := by rw [← es9]; exact hP
  refine lv_aload_n hx hb dX0_become_106 rfl (lv_at hl 0 rfl) ?_
  refine lv_aload_n hx hb dX0_become_107 rfl (lv_at hl 1 rfl) ?_
  refine q_get C hP (q0 := 11) rfl rfl hiX0_become_X0 10 (by decide) wdX0_become_14 rfl dX0_become_108 ?_
  obtain ⟨s10, es10, hf⟩ := nm_ex hf
  refine q_put C hP (dd_NN hD) hS (q0 := 0) rfl rfl hiX0_become_X0 tyX0_ok nmX0 10 (by decide) wdX0_become_14 rfl rfl rfl (Nat.le_of_ble_eq_true rfl) rfl dX0_become_111 (fun H locs hP hS => ?_)
  have hP : va_P G.1 vwCl (wN G qn s10 ++ wN G qn2 sn2) H := by rw [← es10]; exact hP
  refine lv_aload_n hx hb dX0_become_114 rfl (lv_at hl 0 rfl) ?_
  refine lv_aload_n hx hb dX0_become_115 rfl (lv_at hl 1 rfl) ?_
  refine q_get C hP (q0 := 11) rfl rfl hiX0_become_X0 11 (by decide) wdX0_become_15 rfl dX0_become_116 ?_
  obtain ⟨s11, es11, hf⟩ := nm_ex hf
  refine q_put C hP (dd_NN hD) hS (q0 := 0) rfl rfl hiX0_become_X0 tyX0_ok nmX0 11 (by decide) wdX0_become_15 rfl rfl rfl (Nat.le_of_ble_eq_true rfl) rfl dX0_become_119 (fun H locs hP hS => ?_)
  have hP : va_P G.1 vwCl (wN G qn s11 ++ wN G qn2 sn2) H := by rw [← es11]; exact hP
  refine lv_aload_n hx hb dX0_become_122 rfl (lv_at hl 0 rfl) ?_
  refine lv_aload_n hx hb dX0_become_123 rfl (lv_at hl 1 rfl) ?_
  refine q_get C hP (q0 := 11) rfl rfl hiX0_become_X0 12 (by decide) wdX0_become_16 rfl dX0_become_124 ?_
  obtain ⟨s12, es12, hf⟩ := nm_ex hf
  refine q_put C hP (dd_NN hD) hS (q0 := 0) rfl rfl hiX0_become_X0 tyX0_ok nmX0 12 (by decide) wdX0_become_16 rfl rfl rfl (Nat.le_of_ble_eq_true rfl) rfl dX0_become_127 (fun H locs hP hS => ?_)
  have hP : va_P G.1 vwCl (wN G qn s12 ++ wN G qn2 sn2) H := by rw [← es12]; exact hP
  refine lv_aload_n hx hb dX0_become_130 rfl (lv_at hl 0 rfl) ?_
  refine lv_aload_n hx hb dX0_become_131 rfl (lv_at hl 1 rfl) ?_
  refine q_get C hP (q0 := 11) rfl rfl hiX0_become_X0 13 (by decide) wdX0_become_17 rfl dX0_become_132 ?_
  obtain ⟨s13, es13, hf⟩ := nm_ex hf
  refine q_put C hP (dd_NN hD) hS (q0 := 0) rfl rfl hiX0_become_X0 tyX0_ok nmX0 13 (by decide) wdX0_become_17 rfl rfl rfl (Nat.le_of_ble_eq_true rfl) rfl dX0_become_135 (fun H locs hP hS => ?_)
  have hP : va_P G.1 vwCl (wN G qn s13 ++ wN G qn2 sn2) H := by rw [← es13]; exact hP
  cases hf
  exact q_vret C hP hS rfl dX0_become_138

-- X0_kindOf
theorem hiX0_kindOf_X0 : ∀ w ∈ u_ws RX0 TX0 15, w ∈ wsX0_kindOf := mem_run (i := 2) (by decide +kernel)
theorem wdX0_kindOf_1 : (Cond.fieldLink RX0 9 "CombinatorRing$Net" "kinds" "[I") ∈ wsX0_kindOf := List.mem_of_getElem? (i := 1) rfl
def n_kindOf (sn : NSt) (a1 : Int32) : Option (Int32) := if a1 < 0 then some (-1) else if 300 ≤ a1 then some (-1) else gd a1 300 (some (na sn 0 a1.toNatClampNeg))
abbrev rmX0_kindOf : Room := { frames := 0, cells := 0, slots := 0, locals := 0 }
theorem hdX0_kindOf : yX0_kindOf.cls = RX0 ∧ yX0_kindOf.cls ≠ "java/lang/invoke/MethodHandle" ∧ yX0_kindOf.cls ≠ "java/lang/invoke/VarHandle" ∧ (parseMethodDescriptor yX0_kindOf.desc).map (fun d => d.parameters.length) = some 1 := by decide +kernel
set_option maxHeartbeats 4000000 in
set_option maxRecDepth 100000 in
theorem c_X0_kindOf {l : Launch} {G : Gx} {qn : Nat → Nat} {sn : NSt} {a1 : Int32} {x : Int32} (hf : n_kindOf sn a1 = some x) : QM l G yX0_kindOf wsX0_kindOf rmX0_kindOf [.ref (qn 15), .int a1] (wN G qn sn) (wN G qn sn) (some (.int x)) := by
  refine QM.of (cc := cX0_kindOf) (maxL := 2) (ret := (some .int)) (by decide) rfl (Nat.le_of_ble_eq_true rfl) ?_
  intro p e s m below meth c A ls C hD hP hS hl
  have hx := C.1
  have hb := C.2.1
  have hl : lv_has ls 2 [(0, .ref (qn 15)), (1, .int a1)] := hl
  unfold n_kindOf at hf
  refine lv_iload_n hx hb dX0_kindOf_0 rfl (lv_at hl 1 rfl) ?_
  refine lv_if_lt (tgt := 20) hx hb dX0_kindOf_1 (by decide) (fun c1 => ?_) (fun c1 => ?_)
  · have hf := if_t c1 hf
    refine lv_iconst (v := (-1)) hx hb dX0_kindOf_20 (by decide) ?_
    cases hf
    exact q_iret C hP hS rfl dX0_kindOf_21
  · have hf := if_f c1 hf
    refine lv_iload_n hx hb dX0_kindOf_4 rfl (lv_at hl 1 rfl) ?_
    refine lv_sipush (v := 300) hx hb dX0_kindOf_5 (by decide) ?_
    refine lv_icmp_ge (tgt := 20) hx hb dX0_kindOf_8 (by decide) (fun c2 => ?_) (fun c2 => ?_)
    · have hf := if_t c2 hf
      refine lv_iconst (v := (-1)) hx hb dX0_kindOf_20 (by decide) ?_
      cases hf
      exact q_iret C hP hS rfl dX0_kindOf_21
    · have hf := if_f c2 hf
      refine lv_aload_n hx hb dX0_kindOf_11 rfl (lv_at hl 0 rfl) ?_
      refine q_get C hP (q0 := 0) rfl rfl hiX0_kindOf_X0 0 (by decide) wdX0_kindOf_1 rfl dX0_kindOf_12 ?_
      refine lv_iload_n hx hb dX0_kindOf_15 rfl (lv_at hl 1 rfl) ?_
      obtain ⟨hin, hf⟩ := gd_some hf
      refine q_iald C hP (q0 := 1) rfl rfl hin dX0_kindOf_16 ?_
      refine lv_goto (tgt := 21) hx hb dX0_kindOf_17 (by decide) ?_
      cases hf
      exact q_iret C hP hS rfl dX0_kindOf_21

-- X0_at
theorem hiX0_at_X0 : ∀ w ∈ u_ws RX0 TX0 15, w ∈ wsX0_at := mem_run (i := 2) (by decide +kernel)
theorem wdX0_at_1 : (Cond.fieldLink RX0 37 "CombinatorRing$Net" "links" "[I") ∈ wsX0_at := List.mem_of_getElem? (i := 1) rfl
def n_at (sn : NSt) (a1 : Int32) : Option (Int32) := if a1 < 0 then some (-1) else if (nI (nl sn)) ≤ a1 then some (-1) else gd a1 (nl sn) (some (na sn 1 a1.toNatClampNeg))
abbrev rmX0_at : Room := { frames := 0, cells := 0, slots := 0, locals := 0 }
theorem hdX0_at : yX0_at.cls = RX0 ∧ yX0_at.cls ≠ "java/lang/invoke/MethodHandle" ∧ yX0_at.cls ≠ "java/lang/invoke/VarHandle" ∧ (parseMethodDescriptor yX0_at.desc).map (fun d => d.parameters.length) = some 1 := by decide +kernel
set_option maxHeartbeats 4000000 in
set_option maxRecDepth 100000 in
theorem c_X0_at {l : Launch} {G : Gx} {qn : Nat → Nat} {sn : NSt} {a1 : Int32} {x : Int32} (hf : n_at sn a1 = some x) : QM l G yX0_at wsX0_at rmX0_at [.ref (qn 15), .int a1] (wN G qn sn) (wN G qn sn) (some (.int x)) := by
  refine QM.of (cc := cX0_at) (maxL := 2) (ret := (some .int)) (by decide) rfl (Nat.le_of_ble_eq_true rfl) ?_
  intro p e s m below meth c A ls C hD hP hS hl
  have hx := C.1
  have hb := C.2.1
  have hl : lv_has ls 2 [(0, .ref (qn 15)), (1, .int a1)] := hl
  unfold n_at at hf
  refine lv_iload_n hx hb dX0_at_0 rfl (lv_at hl 1 rfl) ?_
  refine lv_if_lt (tgt := 22) hx hb dX0_at_1 (by decide) (fun c1 => ?_) (fun c1 => ?_)
  · have hf := if_t c1 hf
    refine lv_iconst (v := (-1)) hx hb dX0_at_22 (by decide) ?_
    cases hf
    exact q_iret C hP hS rfl dX0_at_23
  · have hf := if_f c1 hf
    refine lv_iload_n hx hb dX0_at_4 rfl (lv_at hl 1 rfl) ?_
    refine lv_aload_n hx hb dX0_at_5 rfl (lv_at hl 0 rfl) ?_
    refine q_get C hP (q0 := 0) rfl rfl hiX0_at_X0 1 (by decide) wdX0_at_1 rfl dX0_at_6 ?_
    refine q_alen C hP (q0 := 2) rfl (t0 := 0) rfl dX0_at_9 ?_
    refine lv_icmp_ge (tgt := 22) hx hb dX0_at_10 (by decide) (fun c2 => ?_) (fun c2 => ?_)
    · have hf := if_t c2 hf
      refine lv_iconst (v := (-1)) hx hb dX0_at_22 (by decide) ?_
      cases hf
      exact q_iret C hP hS rfl dX0_at_23
    · have hf := if_f c2 hf
      refine lv_aload_n hx hb dX0_at_13 rfl (lv_at hl 0 rfl) ?_
      refine q_get C hP (q0 := 0) rfl rfl hiX0_at_X0 1 (by decide) wdX0_at_1 rfl dX0_at_14 ?_
      refine lv_iload_n hx hb dX0_at_17 rfl (lv_at hl 1 rfl) ?_
      obtain ⟨hin, hf⟩ := gd_some hf
      refine q_iald C hP (q0 := 2) rfl rfl hin dX0_at_18 ?_
      refine lv_goto (tgt := 23) hx hb dX0_at_19 (by decide) ?_
      cases hf
      exact q_iret C hP hS rfl dX0_at_23

-- X0_isHead
def n_isHead  (a1 : Int32) : Option (Int32) := if a1 < 0 then some 0 else if 900 ≤ a1 then some 0 else if (a1 - a1 / 3 * 3) = 0 then some 1 else some 0
abbrev rmX0_isHead : Room := { frames := 0, cells := 0, slots := 0, locals := 0 }
theorem hdX0_isHead : yX0_isHead.cls ≠ "java/lang/invoke/MethodHandle" ∧ yX0_isHead.cls ≠ "java/lang/invoke/VarHandle" ∧ (parseMethodDescriptor yX0_isHead.desc).map (fun d => d.parameters.length) = some 1 := by decide +kernel
set_option maxHeartbeats 4000000 in
set_option maxRecDepth 100000 in
theorem c_X0_isHead {l : Launch} {G : Gx} {w : va_W}  {a1 : Int32} {x : Int32} (hf : n_isHead a1 = some x) : QM l G yX0_isHead wsX0_isHead rmX0_isHead [.int a1] (w) (w) (some (.int x)) := by
  refine QM.of (cc := cX0_isHead) (maxL := 1) (ret := (some .boolean)) (by decide) rfl (Nat.le_of_ble_eq_true rfl) ?_
  intro p e s m below meth c A ls C hD hP hS hl
  have hx := C.1
  have hb := C.2.1
  have hl : lv_has ls 1 [(0, .int a1)] := hl
  unfold n_isHead at hf
  refine lv_iload_n hx hb dX0_isHead_0 rfl (lv_at hl 0 rfl) ?_
  refine lv_if_lt (tgt := 21) hx hb dX0_isHead_1 (by decide) (fun c1 => ?_) (fun c1 => ?_)
  · have hf := if_t c1 hf
    refine lv_iconst (v := 0) hx hb dX0_isHead_21 (by decide) ?_
    cases hf
    exact q_zret C hP hS rfl (gb_nar (Or.inl rfl)) dX0_isHead_22
  · have hf := if_f c1 hf
    refine lv_iload_n hx hb dX0_isHead_4 rfl (lv_at hl 0 rfl) ?_
    refine lv_sipush (v := 900) hx hb dX0_isHead_5 (by decide) ?_
    refine lv_icmp_ge (tgt := 21) hx hb dX0_isHead_8 (by decide) (fun c2 => ?_) (fun c2 => ?_)
    · have hf := if_t c2 hf
      refine lv_iconst (v := 0) hx hb dX0_isHead_21 (by decide) ?_
      cases hf
      exact q_zret C hP hS rfl (gb_nar (Or.inl rfl)) dX0_isHead_22
    · have hf := if_f c2 hf
      refine lv_iload_n hx hb dX0_isHead_11 rfl (lv_at hl 0 rfl) ?_
      refine lv_iconst (v := 3) hx hb dX0_isHead_12 (by decide) ?_
      refine lv_irem hx hb dX0_isHead_13 (by decide) ?_
      refine lv_if_ne (tgt := 21) hx hb dX0_isHead_14 (by decide) (fun c3 => ?_) (fun c3 => ?_)
      · have hf := if_f c3 hf
        refine lv_iconst (v := 0) hx hb dX0_isHead_21 (by decide) ?_
        cases hf
        exact q_zret C hP hS rfl (gb_nar (Or.inl rfl)) dX0_isHead_22
      · have hf := if_t c3 hf
        refine lv_iconst (v := 1) hx hb dX0_isHead_17 (by decide) ?_
        refine lv_goto (tgt := 22) hx hb dX0_isHead_18 (by decide) ?_
        cases hf
        exact q_zret C hP hS rfl (gb_nar (Or.inr rfl)) dX0_isHead_22

-- X0_tie
theorem hiX0_tie_X0 : ∀ w ∈ u_ws RX0 TX0 15, w ∈ wsX0_tie := mem_run (i := 2) (by decide +kernel)
theorem wdX0_tie_1 : (Cond.fieldLink RX0 37 "CombinatorRing$Net" "links" "[I") ∈ wsX0_tie := List.mem_of_getElem? (i := 1) rfl
def n_tie (sn : NSt) (a1 : Int32) (a2 : Int32) : Option (NSt) := if a1 < 0 then some sn else if a2 < 0 then some sn else if (nI (nl sn)) ≤ a1 then some sn else if (nI (nl sn)) ≤ a2 then some sn else gd a1 (nl sn) (nm (nsA sn 1 (upd (na sn 1) a1.toNatClampNeg a2)) fun s5 => gd a2 (nl s5) (nm (nsA s5 1 (upd (na s5 1) a2.toNatClampNeg a1)) fun s6 => some s6))
abbrev rmX0_tie : Room := { frames := 0, cells := 0, slots := 0, locals := 0 }
theorem hdX0_tie : yX0_tie.cls = RX0 ∧ yX0_tie.cls ≠ "java/lang/invoke/MethodHandle" ∧ yX0_tie.cls ≠ "java/lang/invoke/VarHandle" ∧ (parseMethodDescriptor yX0_tie.desc).map (fun d => d.parameters.length) = some 2 := by decide +kernel
set_option maxHeartbeats 4000000 in
set_option maxRecDepth 100000 in
theorem c_X0_tie {l : Launch} {G : Gx} {qn : Nat → Nat} {sn : NSt} {a1 : Int32} {a2 : Int32} {x : NSt} (hf : n_tie sn a1 a2 = some x) : QM l G yX0_tie wsX0_tie rmX0_tie [.ref (qn 15), .int a1, .int a2] (wN G qn sn) (wN G qn x) none := by
  refine QM.of (cc := cX0_tie) (maxL := 3) (ret := none) (by decide) rfl (Nat.le_of_ble_eq_true rfl) ?_
  intro p e s m below meth c A ls C hD hP hS hl
  have hx := C.1
  have hb := C.2.1
  have hl : lv_has ls 3 [(0, .ref (qn 15)), (1, .int a1), (2, .int a2)] := hl
  unfold n_tie at hf
  refine lv_iload_n hx hb dX0_tie_0 rfl (lv_at hl 1 rfl) ?_
  refine lv_if_lt (tgt := 40) hx hb dX0_tie_1 (by decide) (fun c1 => ?_) (fun c1 => ?_)
  · have hf := if_t c1 hf
    cases hf
    exact q_vret C hP hS rfl dX0_tie_40
  · have hf := if_f c1 hf
    refine lv_iload_n hx hb dX0_tie_4 rfl (lv_at hl 2 rfl) ?_
    refine lv_if_lt (tgt := 40) hx hb dX0_tie_5 (by decide) (fun c2 => ?_) (fun c2 => ?_)
    · have hf := if_t c2 hf
      cases hf
      exact q_vret C hP hS rfl dX0_tie_40
    · have hf := if_f c2 hf
      refine lv_iload_n hx hb dX0_tie_8 rfl (lv_at hl 1 rfl) ?_
      refine lv_aload_n hx hb dX0_tie_9 rfl (lv_at hl 0 rfl) ?_
      refine q_get C hP (q0 := 0) rfl rfl hiX0_tie_X0 1 (by decide) wdX0_tie_1 rfl dX0_tie_10 ?_
      refine q_alen C hP (q0 := 2) rfl (t0 := 0) rfl dX0_tie_13 ?_
      refine lv_icmp_ge (tgt := 40) hx hb dX0_tie_14 (by decide) (fun c3 => ?_) (fun c3 => ?_)
      · have hf := if_t c3 hf
        cases hf
        exact q_vret C hP hS rfl dX0_tie_40
      · have hf := if_f c3 hf
        refine lv_iload_n hx hb dX0_tie_17 rfl (lv_at hl 2 rfl) ?_
        refine lv_aload_n hx hb dX0_tie_18 rfl (lv_at hl 0 rfl) ?_
        refine q_get C hP (q0 := 0) rfl rfl hiX0_tie_X0 1 (by decide) wdX0_tie_1 rfl dX0_tie_19 ?_
        refine q_alen C hP (q0 := 2) rfl (t0 := 0) rfl dX0_tie_22 ?_
        refine lv_icmp_ge (tgt := 40) hx hb dX0_tie_23 (by decide) (fun c4 => ?_) (fun c4 => ?_)
        · have hf := if_t c4 hf
          cases hf
          exact q_vret C hP hS rfl dX0_tie_40
        · have hf := if_f c4 hf
          refine lv_aload_n hx hb dX0_tie_26 rfl (lv_at hl 0 rfl) ?_
          refine q_get C hP (q0 := 0) rfl rfl hiX0_tie_X0 1 (by decide) wdX0_tie_1 rfl dX0_tie_27 ?_
          refine lv_iload_n hx hb dX0_tie_30 rfl (lv_at hl 1 rfl) ?_
          refine lv_iload_n hx hb dX0_tie_31 rfl (lv_at hl 2 rfl) ?_
          obtain ⟨hin, hf⟩ := gd_some hf
          obtain ⟨s5, es5, hf⟩ := nm_ex hf
          refine q_iast C hP (dd_N hD) hS (q0 := 2) rfl rfl rfl hin dX0_tie_32 (fun H locs hP hS => ?_)
          have hP : va_P G.1 vwCl (wN G qn s5) H := by rw [← es5]; exact hP
          refine lv_aload_n hx hb dX0_tie_33 rfl (lv_at hl 0 rfl) ?_
          refine q_get C hP (q0 := 0) rfl rfl hiX0_tie_X0 1 (by decide) wdX0_tie_1 rfl dX0_tie_34 ?_
          refine lv_iload_n hx hb dX0_tie_37 rfl (lv_at hl 2 rfl) ?_
          refine lv_iload_n hx hb dX0_tie_38 rfl (lv_at hl 1 rfl) ?_
          obtain ⟨hin, hf⟩ := gd_some hf
          obtain ⟨s6, es6, hf⟩ := nm_ex hf
          refine q_iast C hP (dd_N hD) hS (q0 := 2) rfl rfl rfl hin dX0_tie_39 (fun H locs hP hS => ?_)
          have hP : va_P G.1 vwCl (wN G qn s6) H := by rw [← es6]; exact hP
          cases hf
          exact q_vret C hP hS rfl dX0_tie_40

-- X0_connect
theorem hiX0_connect_X0 : ∀ w ∈ u_ws RX0 TX0 15, w ∈ wsX0_connect := mem_run (i := 23) (by decide +kernel)
theorem wdX0_connect_1 : (Cond.fieldLink RX0 24 "CombinatorRing$Net" "pairs" "LCombinatorRing$Pairs;") ∈ wsX0_connect := List.mem_of_getElem? (i := 1) rfl
theorem wdX0_connect_2 : (Cond.methodLink RX0 52 Lib.Math.min.name) ∈ wsX0_connect := List.mem_of_getElem? (i := 2) rfl
theorem wdX0_connect_3 : (Cond.static Lib.Math.min.name) ∈ wsX0_connect := List.mem_of_getElem? (i := 3) rfl
theorem wdX0_connect_4 : (Cond.initialized "java/lang/Math") ∈ wsX0_connect := List.mem_of_getElem? (i := 4) rfl
theorem wdX0_connect_5 : (Cond.code Lib.Math.min.name Lib.Math.min.code 2 (some .int)) ∈ wsX0_connect := List.mem_of_getElem? (i := 5) rfl
theorem wdX0_connect_6 : (Cond.fieldLink RX0 9 "CombinatorRing$Net" "kinds" "[I") ∈ wsX0_connect := List.mem_of_getElem? (i := 6) rfl
def n_connect (sn : NSt) (a1 : Int32) (a2 : Int32) : Option (NSt) := bd (n_tie sn a1 a2) fun x1 => bd (n_isHead a1) fun x2 => if x2 = 0 then some x1 else bd (n_isHead a2) fun x4 => if x4 = 0 then some x1 else gd (a1 / 3) 300 (gd (a2 / 3) 300 (if ((na x1 0 (a1 / 3).toNatClampNeg) + (na x1 0 (a2 / 3).toNatClampNeg)) = 3 then bd (p_add (np x1) ((if a2 < a1 then a2 else a1) / 3) 1) fun x8 => some (nsP x1 x8) else bd (p_add (np x1) ((if a2 < a1 then a2 else a1) / 3) 0) fun x7 => some (nsP x1 x7)))
abbrev rmX0_connect : Room := { frames := 1, cells := 0, slots := 0, locals := 24 }
theorem hdX0_connect : yX0_connect.cls = RX0 ∧ yX0_connect.cls ≠ "java/lang/invoke/MethodHandle" ∧ yX0_connect.cls ≠ "java/lang/invoke/VarHandle" ∧ (parseMethodDescriptor yX0_connect.desc).map (fun d => d.parameters.length) = some 2 := by decide +kernel
set_option maxHeartbeats 4000000 in
set_option maxRecDepth 100000 in
theorem c_X0_connect {l : Launch} {G : Gx} {qn : Nat → Nat} {sn : NSt} {a1 : Int32} {a2 : Int32} {x : NSt} (hf : n_connect sn a1 a2 = some x) : QM l G yX0_connect wsX0_connect rmX0_connect [.ref (qn 15), .int a1, .int a2] (wN G qn sn) (wN G qn x) none := by
  refine QM.of (cc := cX0_connect) (maxL := 3) (ret := none) (by decide) rfl (Nat.le_of_ble_eq_true rfl) ?_
  intro p e s m below meth c A ls C hD hP hS hl
  have hx := C.1
  have hb := C.2.1
  have hl : lv_has ls 3 [(0, .ref (qn 15)), (1, .int a1), (2, .int a2)] := hl
  unfold n_connect at hf
  refine lv_aload_n hx hb dX0_connect_0 rfl (lv_at hl 0 rfl) ?_
  refine lv_iload_n hx hb dX0_connect_1 rfl (lv_at hl 1 rfl) ?_
  refine lv_iload_n hx hb dX0_connect_2 rfl (lv_at hl 2 rfl) ?_
  obtain ⟨x1, hx1, hf⟩ := bd_some hf
  refine q_Vv C (rc := (RX0, TX0, 15)) (q0 := 0) (ci := 0) (ws' := wN G qn x1) (wr := []) (c_X0_tie hx1) gX0_connect_X0_tie rfl ⟨rfl, rfl⟩ hdX0_tie ⟨(Nat.le_of_ble_eq_true rfl), (Nat.le_of_ble_eq_true rfl)⟩ rfl hP (dd_N hD) hS rfl rfl (List.Perm.refl _) (List.Perm.refl _) hl.1 (Nat.le_of_ble_eq_true rfl) ⟨Nat.zero_le _, Nat.zero_le _⟩ rfl dX0_connect_3 (fun H locs hP hS => ?_)
  refine lv_iload_n hx hb dX0_connect_6 rfl (lv_at hl 1 rfl) ?_
  obtain ⟨x2, hx2, hf⟩ := bd_some hf
  refine q_Si C (ws' := wN G qn x1) (wr := []) (c_X0_isHead (w := wN G qn x1) hx2) gX0_connect_X0_isHead rfl ⟨rfl, rfl⟩ hdX0_isHead ⟨(Nat.le_of_ble_eq_true rfl), (Nat.le_of_ble_eq_true rfl)⟩ rfl hP (dd_N hD) hS (List.Perm.refl _) (List.Perm.refl _) hl.1 (Nat.le_of_ble_eq_true rfl) ⟨Nat.zero_le _, Nat.zero_le _⟩ rfl dX0_connect_7 (fun H locs hP hS => ?_)
  refine lv_if_eq (tgt := 60) hx hb dX0_connect_10 (by decide) (fun c3 => ?_) (fun c3 => ?_)
  · have hf := if_t c3 hf
    cases hf
    exact q_vret C hP hS rfl dX0_connect_60
  · have hf := if_f c3 hf
    refine lv_iload_n hx hb dX0_connect_13 rfl (lv_at hl 2 rfl) ?_
    obtain ⟨x4, hx4, hf⟩ := bd_some hf
    refine q_Si C (ws' := wN G qn x1) (wr := []) (c_X0_isHead (w := wN G qn x1) hx4) gX0_connect_X0_isHead rfl ⟨rfl, rfl⟩ hdX0_isHead ⟨(Nat.le_of_ble_eq_true rfl), (Nat.le_of_ble_eq_true rfl)⟩ rfl hP (dd_N hD) hS (List.Perm.refl _) (List.Perm.refl _) hl.1 (Nat.le_of_ble_eq_true rfl) ⟨Nat.zero_le _, Nat.zero_le _⟩ rfl dX0_connect_14 (fun H locs hP hS => ?_)
    refine lv_if_eq (tgt := 60) hx hb dX0_connect_17 (by decide) (fun c5 => ?_) (fun c5 => ?_)
    · have hf := if_t c5 hf
      cases hf
      exact q_vret C hP hS rfl dX0_connect_60
    · have hf := if_f c5 hf
      refine lv_aload_n hx hb dX0_connect_20 rfl (lv_at hl 0 rfl) ?_
      refine q_get C hP (q0 := 0) rfl rfl hiX0_connect_X0 4 (by decide) wdX0_connect_1 rfl dX0_connect_21 ?_
      refine lv_iload_n hx hb dX0_connect_24 rfl (lv_at hl 1 rfl) ?_
      refine lv_iload_n hx hb dX0_connect_25 rfl (lv_at hl 2 rfl) ?_
      refine va_mmin hx hb (C.2.2.1.trans hl.1.symm) C.2.2.2.1 (C.2.2.2.2.1 _ wdX0_connect_2) (C.2.2.2.2.1 _ wdX0_connect_3) (C.2.2.2.2.1 _ wdX0_connect_4) (C.2.2.2.2.1 _ wdX0_connect_5) (Nat.le_of_ble_eq_true rfl) (Nat.le_of_ble_eq_true rfl) (Nat.le_of_ble_eq_true rfl) (Nat.le_of_ble_eq_true rfl) dX0_connect_26 ?_
      refine lv_iconst (v := 3) hx hb dX0_connect_29 (by decide) ?_
      refine lv_idiv hx hb dX0_connect_30 (by decide) ?_
      refine lv_aload_n hx hb dX0_connect_31 rfl (lv_at hl 0 rfl) ?_
      refine q_get C hP (q0 := 0) rfl rfl hiX0_connect_X0 0 (by decide) wdX0_connect_6 rfl dX0_connect_32 ?_
      refine lv_iload_n hx hb dX0_connect_35 rfl (lv_at hl 1 rfl) ?_
      refine lv_iconst (v := 3) hx hb dX0_connect_36 (by decide) ?_
      refine lv_idiv hx hb dX0_connect_37 (by decide) ?_
      obtain ⟨hin, hf⟩ := gd_some hf
      refine q_iald C hP (q0 := 1) rfl rfl hin dX0_connect_38 ?_
      refine lv_aload_n hx hb dX0_connect_39 rfl (lv_at hl 0 rfl) ?_
      refine q_get C hP (q0 := 0) rfl rfl hiX0_connect_X0 0 (by decide) wdX0_connect_6 rfl dX0_connect_40 ?_
      refine lv_iload_n hx hb dX0_connect_43 rfl (lv_at hl 2 rfl) ?_
      refine lv_iconst (v := 3) hx hb dX0_connect_44 (by decide) ?_
      refine lv_idiv hx hb dX0_connect_45 (by decide) ?_
      obtain ⟨hin, hf⟩ := gd_some hf
      refine q_iald C hP (q0 := 1) rfl rfl hin dX0_connect_46 ?_
      refine lv_iadd hx hb dX0_connect_47 ?_
      refine lv_iconst (v := 3) hx hb dX0_connect_48 (by decide) ?_
      refine lv_icmp_ne (tgt := 56) hx hb dX0_connect_49 (by decide) (fun c6 => ?_) (fun c6 => ?_)
      · have hf := if_f c6 hf
        refine lv_iconst (v := 0) hx hb dX0_connect_56 (by decide) ?_
        obtain ⟨x7, hx7, hf⟩ := bd_some hf
        refine q_Vv C (rc := (RX1, TX1, 2)) (q0 := 5) (ci := 1) (ws' := wN G qn (nsP x1 x7)) (c_X1_add (qp := qPp qn) hx7) gX0_connect_X1_add rfl ⟨rfl, rfl⟩ hdX1_add ⟨(Nat.le_of_ble_eq_true rfl), (Nat.le_of_ble_eq_true rfl)⟩ rfl hP (dd_N hD) hS rfl rfl pm_NP1 pm_NP1' hl.1 (Nat.le_of_ble_eq_true rfl) ⟨Nat.zero_le _, Nat.zero_le _⟩ rfl dX0_connect_57 (fun H locs hP hS => ?_)
        cases hf
        exact q_vret C hP hS rfl dX0_connect_60
      · have hf := if_t c6 hf
        refine lv_iconst (v := 1) hx hb dX0_connect_52 (by decide) ?_
        refine lv_goto (tgt := 57) hx hb dX0_connect_53 (by decide) ?_
        obtain ⟨x8, hx8, hf⟩ := bd_some hf
        refine q_Vv C (rc := (RX1, TX1, 2)) (q0 := 5) (ci := 1) (ws' := wN G qn (nsP x1 x8)) (c_X1_add (qp := qPp qn) hx8) gX0_connect_X1_add rfl ⟨rfl, rfl⟩ hdX1_add ⟨(Nat.le_of_ble_eq_true rfl), (Nat.le_of_ble_eq_true rfl)⟩ rfl hP (dd_N hD) hS rfl rfl pm_NP1 pm_NP1' hl.1 (Nat.le_of_ble_eq_true rfl) ⟨Nat.zero_le _, Nat.zero_le _⟩ rfl dX0_connect_57 (fun H locs hP hS => ?_)
        cases hf
        exact q_vret C hP hS rfl dX0_connect_60

-- X0_move
def n_move (sn : NSt) (a1 : Int32) (a2 : Int32) : Option (NSt) := bd (n_at sn a1) fun x1 => bd (n_connect sn x1 a2) fun x2 => some x2
abbrev rmX0_move : Room := { frames := 2, cells := 0, slots := 0, locals := 46 }
theorem hdX0_move : yX0_move.cls = RX0 ∧ yX0_move.cls ≠ "java/lang/invoke/MethodHandle" ∧ yX0_move.cls ≠ "java/lang/invoke/VarHandle" ∧ (parseMethodDescriptor yX0_move.desc).map (fun d => d.parameters.length) = some 2 := by decide +kernel
set_option maxHeartbeats 4000000 in
set_option maxRecDepth 100000 in
theorem c_X0_move {l : Launch} {G : Gx} {qn : Nat → Nat} {sn : NSt} {a1 : Int32} {a2 : Int32} {x : NSt} (hf : n_move sn a1 a2 = some x) : QM l G yX0_move wsX0_move rmX0_move [.ref (qn 15), .int a1, .int a2] (wN G qn sn) (wN G qn x) none := by
  refine QM.of (cc := cX0_move) (maxL := 3) (ret := none) (by decide) rfl (Nat.le_of_ble_eq_true rfl) ?_
  intro p e s m below meth c A ls C hD hP hS hl
  have hx := C.1
  have hb := C.2.1
  have hl : lv_has ls 3 [(0, .ref (qn 15)), (1, .int a1), (2, .int a2)] := hl
  unfold n_move at hf
  refine lv_aload_n hx hb dX0_move_0 rfl (lv_at hl 0 rfl) ?_
  refine lv_aload_n hx hb dX0_move_1 rfl (lv_at hl 0 rfl) ?_
  refine lv_iload_n hx hb dX0_move_2 rfl (lv_at hl 1 rfl) ?_
  obtain ⟨x1, hx1, hf⟩ := bd_some hf
  refine q_Vi C (rc := (RX0, TX0, 15)) (q0 := 0) (ci := 0) (ws' := wN G qn sn) (wr := []) (c_X0_at hx1) gX0_move_X0_at rfl ⟨rfl, rfl⟩ hdX0_at ⟨(Nat.le_of_ble_eq_true rfl), (Nat.le_of_ble_eq_true rfl)⟩ rfl hP (dd_N hD) hS rfl rfl (List.Perm.refl _) (List.Perm.refl _) hl.1 (Nat.le_of_ble_eq_true rfl) ⟨Nat.zero_le _, Nat.zero_le _⟩ rfl dX0_move_3 (fun H locs hP hS => ?_)
  refine lv_iload_n hx hb dX0_move_6 rfl (lv_at hl 2 rfl) ?_
  obtain ⟨x2, hx2, hf⟩ := bd_some hf
  refine q_Vv C (rc := (RX0, TX0, 15)) (q0 := 0) (ci := 0) (ws' := wN G qn x2) (wr := []) (c_X0_connect hx2) gX0_move_X0_connect rfl ⟨rfl, rfl⟩ hdX0_connect ⟨(Nat.le_of_ble_eq_true rfl), (Nat.le_of_ble_eq_true rfl)⟩ rfl hP (dd_N hD) hS rfl rfl (List.Perm.refl _) (List.Perm.refl _) hl.1 (Nat.le_of_ble_eq_true rfl) ⟨Nat.zero_le _, Nat.zero_le _⟩ rfl dX0_move_7 (fun H locs hP hS => ?_)
  cases hf
  exact q_vret C hP hS rfl dX0_move_10

-- X0_splice
theorem hiX0_splice_X0 : ∀ w ∈ u_ws RX0 TX0 15, w ∈ wsX0_splice := mem_run (i := 32) (by decide +kernel)
theorem wdX0_splice_1 : (Cond.fieldLink RX0 77 "CombinatorRing$Net" "loops" "I") ∈ wsX0_splice := List.mem_of_getElem? (i := 1) rfl
def n_splice (sn : NSt) (a1 : Int32) (a2 : Int32) : Option (NSt) := bd (n_at sn a1) fun x1 => if x1 = a2 then nm (nsI sn 13 ((ni sn 13) + 1)) fun s6 => some s6 else bd (n_at sn a1) fun x3 => bd (n_at sn a2) fun x4 => bd (n_connect sn x3 x4) fun x5 => some x5
abbrev rmX0_splice : Room := { frames := 2, cells := 0, slots := 0, locals := 46 }
theorem hdX0_splice : yX0_splice.cls = RX0 ∧ yX0_splice.cls ≠ "java/lang/invoke/MethodHandle" ∧ yX0_splice.cls ≠ "java/lang/invoke/VarHandle" ∧ (parseMethodDescriptor yX0_splice.desc).map (fun d => d.parameters.length) = some 2 := by decide +kernel
set_option maxHeartbeats 4000000 in
set_option maxRecDepth 100000 in
theorem c_X0_splice {l : Launch} {G : Gx} {qn : Nat → Nat} {sn : NSt} {a1 : Int32} {a2 : Int32} {x : NSt} (hf : n_splice sn a1 a2 = some x) : QM l G yX0_splice wsX0_splice rmX0_splice [.ref (qn 15), .int a1, .int a2] (wN G qn sn) (wN G qn x) none := by
  refine QM.of (cc := cX0_splice) (maxL := 3) (ret := none) (by decide) rfl (Nat.le_of_ble_eq_true rfl) ?_
  intro p e s m below meth c A ls C hD hP hS hl
  have hx := C.1
  have hb := C.2.1
  have hl : lv_has ls 3 [(0, .ref (qn 15)), (1, .int a1), (2, .int a2)] := hl
  unfold n_splice at hf
  refine lv_aload_n hx hb dX0_splice_0 rfl (lv_at hl 0 rfl) ?_
  refine lv_iload_n hx hb dX0_splice_1 rfl (lv_at hl 1 rfl) ?_
  obtain ⟨x1, hx1, hf⟩ := bd_some hf
  refine q_Vi C (rc := (RX0, TX0, 15)) (q0 := 0) (ci := 0) (ws' := wN G qn sn) (wr := []) (c_X0_at hx1) gX0_splice_X0_at rfl ⟨rfl, rfl⟩ hdX0_at ⟨(Nat.le_of_ble_eq_true rfl), (Nat.le_of_ble_eq_true rfl)⟩ rfl hP (dd_N hD) hS rfl rfl (List.Perm.refl _) (List.Perm.refl _) hl.1 (Nat.le_of_ble_eq_true rfl) ⟨Nat.zero_le _, Nat.zero_le _⟩ rfl dX0_splice_2 (fun H locs hP hS => ?_)
  refine lv_iload_n hx hb dX0_splice_5 rfl (lv_at hl 2 rfl) ?_
  refine lv_icmp_ne (tgt := 22) hx hb dX0_splice_6 (by decide) (fun c2 => ?_) (fun c2 => ?_)
  · have hf := if_f c2 hf
    refine lv_aload_n hx hb dX0_splice_22 rfl (lv_at hl 0 rfl) ?_
    refine lv_aload_n hx hb dX0_splice_23 rfl (lv_at hl 0 rfl) ?_
    refine lv_iload_n hx hb dX0_splice_24 rfl (lv_at hl 1 rfl) ?_
    obtain ⟨x3, hx3, hf⟩ := bd_some hf
    refine q_Vi C (rc := (RX0, TX0, 15)) (q0 := 0) (ci := 0) (ws' := wN G qn sn) (wr := []) (c_X0_at hx3) gX0_splice_X0_at rfl ⟨rfl, rfl⟩ hdX0_at ⟨(Nat.le_of_ble_eq_true rfl), (Nat.le_of_ble_eq_true rfl)⟩ rfl hP (dd_N hD) hS rfl rfl (List.Perm.refl _) (List.Perm.refl _) hl.1 (Nat.le_of_ble_eq_true rfl) ⟨Nat.zero_le _, Nat.zero_le _⟩ rfl dX0_splice_25 (fun H locs hP hS => ?_)
    refine lv_aload_n hx hb dX0_splice_28 rfl (lv_at hl 0 rfl) ?_
    refine lv_iload_n hx hb dX0_splice_29 rfl (lv_at hl 2 rfl) ?_
    obtain ⟨x4, hx4, hf⟩ := bd_some hf
    refine q_Vi C (rc := (RX0, TX0, 15)) (q0 := 0) (ci := 0) (ws' := wN G qn sn) (wr := []) (c_X0_at hx4) gX0_splice_X0_at rfl ⟨rfl, rfl⟩ hdX0_at ⟨(Nat.le_of_ble_eq_true rfl), (Nat.le_of_ble_eq_true rfl)⟩ rfl hP (dd_N hD) hS rfl rfl (List.Perm.refl _) (List.Perm.refl _) hl.1 (Nat.le_of_ble_eq_true rfl) ⟨Nat.zero_le _, Nat.zero_le _⟩ rfl dX0_splice_30 (fun H locs hP hS => ?_)
    obtain ⟨x5, hx5, hf⟩ := bd_some hf
    refine q_Vv C (rc := (RX0, TX0, 15)) (q0 := 0) (ci := 0) (ws' := wN G qn x5) (wr := []) (c_X0_connect hx5) gX0_splice_X0_connect rfl ⟨rfl, rfl⟩ hdX0_connect ⟨(Nat.le_of_ble_eq_true rfl), (Nat.le_of_ble_eq_true rfl)⟩ rfl hP (dd_N hD) hS rfl rfl (List.Perm.refl _) (List.Perm.refl _) hl.1 (Nat.le_of_ble_eq_true rfl) ⟨Nat.zero_le _, Nat.zero_le _⟩ rfl dX0_splice_33 (fun H locs hP hS => ?_)
    cases hf
    exact q_vret C hP hS rfl dX0_splice_36
  · have hf := if_t c2 hf
    refine lv_aload_n hx hb dX0_splice_9 rfl (lv_at hl 0 rfl) ?_
    refine lv_dup hx hb dX0_splice_10 rfl ?_
    refine q_get C hP (q0 := 0) rfl rfl hiX0_splice_X0 13 (by decide) wdX0_splice_1 rfl dX0_splice_11 ?_
    refine lv_iconst (v := 1) hx hb dX0_splice_14 (by decide) ?_
    refine lv_iadd hx hb dX0_splice_15 ?_
    obtain ⟨s6, es6, hf⟩ := nm_ex hf
    refine q_put C hP (dd_N hD) hS (q0 := 0) rfl rfl hiX0_splice_X0 tyX0_ok nmX0 13 (by decide) wdX0_splice_1 rfl rfl rfl (Nat.le_of_ble_eq_true rfl) rfl dX0_splice_16 (fun H locs hP hS => ?_)
    have hP : va_P G.1 vwCl (wN G qn s6) H := by rw [← es6]; exact hP
    refine lv_goto (tgt := 36) hx hb dX0_splice_19 (by decide) ?_
    cases hf
    exact q_vret C hP hS rfl dX0_splice_36

-- X0_hasRoom
theorem hiX0_hasRoom_X0 : ∀ w ∈ u_ws RX0 TX0 15, w ∈ wsX0_hasRoom := mem_run (i := 3) (by decide +kernel)
theorem wdX0_hasRoom_1 : (Cond.fieldLink RX0 59 "CombinatorRing$Net" "nodes" "I") ∈ wsX0_hasRoom := List.mem_of_getElem? (i := 1) rfl
theorem wdX0_hasRoom_2 : (Cond.fieldLink RX0 55 "CombinatorRing$Net" "memory" "I") ∈ wsX0_hasRoom := List.mem_of_getElem? (i := 2) rfl
def n_hasRoom (sn : NSt) (a1 : Int32) : Option (Int32) := if (ni sn 6) < ((ni sn 7) + a1) then some 0 else some 1
abbrev rmX0_hasRoom : Room := { frames := 0, cells := 0, slots := 0, locals := 0 }
theorem hdX0_hasRoom : yX0_hasRoom.cls = RX0 ∧ yX0_hasRoom.cls ≠ "java/lang/invoke/MethodHandle" ∧ yX0_hasRoom.cls ≠ "java/lang/invoke/VarHandle" ∧ (parseMethodDescriptor yX0_hasRoom.desc).map (fun d => d.parameters.length) = some 1 := by decide +kernel
set_option maxHeartbeats 4000000 in
set_option maxRecDepth 100000 in
theorem c_X0_hasRoom {l : Launch} {G : Gx} {qn : Nat → Nat} {sn : NSt} {a1 : Int32} {x : Int32} (hf : n_hasRoom sn a1 = some x) : QM l G yX0_hasRoom wsX0_hasRoom rmX0_hasRoom [.ref (qn 15), .int a1] (wN G qn sn) (wN G qn sn) (some (.int x)) := by
  refine QM.of (cc := cX0_hasRoom) (maxL := 2) (ret := (some .boolean)) (by decide) rfl (Nat.le_of_ble_eq_true rfl) ?_
  intro p e s m below meth c A ls C hD hP hS hl
  have hx := C.1
  have hb := C.2.1
  have hl : lv_has ls 2 [(0, .ref (qn 15)), (1, .int a1)] := hl
  unfold n_hasRoom at hf
  refine lv_aload_n hx hb dX0_hasRoom_0 rfl (lv_at hl 0 rfl) ?_
  refine q_get C hP (q0 := 0) rfl rfl hiX0_hasRoom_X0 7 (by decide) wdX0_hasRoom_1 rfl dX0_hasRoom_1 ?_
  refine lv_iload_n hx hb dX0_hasRoom_4 rfl (lv_at hl 1 rfl) ?_
  refine lv_iadd hx hb dX0_hasRoom_5 ?_
  refine lv_aload_n hx hb dX0_hasRoom_6 rfl (lv_at hl 0 rfl) ?_
  refine q_get C hP (q0 := 0) rfl rfl hiX0_hasRoom_X0 6 (by decide) wdX0_hasRoom_2 rfl dX0_hasRoom_7 ?_
  refine lv_icmp_gt (tgt := 17) hx hb dX0_hasRoom_10 (by decide) (fun c1 => ?_) (fun c1 => ?_)
  · have hf := if_t c1 hf
    refine lv_iconst (v := 0) hx hb dX0_hasRoom_17 (by decide) ?_
    cases hf
    exact q_zret C hP hS rfl (gb_nar (Or.inl rfl)) dX0_hasRoom_18
  · have hf := if_f c1 hf
    refine lv_iconst (v := 1) hx hb dX0_hasRoom_13 (by decide) ?_
    refine lv_goto (tgt := 18) hx hb dX0_hasRoom_14 (by decide) ?_
    cases hf
    exact q_zret C hP hS rfl (gb_nar (Or.inr rfl)) dX0_hasRoom_18

-- X0_givenNext
theorem hiX0_givenNext_X0 : ∀ w ∈ u_ws RX0 TX0 15, w ∈ wsX0_givenNext := mem_run (i := 6) (by decide +kernel)
theorem wdX0_givenNext_1 : (Cond.fieldLink RX0 55 "CombinatorRing$Net" "memory" "I") ∈ wsX0_givenNext := List.mem_of_getElem? (i := 1) rfl
theorem wdX0_givenNext_2 : (Cond.fieldLink RX0 59 "CombinatorRing$Net" "nodes" "I") ∈ wsX0_givenNext := List.mem_of_getElem? (i := 2) rfl
theorem wdX0_givenNext_3 : (Cond.fieldLink RX0 68 "CombinatorRing$Net" "freedCount" "I") ∈ wsX0_givenNext := List.mem_of_getElem? (i := 3) rfl
theorem wdX0_givenNext_5 : (Cond.fieldLink RX0 71 "CombinatorRing$Net" "given" "I") ∈ wsX0_givenNext := List.mem_of_getElem? (i := 5) rfl
theorem wdX0_givenNext_4 : (Cond.fieldLink RX0 15 "CombinatorRing$Net" "freed" "[I") ∈ wsX0_givenNext := List.mem_of_getElem? (i := 4) rfl
def n_givenNext (sn : NSt) (a1 : Int32) : Option (Int32) := if a1 < 0 then some (-1) else if a1 < ((ni sn 6) - (ni sn 7)) then if (ni sn 10) ≤ a1 then some ((ni sn 11) + (a1 - (ni sn 10))) else gd (((ni sn 10) - 1) - a1) 300 (some (na sn 2 (((ni sn 10) - 1) - a1).toNatClampNeg)) else some (-1)
abbrev rmX0_givenNext : Room := { frames := 0, cells := 0, slots := 0, locals := 0 }
theorem hdX0_givenNext : yX0_givenNext.cls = RX0 ∧ yX0_givenNext.cls ≠ "java/lang/invoke/MethodHandle" ∧ yX0_givenNext.cls ≠ "java/lang/invoke/VarHandle" ∧ (parseMethodDescriptor yX0_givenNext.desc).map (fun d => d.parameters.length) = some 1 := by decide +kernel
set_option maxHeartbeats 4000000 in
set_option maxRecDepth 100000 in
theorem c_X0_givenNext {l : Launch} {G : Gx} {qn : Nat → Nat} {sn : NSt} {a1 : Int32} {x : Int32} (hf : n_givenNext sn a1 = some x) : QM l G yX0_givenNext wsX0_givenNext rmX0_givenNext [.ref (qn 15), .int a1] (wN G qn sn) (wN G qn sn) (some (.int x)) := by
  refine QM.of (cc := cX0_givenNext) (maxL := 2) (ret := (some .int)) (by decide) rfl (Nat.le_of_ble_eq_true rfl) ?_
  intro p e s m below meth c A ls C hD hP hS hl
  have hx := C.1
  have hb := C.2.1
  have hl : lv_has ls 2 [(0, .ref (qn 15)), (1, .int a1)] := hl
  unfold n_givenNext at hf
  refine lv_iload_n hx hb dX0_givenNext_0 rfl (lv_at hl 1 rfl) ?_
  refine lv_if_lt (tgt := 17) hx hb dX0_givenNext_1 (by decide) (fun c1 => ?_) (fun c1 => ?_)
  · have hf := if_t c1 hf
    refine lv_iconst (v := (-1)) hx hb dX0_givenNext_17 (by decide) ?_
    cases hf
    exact q_iret C hP hS rfl dX0_givenNext_18
  · have hf := if_f c1 hf
    refine lv_iload_n hx hb dX0_givenNext_4 rfl (lv_at hl 1 rfl) ?_
    refine lv_aload_n hx hb dX0_givenNext_5 rfl (lv_at hl 0 rfl) ?_
    refine q_get C hP (q0 := 0) rfl rfl hiX0_givenNext_X0 6 (by decide) wdX0_givenNext_1 rfl dX0_givenNext_6 ?_
    refine lv_aload_n hx hb dX0_givenNext_9 rfl (lv_at hl 0 rfl) ?_
    refine q_get C hP (q0 := 0) rfl rfl hiX0_givenNext_X0 7 (by decide) wdX0_givenNext_2 rfl dX0_givenNext_10 ?_
    refine lv_isub hx hb dX0_givenNext_13 ?_
    refine lv_icmp_lt (tgt := 19) hx hb dX0_givenNext_14 (by decide) (fun c2 => ?_) (fun c2 => ?_)
    · have hf := if_t c2 hf
      refine lv_iload_n hx hb dX0_givenNext_19 rfl (lv_at hl 1 rfl) ?_
      refine lv_aload_n hx hb dX0_givenNext_20 rfl (lv_at hl 0 rfl) ?_
      refine q_get C hP (q0 := 0) rfl rfl hiX0_givenNext_X0 10 (by decide) wdX0_givenNext_3 rfl dX0_givenNext_21 ?_
      refine lv_icmp_ge (tgt := 43) hx hb dX0_givenNext_24 (by decide) (fun c3 => ?_) (fun c3 => ?_)
      · have hf := if_t c3 hf
        refine lv_aload_n hx hb dX0_givenNext_43 rfl (lv_at hl 0 rfl) ?_
        refine q_get C hP (q0 := 0) rfl rfl hiX0_givenNext_X0 11 (by decide) wdX0_givenNext_5 rfl dX0_givenNext_44 ?_
        refine lv_iload_n hx hb dX0_givenNext_47 rfl (lv_at hl 1 rfl) ?_
        refine lv_aload_n hx hb dX0_givenNext_48 rfl (lv_at hl 0 rfl) ?_
        refine q_get C hP (q0 := 0) rfl rfl hiX0_givenNext_X0 10 (by decide) wdX0_givenNext_3 rfl dX0_givenNext_49 ?_
        refine lv_isub hx hb dX0_givenNext_52 ?_
        refine lv_iadd hx hb dX0_givenNext_53 ?_
        cases hf
        exact q_iret C hP hS rfl dX0_givenNext_54
      · have hf := if_f c3 hf
        refine lv_aload_n hx hb dX0_givenNext_27 rfl (lv_at hl 0 rfl) ?_
        refine q_get C hP (q0 := 0) rfl rfl hiX0_givenNext_X0 2 (by decide) wdX0_givenNext_4 rfl dX0_givenNext_28 ?_
        refine lv_aload_n hx hb dX0_givenNext_31 rfl (lv_at hl 0 rfl) ?_
        refine q_get C hP (q0 := 0) rfl rfl hiX0_givenNext_X0 10 (by decide) wdX0_givenNext_3 rfl dX0_givenNext_32 ?_
        refine lv_iconst (v := 1) hx hb dX0_givenNext_35 (by decide) ?_
        refine lv_isub hx hb dX0_givenNext_36 ?_
        refine lv_iload_n hx hb dX0_givenNext_37 rfl (lv_at hl 1 rfl) ?_
        refine lv_isub hx hb dX0_givenNext_38 ?_
        obtain ⟨hin, hf⟩ := gd_some hf
        refine q_iald C hP (q0 := 3) rfl rfl hin dX0_givenNext_39 ?_
        refine lv_goto (tgt := 54) hx hb dX0_givenNext_40 (by decide) ?_
        cases hf
        exact q_iret C hP hS rfl dX0_givenNext_54
    · have hf := if_f c2 hf
      refine lv_iconst (v := (-1)) hx hb dX0_givenNext_17 (by decide) ?_
      cases hf
      exact q_iret C hP hS rfl dX0_givenNext_18

-- X0_make
theorem hiX0_make_X0 : ∀ w ∈ u_ws RX0 TX0 15, w ∈ wsX0_make := mem_run (i := 13) (by decide +kernel)
theorem wdX0_make_1 : (Cond.fieldLink RX0 68 "CombinatorRing$Net" "freedCount" "I") ∈ wsX0_make := List.mem_of_getElem? (i := 1) rfl
theorem wdX0_make_2 : (Cond.fieldLink RX0 71 "CombinatorRing$Net" "given" "I") ∈ wsX0_make := List.mem_of_getElem? (i := 2) rfl
theorem wdX0_make_3 : (Cond.fieldLink RX0 9 "CombinatorRing$Net" "kinds" "[I") ∈ wsX0_make := List.mem_of_getElem? (i := 3) rfl
theorem wdX0_make_4 : (Cond.fieldLink RX0 59 "CombinatorRing$Net" "nodes" "I") ∈ wsX0_make := List.mem_of_getElem? (i := 4) rfl
theorem wdX0_make_5 : (Cond.fieldLink RX0 62 "CombinatorRing$Net" "made" "I") ∈ wsX0_make := List.mem_of_getElem? (i := 5) rfl
def n_make_43 (sn : NSt) (v1 : Int32) (v2 : Int32) : Option (Int32 × NSt) := gd v2 300 (nm (nsA sn 0 (upd (na sn 0) v2.toNatClampNeg v1)) fun s6 => nm (nsI s6 7 ((ni s6 7) + 1)) fun s7 => nm (nsI s7 8 ((ni s7 8) + 1)) fun s8 => some (v2, s8))
def n_make (sn : NSt) (a1 : Int32) : Option (Int32 × NSt) := bd (n_givenNext sn 0) fun x1 => if x1 = (-1) then some ((-1), sn) else if (ni sn 10) ≤ 0 then nm (nsI sn 11 ((ni sn 11) + 1)) fun s4 => n_make_43 s4 a1 x1 else nm (nsI sn 10 ((ni sn 10) - 1)) fun s5 => n_make_43 s5 a1 x1
abbrev rmX0_make : Room := { frames := 1, cells := 0, slots := 0, locals := 21 }
theorem hdX0_make : yX0_make.cls = RX0 ∧ yX0_make.cls ≠ "java/lang/invoke/MethodHandle" ∧ yX0_make.cls ≠ "java/lang/invoke/VarHandle" ∧ (parseMethodDescriptor yX0_make.desc).map (fun d => d.parameters.length) = some 1 := by decide +kernel
set_option maxHeartbeats 4000000 in
set_option maxRecDepth 100000 in
theorem t_X0_make_43 {p : Program} {l : Launch} {e : Env} {s : State} {m : MethodId} {args : Array Value} {below : List Frame} {meth : Method} {c : Code} {A : Nat → Prop} {G : Gx} {qn : Nat → Nat} {sn0 : NSt} (C : Cx p s m args meth c G cX0_make wsX0_make RX0 (some .int) 3 A) (hD : va_D A (wN G qn sn0)) :
    ∀ {sn : NSt} {v1 : Int32} {v2 : Int32} {x : Int32 × NSt}, n_make_43 sn v1 v2 = some x → ∀ {H : Heap} {locs : List Loc} {ls : Array Slot}, va_P G.1 vwCl (wN G qn sn) H → va_S A s.heap H locs → lv_has ls 3 [(0, .ref (qn 15)), (1, .int v1), (2, .int v2)] → W p l e rmX0_make s m args below meth c H locs 0 0 (MQ below (qE G A (wN G qn x.2) (some (.int x.1))) args s 0 0 A) (F0 m 43 ls []) := by
  have hx := C.1
  have hb := C.2.1
  intro sn v1 v2 x hf H locs ls hP hS hl
  unfold n_make_43 at hf
  refine lv_aload_n hx hb dX0_make_43 rfl (lv_at hl 0 rfl) ?_
  refine q_get C hP (q0 := 0) rfl rfl hiX0_make_X0 0 (by decide) wdX0_make_3 rfl dX0_make_44 ?_
  refine lv_iload_n hx hb dX0_make_47 rfl (lv_at hl 2 rfl) ?_
  refine lv_iload_n hx hb dX0_make_48 rfl (lv_at hl 1 rfl) ?_
  obtain ⟨hin, hf⟩ := gd_some hf
  obtain ⟨s6, es6, hf⟩ := nm_ex hf
  refine q_iast C hP (dd_N hD) hS (q0 := 1) rfl rfl rfl hin dX0_make_49 (fun H locs hP hS => ?_)
  have hP : va_P G.1 vwCl (wN G qn s6) H := by rw [← es6]; exact hP
  refine lv_aload_n hx hb dX0_make_50 rfl (lv_at hl 0 rfl) ?_
  refine lv_dup hx hb dX0_make_51 rfl ?_
  refine q_get C hP (q0 := 0) rfl rfl hiX0_make_X0 7 (by decide) wdX0_make_4 rfl dX0_make_52 ?_
  refine lv_iconst (v := 1) hx hb dX0_make_55 (by decide) ?_
  refine lv_iadd hx hb dX0_make_56 ?_
  obtain ⟨s7, es7, hf⟩ := nm_ex hf
  refine q_put C hP (dd_N hD) hS (q0 := 0) rfl rfl hiX0_make_X0 tyX0_ok nmX0 7 (by decide) wdX0_make_4 rfl rfl rfl (Nat.le_of_ble_eq_true rfl) rfl dX0_make_57 (fun H locs hP hS => ?_)
  have hP : va_P G.1 vwCl (wN G qn s7) H := by rw [← es7]; exact hP
  refine lv_aload_n hx hb dX0_make_60 rfl (lv_at hl 0 rfl) ?_
  refine lv_dup hx hb dX0_make_61 rfl ?_
  refine q_get C hP (q0 := 0) rfl rfl hiX0_make_X0 8 (by decide) wdX0_make_5 rfl dX0_make_62 ?_
  refine lv_iconst (v := 1) hx hb dX0_make_65 (by decide) ?_
  refine lv_iadd hx hb dX0_make_66 ?_
  obtain ⟨s8, es8, hf⟩ := nm_ex hf
  refine q_put C hP (dd_N hD) hS (q0 := 0) rfl rfl hiX0_make_X0 tyX0_ok nmX0 8 (by decide) wdX0_make_5 rfl rfl rfl (Nat.le_of_ble_eq_true rfl) rfl dX0_make_67 (fun H locs hP hS => ?_)
  have hP : va_P G.1 vwCl (wN G qn s8) H := by rw [← es8]; exact hP
  refine lv_iload_n hx hb dX0_make_70 rfl (lv_at hl 2 rfl) ?_
  cases hf
  exact q_iret C hP hS rfl dX0_make_71
set_option maxHeartbeats 4000000 in
set_option maxRecDepth 100000 in
theorem c_X0_make {l : Launch} {G : Gx} {qn : Nat → Nat} {sn : NSt} {a1 : Int32} {x : Int32 × NSt} (hf : n_make sn a1 = some x) : QM l G yX0_make wsX0_make rmX0_make [.ref (qn 15), .int a1] (wN G qn sn) (wN G qn x.2) (some (.int x.1)) := by
  refine QM.of (cc := cX0_make) (maxL := 3) (ret := (some .int)) (by decide) rfl (Nat.le_of_ble_eq_true rfl) ?_
  intro p e s m below meth c A ls C hD hP hS hl
  have hx := C.1
  have hb := C.2.1
  have hl : lv_has ls 3 [(0, .ref (qn 15)), (1, .int a1)] := hl
  unfold n_make at hf
  refine lv_aload_n hx hb dX0_make_0 rfl (lv_at hl 0 rfl) ?_
  refine lv_iconst (v := 0) hx hb dX0_make_1 (by decide) ?_
  obtain ⟨x1, hx1, hf⟩ := bd_some hf
  refine q_Vi C (rc := (RX0, TX0, 15)) (q0 := 0) (ci := 0) (ws' := wN G qn sn) (wr := []) (c_X0_givenNext hx1) gX0_make_X0_givenNext rfl ⟨rfl, rfl⟩ hdX0_givenNext ⟨(Nat.le_of_ble_eq_true rfl), (Nat.le_of_ble_eq_true rfl)⟩ rfl hP (dd_N hD) hS rfl rfl (List.Perm.refl _) (List.Perm.refl _) hl.1 (Nat.le_of_ble_eq_true rfl) ⟨Nat.zero_le _, Nat.zero_le _⟩ rfl dX0_make_2 (fun H locs hP hS => ?_)
  refine lv_istore_n (lv' := [(2, .int x1), (0, .ref (qn 15)), (1, .int a1)]) hx hb dX0_make_5 rfl hl (by decide) rfl (fun ls hl => ?_)
  refine lv_iload_n hx hb dX0_make_6 rfl (lv_at hl 0 rfl) ?_
  refine lv_iconst (v := (-1)) hx hb dX0_make_7 (by decide) ?_
  refine lv_icmp_ne (tgt := 13) hx hb dX0_make_8 (by decide) (fun c2 => ?_) (fun c2 => ?_)
  · have hf := if_f c2 hf
    refine lv_aload_n hx hb dX0_make_13 rfl (lv_at hl 1 rfl) ?_
    refine q_get C hP (q0 := 0) rfl rfl hiX0_make_X0 10 (by decide) wdX0_make_1 rfl dX0_make_14 ?_
    refine lv_if_le (tgt := 33) hx hb dX0_make_17 (by decide) (fun c3 => ?_) (fun c3 => ?_)
    · have hf := if_t c3 hf
      refine lv_aload_n hx hb dX0_make_33 rfl (lv_at hl 1 rfl) ?_
      refine lv_dup hx hb dX0_make_34 rfl ?_
      refine q_get C hP (q0 := 0) rfl rfl hiX0_make_X0 11 (by decide) wdX0_make_2 rfl dX0_make_35 ?_
      refine lv_iconst (v := 1) hx hb dX0_make_38 (by decide) ?_
      refine lv_iadd hx hb dX0_make_39 ?_
      obtain ⟨s4, es4, hf⟩ := nm_ex hf
      refine q_put C hP (dd_N hD) hS (q0 := 0) rfl rfl hiX0_make_X0 tyX0_ok nmX0 11 (by decide) wdX0_make_2 rfl rfl rfl (Nat.le_of_ble_eq_true rfl) rfl dX0_make_40 (fun H locs hP hS => ?_)
      have hP : va_P G.1 vwCl (wN G qn s4) H := by rw [← es4]; exact hP
      exact t_X0_make_43 C hD hf hP hS (lv_sub hl [1, 2, 0] rfl)
    · have hf := if_f c3 hf
      refine lv_aload_n hx hb dX0_make_20 rfl (lv_at hl 1 rfl) ?_
      refine lv_dup hx hb dX0_make_21 rfl ?_
      refine q_get C hP (q0 := 0) rfl rfl hiX0_make_X0 10 (by decide) wdX0_make_1 rfl dX0_make_22 ?_
      refine lv_iconst (v := 1) hx hb dX0_make_25 (by decide) ?_
      refine lv_isub hx hb dX0_make_26 ?_
      obtain ⟨s5, es5, hf⟩ := nm_ex hf
      refine q_put C hP (dd_N hD) hS (q0 := 0) rfl rfl hiX0_make_X0 tyX0_ok nmX0 10 (by decide) wdX0_make_1 rfl rfl rfl (Nat.le_of_ble_eq_true rfl) rfl dX0_make_27 (fun H locs hP hS => ?_)
      have hP : va_P G.1 vwCl (wN G qn s5) H := by rw [← es5]; exact hP
      refine lv_goto (tgt := 43) hx hb dX0_make_30 (by decide) ?_
      exact t_X0_make_43 C hD hf hP hS (lv_sub hl [1, 2, 0] rfl)
  · have hf := if_t c2 hf
    refine lv_iconst (v := (-1)) hx hb dX0_make_11 (by decide) ?_
    cases hf
    exact q_iret C hP hS rfl dX0_make_12

-- X0_free
theorem hiX0_free_X0 : ∀ w ∈ u_ws RX0 TX0 15, w ∈ wsX0_free := mem_run (i := 11) (by decide +kernel)
theorem wdX0_free_1 : (Cond.fieldLink RX0 68 "CombinatorRing$Net" "freedCount" "I") ∈ wsX0_free := List.mem_of_getElem? (i := 1) rfl
theorem wdX0_free_2 : (Cond.fieldLink RX0 9 "CombinatorRing$Net" "kinds" "[I") ∈ wsX0_free := List.mem_of_getElem? (i := 2) rfl
theorem wdX0_free_3 : (Cond.fieldLink RX0 15 "CombinatorRing$Net" "freed" "[I") ∈ wsX0_free := List.mem_of_getElem? (i := 3) rfl
theorem wdX0_free_4 : (Cond.fieldLink RX0 65 "CombinatorRing$Net" "freedEver" "I") ∈ wsX0_free := List.mem_of_getElem? (i := 4) rfl
theorem wdX0_free_5 : (Cond.fieldLink RX0 59 "CombinatorRing$Net" "nodes" "I") ∈ wsX0_free := List.mem_of_getElem? (i := 5) rfl
def n_free (sn : NSt) (a1 : Int32) : Option (NSt) := bd (n_kindOf sn a1) fun x1 => if x1 = (-1) then some sn else if (ni sn 10) < 300 then gd a1 300 (nm (nsA sn 0 (upd (na sn 0) a1.toNatClampNeg (-1))) fun s4 => gd (ni s4 10) 300 (nm (nsA s4 2 (upd (na s4 2) (ni s4 10).toNatClampNeg a1)) fun s5 => nm (nsI s5 10 ((ni s5 10) + 1)) fun s6 => nm (nsI s6 9 ((ni s6 9) + 1)) fun s7 => nm (nsI s7 7 ((ni s7 7) - 1)) fun s8 => some s8)) else some sn
abbrev rmX0_free : Room := { frames := 1, cells := 0, slots := 0, locals := 21 }
theorem hdX0_free : yX0_free.cls = RX0 ∧ yX0_free.cls ≠ "java/lang/invoke/MethodHandle" ∧ yX0_free.cls ≠ "java/lang/invoke/VarHandle" ∧ (parseMethodDescriptor yX0_free.desc).map (fun d => d.parameters.length) = some 1 := by decide +kernel
set_option maxHeartbeats 4000000 in
set_option maxRecDepth 100000 in
theorem c_X0_free {l : Launch} {G : Gx} {qn : Nat → Nat} {sn : NSt} {a1 : Int32} {x : NSt} (hf : n_free sn a1 = some x) : QM l G yX0_free wsX0_free rmX0_free [.ref (qn 15), .int a1] (wN G qn sn) (wN G qn x) none := by
  refine QM.of (cc := cX0_free) (maxL := 2) (ret := none) (by decide) rfl (Nat.le_of_ble_eq_true rfl) ?_
  intro p e s m below meth c A ls C hD hP hS hl
  have hx := C.1
  have hb := C.2.1
  have hl : lv_has ls 2 [(0, .ref (qn 15)), (1, .int a1)] := hl
  unfold n_free at hf
  refine lv_aload_n hx hb dX0_free_0 rfl (lv_at hl 0 rfl) ?_
  refine lv_iload_n hx hb dX0_free_1 rfl (lv_at hl 1 rfl) ?_
  obtain ⟨x1, hx1, hf⟩ := bd_some hf
  refine q_Vi C (rc := (RX0, TX0, 15)) (q0 := 0) (ci := 0) (ws' := wN G qn sn) (wr := []) (c_X0_kindOf hx1) gX0_free_X0_kindOf rfl ⟨rfl, rfl⟩ hdX0_kindOf ⟨(Nat.le_of_ble_eq_true rfl), (Nat.le_of_ble_eq_true rfl)⟩ rfl hP (dd_N hD) hS rfl rfl (List.Perm.refl _) (List.Perm.refl _) hl.1 (Nat.le_of_ble_eq_true rfl) ⟨Nat.zero_le _, Nat.zero_le _⟩ rfl dX0_free_2 (fun H locs hP hS => ?_)
  refine lv_iconst (v := (-1)) hx hb dX0_free_5 (by decide) ?_
  refine lv_icmp_eq (tgt := 19) hx hb dX0_free_6 (by decide) (fun c2 => ?_) (fun c2 => ?_)
  · have hf := if_t c2 hf
    cases hf
    exact q_vret C hP hS rfl dX0_free_19
  · have hf := if_f c2 hf
    refine lv_aload_n hx hb dX0_free_9 rfl (lv_at hl 0 rfl) ?_
    refine q_get C hP (q0 := 0) rfl rfl hiX0_free_X0 10 (by decide) wdX0_free_1 rfl dX0_free_10 ?_
    refine lv_sipush (v := 300) hx hb dX0_free_13 (by decide) ?_
    refine lv_icmp_lt (tgt := 20) hx hb dX0_free_16 (by decide) (fun c3 => ?_) (fun c3 => ?_)
    · have hf := if_t c3 hf
      refine lv_aload_n hx hb dX0_free_20 rfl (lv_at hl 0 rfl) ?_
      refine q_get C hP (q0 := 0) rfl rfl hiX0_free_X0 0 (by decide) wdX0_free_2 rfl dX0_free_21 ?_
      refine lv_iload_n hx hb dX0_free_24 rfl (lv_at hl 1 rfl) ?_
      refine lv_iconst (v := (-1)) hx hb dX0_free_25 (by decide) ?_
      obtain ⟨hin, hf⟩ := gd_some hf
      obtain ⟨s4, es4, hf⟩ := nm_ex hf
      refine q_iast C hP (dd_N hD) hS (q0 := 1) rfl rfl rfl hin dX0_free_26 (fun H locs hP hS => ?_)
      have hP : va_P G.1 vwCl (wN G qn s4) H := by rw [← es4]; exact hP
      refine lv_aload_n hx hb dX0_free_27 rfl (lv_at hl 0 rfl) ?_
      refine q_get C hP (q0 := 0) rfl rfl hiX0_free_X0 2 (by decide) wdX0_free_3 rfl dX0_free_28 ?_
      refine lv_aload_n hx hb dX0_free_31 rfl (lv_at hl 0 rfl) ?_
      refine q_get C hP (q0 := 0) rfl rfl hiX0_free_X0 10 (by decide) wdX0_free_1 rfl dX0_free_32 ?_
      refine lv_iload_n hx hb dX0_free_35 rfl (lv_at hl 1 rfl) ?_
      obtain ⟨hin, hf⟩ := gd_some hf
      obtain ⟨s5, es5, hf⟩ := nm_ex hf
      refine q_iast C hP (dd_N hD) hS (q0 := 3) rfl rfl rfl hin dX0_free_36 (fun H locs hP hS => ?_)
      have hP : va_P G.1 vwCl (wN G qn s5) H := by rw [← es5]; exact hP
      refine lv_aload_n hx hb dX0_free_37 rfl (lv_at hl 0 rfl) ?_
      refine lv_dup hx hb dX0_free_38 rfl ?_
      refine q_get C hP (q0 := 0) rfl rfl hiX0_free_X0 10 (by decide) wdX0_free_1 rfl dX0_free_39 ?_
      refine lv_iconst (v := 1) hx hb dX0_free_42 (by decide) ?_
      refine lv_iadd hx hb dX0_free_43 ?_
      obtain ⟨s6, es6, hf⟩ := nm_ex hf
      refine q_put C hP (dd_N hD) hS (q0 := 0) rfl rfl hiX0_free_X0 tyX0_ok nmX0 10 (by decide) wdX0_free_1 rfl rfl rfl (Nat.le_of_ble_eq_true rfl) rfl dX0_free_44 (fun H locs hP hS => ?_)
      have hP : va_P G.1 vwCl (wN G qn s6) H := by rw [← es6]; exact hP
      refine lv_aload_n hx hb dX0_free_47 rfl (lv_at hl 0 rfl) ?_
      refine lv_dup hx hb dX0_free_48 rfl ?_
      refine q_get C hP (q0 := 0) rfl rfl hiX0_free_X0 9 (by decide) wdX0_free_4 rfl dX0_free_49 ?_
      refine lv_iconst (v := 1) hx hb dX0_free_52 (by decide) ?_
      refine lv_iadd hx hb dX0_free_53 ?_
      obtain ⟨s7, es7, hf⟩ := nm_ex hf
      refine q_put C hP (dd_N hD) hS (q0 := 0) rfl rfl hiX0_free_X0 tyX0_ok nmX0 9 (by decide) wdX0_free_4 rfl rfl rfl (Nat.le_of_ble_eq_true rfl) rfl dX0_free_54 (fun H locs hP hS => ?_)
      have hP : va_P G.1 vwCl (wN G qn s7) H := by rw [← es7]; exact hP
      refine lv_aload_n hx hb dX0_free_57 rfl (lv_at hl 0 rfl) ?_
      refine lv_dup hx hb dX0_free_58 rfl ?_
      refine q_get C hP (q0 := 0) rfl rfl hiX0_free_X0 7 (by decide) wdX0_free_5 rfl dX0_free_59 ?_
      refine lv_iconst (v := 1) hx hb dX0_free_62 (by decide) ?_
      refine lv_isub hx hb dX0_free_63 ?_
      obtain ⟨s8, es8, hf⟩ := nm_ex hf
      refine q_put C hP (dd_N hD) hS (q0 := 0) rfl rfl hiX0_free_X0 tyX0_ok nmX0 7 (by decide) wdX0_free_5 rfl rfl rfl (Nat.le_of_ble_eq_true rfl) rfl dX0_free_64 (fun H locs hP hS => ?_)
      have hP : va_P G.1 vwCl (wN G qn s8) H := by rw [← es8]; exact hP
      cases hf
      exact q_vret C hP hS rfl dX0_free_67
    · have hf := if_f c3 hf
      cases hf
      exact q_vret C hP hS rfl dX0_free_19

-- X0_hasRoot
theorem hiX0_hasRoot_X0 : ∀ w ∈ u_ws RX0 TX0 15, w ∈ wsX0_hasRoot := mem_run (i := 2) (by decide +kernel)
theorem wdX0_hasRoot_1 : (Cond.fieldLink RX0 37 "CombinatorRing$Net" "links" "[I") ∈ wsX0_hasRoot := List.mem_of_getElem? (i := 1) rfl
def n_hasRoot (sn : NSt) (a1 : Int32) : Option (Int32) := if a1 < 0 then some 0 else if 16 ≤ a1 then some 0 else gd (1000 + a1) (nl sn) (if (na sn 1 (1000 + a1).toNatClampNeg) = (-1) then some 0 else some 1)
abbrev rmX0_hasRoot : Room := { frames := 0, cells := 0, slots := 0, locals := 0 }
theorem hdX0_hasRoot : yX0_hasRoot.cls = RX0 ∧ yX0_hasRoot.cls ≠ "java/lang/invoke/MethodHandle" ∧ yX0_hasRoot.cls ≠ "java/lang/invoke/VarHandle" ∧ (parseMethodDescriptor yX0_hasRoot.desc).map (fun d => d.parameters.length) = some 1 := by decide +kernel
set_option maxHeartbeats 4000000 in
set_option maxRecDepth 100000 in
theorem c_X0_hasRoot {l : Launch} {G : Gx} {qn : Nat → Nat} {sn : NSt} {a1 : Int32} {x : Int32} (hf : n_hasRoot sn a1 = some x) : QM l G yX0_hasRoot wsX0_hasRoot rmX0_hasRoot [.ref (qn 15), .int a1] (wN G qn sn) (wN G qn sn) (some (.int x)) := by
  refine QM.of (cc := cX0_hasRoot) (maxL := 2) (ret := (some .boolean)) (by decide) rfl (Nat.le_of_ble_eq_true rfl) ?_
  intro p e s m below meth c A ls C hD hP hS hl
  have hx := C.1
  have hb := C.2.1
  have hl : lv_has ls 2 [(0, .ref (qn 15)), (1, .int a1)] := hl
  unfold n_hasRoot at hf
  refine lv_iload_n hx hb dX0_hasRoot_0 rfl (lv_at hl 1 rfl) ?_
  refine lv_if_lt (tgt := 28) hx hb dX0_hasRoot_1 (by decide) (fun c1 => ?_) (fun c1 => ?_)
  · have hf := if_t c1 hf
    refine lv_iconst (v := 0) hx hb dX0_hasRoot_28 (by decide) ?_
    cases hf
    exact q_zret C hP hS rfl (gb_nar (Or.inl rfl)) dX0_hasRoot_29
  · have hf := if_f c1 hf
    refine lv_iload_n hx hb dX0_hasRoot_4 rfl (lv_at hl 1 rfl) ?_
    refine lv_bipush (v := 16) hx hb dX0_hasRoot_5 (by decide) ?_
    refine lv_icmp_ge (tgt := 28) hx hb dX0_hasRoot_7 (by decide) (fun c2 => ?_) (fun c2 => ?_)
    · have hf := if_t c2 hf
      refine lv_iconst (v := 0) hx hb dX0_hasRoot_28 (by decide) ?_
      cases hf
      exact q_zret C hP hS rfl (gb_nar (Or.inl rfl)) dX0_hasRoot_29
    · have hf := if_f c2 hf
      refine lv_aload_n hx hb dX0_hasRoot_10 rfl (lv_at hl 0 rfl) ?_
      refine q_get C hP (q0 := 0) rfl rfl hiX0_hasRoot_X0 1 (by decide) wdX0_hasRoot_1 rfl dX0_hasRoot_11 ?_
      refine lv_sipush (v := 1000) hx hb dX0_hasRoot_14 (by decide) ?_
      refine lv_iload_n hx hb dX0_hasRoot_17 rfl (lv_at hl 1 rfl) ?_
      refine lv_iadd hx hb dX0_hasRoot_18 ?_
      obtain ⟨hin, hf⟩ := gd_some hf
      refine q_iald C hP (q0 := 2) rfl rfl hin dX0_hasRoot_19 ?_
      refine lv_iconst (v := (-1)) hx hb dX0_hasRoot_20 (by decide) ?_
      refine lv_icmp_eq (tgt := 28) hx hb dX0_hasRoot_21 (by decide) (fun c3 => ?_) (fun c3 => ?_)
      · have hf := if_t c3 hf
        refine lv_iconst (v := 0) hx hb dX0_hasRoot_28 (by decide) ?_
        cases hf
        exact q_zret C hP hS rfl (gb_nar (Or.inl rfl)) dX0_hasRoot_29
      · have hf := if_f c3 hf
        refine lv_iconst (v := 1) hx hb dX0_hasRoot_24 (by decide) ?_
        refine lv_goto (tgt := 29) hx hb dX0_hasRoot_25 (by decide) ?_
        cases hf
        exact q_zret C hP hS rfl (gb_nar (Or.inr rfl)) dX0_hasRoot_29

-- X0_rootsThere
def n_rootsThere_4 : Nat → NSt → Int32 → Int32 → Option (Int32)
  | 0, _, _, _ => none
  | n + 1, sn, v1, v2 => if 16 ≤ v2 then some v1 else bd (n_hasRoot sn v2) fun x3 => if x3 = 0 then n_rootsThere_4 n sn v1 (v2 + 1) else n_rootsThere_4 n sn (v1 + 1) (v2 + 1)
def n_rootsThere (sn : NSt)  : Option (Int32) := bd (n_rootsThere_4 20000 sn 0 0) fun x1 => some x1
abbrev rmX0_rootsThere : Room := { frames := 1, cells := 0, slots := 0, locals := 21 }
theorem hdX0_rootsThere : yX0_rootsThere.cls = RX0 ∧ yX0_rootsThere.cls ≠ "java/lang/invoke/MethodHandle" ∧ yX0_rootsThere.cls ≠ "java/lang/invoke/VarHandle" ∧ (parseMethodDescriptor yX0_rootsThere.desc).map (fun d => d.parameters.length) = some 0 := by decide +kernel
set_option maxHeartbeats 4000000 in
set_option maxRecDepth 100000 in
theorem t_X0_rootsThere_4 {p : Program} {l : Launch} {e : Env} {s : State} {m : MethodId} {args : Array Value} {below : List Frame} {meth : Method} {c : Code} {Q : State → Prop} {A : Nat → Prop} {G : Gx} {qn : Nat → Nat} {sn0 : NSt} (C : Cx p s m args meth c G cX0_rootsThere wsX0_rootsThere RX0 (some .int) 3 A) (hD : va_D A (wN G qn sn0)) :
    ∀ {n : Nat} {sn : NSt} {v1 : Int32} {v2 : Int32} {x : Int32}, n_rootsThere_4 n sn v1 v2 = some x → ∀ {H : Heap} {locs : List Loc} {ls : Array Slot}, va_P G.1 vwCl (wN G qn sn) H → va_S A s.heap H locs → lv_has ls 3 [(0, .ref (qn 15)), (1, .int v1), (2, .int v2)] → (∀ {H : Heap} {locs : List Loc} {ls : Array Slot}, va_P G.1 vwCl (wN G qn sn) H → va_S A s.heap H locs → lv_has ls 3 [(1, .int x)] → W p l e rmX0_rootsThere s m args below meth c H locs 0 0 Q (F0 m 27 ls [])) → W p l e rmX0_rootsThere s m args below meth c H locs 0 0 Q (F0 m 4 ls []) := by
  have hx := C.1
  have hb := C.2.1
  intro n
  induction n with
  | zero => intro sn v1 v2 x hf; cases hf
  | succ n ih =>
    intro sn v1 v2 x hf H locs ls hP hS hl kk
    rw [n_rootsThere_4] at hf
    refine lv_iload_n hx hb dX0_rootsThere_4 rfl (lv_at hl 2 rfl) ?_
    refine lv_bipush (v := 16) hx hb dX0_rootsThere_5 (by decide) ?_
    refine lv_icmp_ge (tgt := 27) hx hb dX0_rootsThere_7 (by decide) (fun c2 => ?_) (fun c2 => ?_)
    · have hf := if_t c2 hf
      cases hf
      exact kk hP hS (lv_sub hl [1] rfl)
    · have hf := if_f c2 hf
      refine lv_aload_n hx hb dX0_rootsThere_10 rfl (lv_at hl 0 rfl) ?_
      refine lv_iload_n hx hb dX0_rootsThere_11 rfl (lv_at hl 2 rfl) ?_
      obtain ⟨x3, hx3, hf⟩ := bd_some hf
      refine q_Vi C (rc := (RX0, TX0, 15)) (q0 := 0) (ci := 0) (ws' := wN G qn sn) (wr := []) (c_X0_hasRoot hx3) gX0_rootsThere_X0_hasRoot rfl ⟨rfl, rfl⟩ hdX0_hasRoot ⟨(Nat.le_of_ble_eq_true rfl), (Nat.le_of_ble_eq_true rfl)⟩ rfl hP (dd_N hD) hS rfl rfl (List.Perm.refl _) (List.Perm.refl _) hl.1 (Nat.le_of_ble_eq_true rfl) ⟨Nat.zero_le _, Nat.zero_le _⟩ rfl dX0_rootsThere_12 (fun H locs hP hS => ?_)
      refine lv_if_eq (tgt := 21) hx hb dX0_rootsThere_15 (by decide) (fun c4 => ?_) (fun c4 => ?_)
      · have hf := if_t c4 hf
        refine lv_iinc (v := (v2 + 1)) (lv' := [(2, .int (v2 + 1)), (0, .ref (qn 15)), (1, .int v1)]) hx hb dX0_rootsThere_21 hl (k := 2) rfl rfl (by decide) rfl (fun ls hl => ?_)
        refine lv_goto (tgt := 4) hx hb dX0_rootsThere_24 (by decide) ?_
        exact ih hf hP hS (lv_sub hl [1, 2, 0] rfl) kk
      · have hf := if_f c4 hf
        refine lv_iinc (v := (v1 + 1)) (lv' := [(1, .int (v1 + 1)), (0, .ref (qn 15)), (2, .int v2)]) hx hb dX0_rootsThere_18 hl (k := 1) rfl rfl (by decide) rfl (fun ls hl => ?_)
        refine lv_iinc (v := (v2 + 1)) (lv' := [(2, .int (v2 + 1)), (1, .int (v1 + 1)), (0, .ref (qn 15))]) hx hb dX0_rootsThere_21 hl (k := 2) rfl rfl (by decide) rfl (fun ls hl => ?_)
        refine lv_goto (tgt := 4) hx hb dX0_rootsThere_24 (by decide) ?_
        exact ih hf hP hS (lv_sub hl [2, 1, 0] rfl) kk
set_option maxHeartbeats 4000000 in
set_option maxRecDepth 100000 in
theorem c_X0_rootsThere {l : Launch} {G : Gx} {qn : Nat → Nat} {sn : NSt}  {x : Int32} (hf : n_rootsThere sn = some x) : QM l G yX0_rootsThere wsX0_rootsThere rmX0_rootsThere [.ref (qn 15)] (wN G qn sn) (wN G qn sn) (some (.int x)) := by
  refine QM.of (cc := cX0_rootsThere) (maxL := 3) (ret := (some .int)) (by decide) rfl (Nat.le_of_ble_eq_true rfl) ?_
  intro p e s m below meth c A ls C hD hP hS hl
  have hx := C.1
  have hb := C.2.1
  have hl : lv_has ls 3 [(0, .ref (qn 15))] := hl
  unfold n_rootsThere at hf
  refine lv_iconst (v := 0) hx hb dX0_rootsThere_0 (by decide) ?_
  refine lv_istore_n (lv' := [(1, .int 0), (0, .ref (qn 15))]) hx hb dX0_rootsThere_1 rfl hl (by decide) rfl (fun ls hl => ?_)
  refine lv_iconst (v := 0) hx hb dX0_rootsThere_2 (by decide) ?_
  refine lv_istore_n (lv' := [(2, .int 0), (1, .int 0), (0, .ref (qn 15))]) hx hb dX0_rootsThere_3 rfl hl (by decide) rfl (fun ls hl => ?_)
  obtain ⟨x1, hx1, hf⟩ := bd_some hf
  refine t_X0_rootsThere_4 C hD hx1 hP hS (lv_sub hl [2, 1, 0] rfl) (fun {H locs ls} hP hS hl => ?_)
  refine lv_iload_n hx hb dX0_rootsThere_27 rfl (lv_at hl 0 rfl) ?_
  cases hf
  exact q_iret C hP hS rfl dX0_rootsThere_28

-- X0_makeRoot
theorem hiX0_makeRoot_X0 : ∀ w ∈ u_ws RX0 TX0 15, w ∈ wsX0_makeRoot := mem_run (i := 28) (by decide +kernel)
theorem wdX0_makeRoot_1 : (Cond.fieldLink RX0 74 "CombinatorRing$Net" "rootsEver" "I") ∈ wsX0_makeRoot := List.mem_of_getElem? (i := 1) rfl
def n_makeRoot (sn : NSt) (a1 : Int32) : Option (Int32 × NSt) := if (ni sn 12) < 16 then nm (nsI sn 12 ((ni sn 12) + 1)) fun s2 => bd (n_connect s2 (1000 + (ni sn 12)) a1) fun x3 => some ((ni sn 12), x3) else some ((-1), sn)
abbrev rmX0_makeRoot : Room := { frames := 2, cells := 0, slots := 0, locals := 46 }
theorem hdX0_makeRoot : yX0_makeRoot.cls = RX0 ∧ yX0_makeRoot.cls ≠ "java/lang/invoke/MethodHandle" ∧ yX0_makeRoot.cls ≠ "java/lang/invoke/VarHandle" ∧ (parseMethodDescriptor yX0_makeRoot.desc).map (fun d => d.parameters.length) = some 1 := by decide +kernel
set_option maxHeartbeats 4000000 in
set_option maxRecDepth 100000 in
theorem c_X0_makeRoot {l : Launch} {G : Gx} {qn : Nat → Nat} {sn : NSt} {a1 : Int32} {x : Int32 × NSt} (hf : n_makeRoot sn a1 = some x) : QM l G yX0_makeRoot wsX0_makeRoot rmX0_makeRoot [.ref (qn 15), .int a1] (wN G qn sn) (wN G qn x.2) (some (.int x.1)) := by
  refine QM.of (cc := cX0_makeRoot) (maxL := 3) (ret := (some .int)) (by decide) rfl (Nat.le_of_ble_eq_true rfl) ?_
  intro p e s m below meth c A ls C hD hP hS hl
  have hx := C.1
  have hb := C.2.1
  have hl : lv_has ls 3 [(0, .ref (qn 15)), (1, .int a1)] := hl
  unfold n_makeRoot at hf
  refine lv_aload_n hx hb dX0_makeRoot_0 rfl (lv_at hl 0 rfl) ?_
  refine q_get C hP (q0 := 0) rfl rfl hiX0_makeRoot_X0 12 (by decide) wdX0_makeRoot_1 rfl dX0_makeRoot_1 ?_
  refine lv_bipush (v := 16) hx hb dX0_makeRoot_4 (by decide) ?_
  refine lv_icmp_lt (tgt := 11) hx hb dX0_makeRoot_6 (by decide) (fun c1 => ?_) (fun c1 => ?_)
  · have hf := if_t c1 hf
    refine lv_aload_n hx hb dX0_makeRoot_11 rfl (lv_at hl 0 rfl) ?_
    refine q_get C hP (q0 := 0) rfl rfl hiX0_makeRoot_X0 12 (by decide) wdX0_makeRoot_1 rfl dX0_makeRoot_12 ?_
    refine lv_istore_n (lv' := [(2, .int (ni sn 12)), (0, .ref (qn 15)), (1, .int a1)]) hx hb dX0_makeRoot_15 rfl hl (by decide) rfl (fun ls hl => ?_)
    refine lv_aload_n hx hb dX0_makeRoot_16 rfl (lv_at hl 1 rfl) ?_
    refine lv_dup hx hb dX0_makeRoot_17 rfl ?_
    refine q_get C hP (q0 := 0) rfl rfl hiX0_makeRoot_X0 12 (by decide) wdX0_makeRoot_1 rfl dX0_makeRoot_18 ?_
    refine lv_iconst (v := 1) hx hb dX0_makeRoot_21 (by decide) ?_
    refine lv_iadd hx hb dX0_makeRoot_22 ?_
    obtain ⟨s2, es2, hf⟩ := nm_ex hf
    refine q_put C hP (dd_N hD) hS (q0 := 0) rfl rfl hiX0_makeRoot_X0 tyX0_ok nmX0 12 (by decide) wdX0_makeRoot_1 rfl rfl rfl (Nat.le_of_ble_eq_true rfl) rfl dX0_makeRoot_23 (fun H locs hP hS => ?_)
    have hP : va_P G.1 vwCl (wN G qn s2) H := by rw [← es2]; exact hP
    refine lv_aload_n hx hb dX0_makeRoot_26 rfl (lv_at hl 1 rfl) ?_
    refine lv_sipush (v := 1000) hx hb dX0_makeRoot_27 (by decide) ?_
    refine lv_iload_n hx hb dX0_makeRoot_30 rfl (lv_at hl 0 rfl) ?_
    refine lv_iadd hx hb dX0_makeRoot_31 ?_
    refine lv_iload_n hx hb dX0_makeRoot_32 rfl (lv_at hl 2 rfl) ?_
    obtain ⟨x3, hx3, hf⟩ := bd_some hf
    refine q_Vv C (rc := (RX0, TX0, 15)) (q0 := 0) (ci := 0) (ws' := wN G qn x3) (wr := []) (c_X0_connect hx3) gX0_makeRoot_X0_connect rfl ⟨rfl, rfl⟩ hdX0_connect ⟨(Nat.le_of_ble_eq_true rfl), (Nat.le_of_ble_eq_true rfl)⟩ rfl hP (dd_N hD) hS rfl rfl (List.Perm.refl _) (List.Perm.refl _) hl.1 (Nat.le_of_ble_eq_true rfl) ⟨Nat.zero_le _, Nat.zero_le _⟩ rfl dX0_makeRoot_33 (fun H locs hP hS => ?_)
    refine lv_iload_n hx hb dX0_makeRoot_36 rfl (lv_at hl 0 rfl) ?_
    cases hf
    exact q_iret C hP hS rfl dX0_makeRoot_37
  · have hf := if_f c1 hf
    refine lv_iconst (v := (-1)) hx hb dX0_makeRoot_9 (by decide) ?_
    cases hf
    exact q_iret C hP hS rfl dX0_makeRoot_10

-- X0_endRoot
theorem hiX0_endRoot_X0 : ∀ w ∈ u_ws RX0 TX0 15, w ∈ wsX0_endRoot := mem_run (i := 39) (by decide +kernel)
theorem wdX0_endRoot_1 : (Cond.fieldLink RX0 37 "CombinatorRing$Net" "links" "[I") ∈ wsX0_endRoot := List.mem_of_getElem? (i := 1) rfl
def n_endRoot (sn : NSt) (a1 : Int32) (a2 : Int32) : Option (NSt) := bd (n_hasRoot sn a1) fun x1 => if x1 = 0 then some sn else bd (n_move sn (1000 + a1) a2) fun x3 => gd (1000 + a1) (nl x3) (nm (nsA x3 1 (upd (na x3 1) (1000 + a1).toNatClampNeg (-1))) fun s4 => some s4)
abbrev rmX0_endRoot : Room := { frames := 3, cells := 0, slots := 0, locals := 68 }
theorem hdX0_endRoot : yX0_endRoot.cls = RX0 ∧ yX0_endRoot.cls ≠ "java/lang/invoke/MethodHandle" ∧ yX0_endRoot.cls ≠ "java/lang/invoke/VarHandle" ∧ (parseMethodDescriptor yX0_endRoot.desc).map (fun d => d.parameters.length) = some 2 := by decide +kernel
set_option maxHeartbeats 4000000 in
set_option maxRecDepth 100000 in
theorem c_X0_endRoot {l : Launch} {G : Gx} {qn : Nat → Nat} {sn : NSt} {a1 : Int32} {a2 : Int32} {x : NSt} (hf : n_endRoot sn a1 a2 = some x) : QM l G yX0_endRoot wsX0_endRoot rmX0_endRoot [.ref (qn 15), .int a1, .int a2] (wN G qn sn) (wN G qn x) none := by
  refine QM.of (cc := cX0_endRoot) (maxL := 3) (ret := none) (by decide) rfl (Nat.le_of_ble_eq_true rfl) ?_
  intro p e s m below meth c A ls C hD hP hS hl
  have hx := C.1
  have hb := C.2.1
  have hl : lv_has ls 3 [(0, .ref (qn 15)), (1, .int a1), (2, .int a2)] := hl
  unfold n_endRoot at hf
  refine lv_aload_n hx hb dX0_endRoot_0 rfl (lv_at hl 0 rfl) ?_
  refine lv_iload_n hx hb dX0_endRoot_1 rfl (lv_at hl 1 rfl) ?_
  obtain ⟨x1, hx1, hf⟩ := bd_some hf
  refine q_Vi C (rc := (RX0, TX0, 15)) (q0 := 0) (ci := 0) (ws' := wN G qn sn) (wr := []) (c_X0_hasRoot hx1) gX0_endRoot_X0_hasRoot rfl ⟨rfl, rfl⟩ hdX0_hasRoot ⟨(Nat.le_of_ble_eq_true rfl), (Nat.le_of_ble_eq_true rfl)⟩ rfl hP (dd_N hD) hS rfl rfl (List.Perm.refl _) (List.Perm.refl _) hl.1 (Nat.le_of_ble_eq_true rfl) ⟨Nat.zero_le _, Nat.zero_le _⟩ rfl dX0_endRoot_2 (fun H locs hP hS => ?_)
  refine lv_if_eq (tgt := 29) hx hb dX0_endRoot_5 (by decide) (fun c2 => ?_) (fun c2 => ?_)
  · have hf := if_t c2 hf
    cases hf
    exact q_vret C hP hS rfl dX0_endRoot_29
  · have hf := if_f c2 hf
    refine lv_aload_n hx hb dX0_endRoot_8 rfl (lv_at hl 0 rfl) ?_
    refine lv_sipush (v := 1000) hx hb dX0_endRoot_9 (by decide) ?_
    refine lv_iload_n hx hb dX0_endRoot_12 rfl (lv_at hl 1 rfl) ?_
    refine lv_iadd hx hb dX0_endRoot_13 ?_
    refine lv_iload_n hx hb dX0_endRoot_14 rfl (lv_at hl 2 rfl) ?_
    obtain ⟨x3, hx3, hf⟩ := bd_some hf
    refine q_Vv C (rc := (RX0, TX0, 15)) (q0 := 0) (ci := 0) (ws' := wN G qn x3) (wr := []) (c_X0_move hx3) gX0_endRoot_X0_move rfl ⟨rfl, rfl⟩ hdX0_move ⟨(Nat.le_of_ble_eq_true rfl), (Nat.le_of_ble_eq_true rfl)⟩ rfl hP (dd_N hD) hS rfl rfl (List.Perm.refl _) (List.Perm.refl _) hl.1 (Nat.le_of_ble_eq_true rfl) ⟨Nat.zero_le _, Nat.zero_le _⟩ rfl dX0_endRoot_15 (fun H locs hP hS => ?_)
    refine lv_aload_n hx hb dX0_endRoot_18 rfl (lv_at hl 0 rfl) ?_
    refine q_get C hP (q0 := 0) rfl rfl hiX0_endRoot_X0 1 (by decide) wdX0_endRoot_1 rfl dX0_endRoot_19 ?_
    refine lv_sipush (v := 1000) hx hb dX0_endRoot_22 (by decide) ?_
    refine lv_iload_n hx hb dX0_endRoot_25 rfl (lv_at hl 1 rfl) ?_
    refine lv_iadd hx hb dX0_endRoot_26 ?_
    refine lv_iconst (v := (-1)) hx hb dX0_endRoot_27 (by decide) ?_
    obtain ⟨hin, hf⟩ := gd_some hf
    obtain ⟨s4, es4, hf⟩ := nm_ex hf
    refine q_iast C hP (dd_N hD) hS (q0 := 2) rfl rfl rfl hin dX0_endRoot_28 (fun H locs hP hS => ?_)
    have hP : va_P G.1 vwCl (wN G qn s4) H := by rw [← es4]; exact hP
    cases hf
    exact q_vret C hP hS rfl dX0_endRoot_29

-- X0_joinRoots
theorem hiX0_joinRoots_X0 : ∀ w ∈ u_ws RX0 TX0 15, w ∈ wsX0_joinRoots := mem_run (i := 40) (by decide +kernel)
theorem wdX0_joinRoots_1 : (Cond.fieldLink RX0 37 "CombinatorRing$Net" "links" "[I") ∈ wsX0_joinRoots := List.mem_of_getElem? (i := 1) rfl
def n_joinRoots (sn : NSt) (a1 : Int32) (a2 : Int32) : Option (NSt) := bd (n_hasRoot sn a1) fun x1 => if x1 = 0 then some sn else bd (n_hasRoot sn a2) fun x3 => if x3 = 0 then some sn else bd (n_splice sn (1000 + a1) (1000 + a2)) fun x5 => gd (1000 + a1) (nl x5) (nm (nsA x5 1 (upd (na x5 1) (1000 + a1).toNatClampNeg (-1))) fun s6 => gd (1000 + a2) (nl s6) (nm (nsA s6 1 (upd (na s6 1) (1000 + a2).toNatClampNeg (-1))) fun s7 => some s7))
abbrev rmX0_joinRoots : Room := { frames := 3, cells := 0, slots := 0, locals := 68 }
theorem hdX0_joinRoots : yX0_joinRoots.cls = RX0 ∧ yX0_joinRoots.cls ≠ "java/lang/invoke/MethodHandle" ∧ yX0_joinRoots.cls ≠ "java/lang/invoke/VarHandle" ∧ (parseMethodDescriptor yX0_joinRoots.desc).map (fun d => d.parameters.length) = some 2 := by decide +kernel
set_option maxHeartbeats 4000000 in
set_option maxRecDepth 100000 in
theorem c_X0_joinRoots {l : Launch} {G : Gx} {qn : Nat → Nat} {sn : NSt} {a1 : Int32} {a2 : Int32} {x : NSt} (hf : n_joinRoots sn a1 a2 = some x) : QM l G yX0_joinRoots wsX0_joinRoots rmX0_joinRoots [.ref (qn 15), .int a1, .int a2] (wN G qn sn) (wN G qn x) none := by
  refine QM.of (cc := cX0_joinRoots) (maxL := 3) (ret := none) (by decide) rfl (Nat.le_of_ble_eq_true rfl) ?_
  intro p e s m below meth c A ls C hD hP hS hl
  have hx := C.1
  have hb := C.2.1
  have hl : lv_has ls 3 [(0, .ref (qn 15)), (1, .int a1), (2, .int a2)] := hl
  unfold n_joinRoots at hf
  refine lv_aload_n hx hb dX0_joinRoots_0 rfl (lv_at hl 0 rfl) ?_
  refine lv_iload_n hx hb dX0_joinRoots_1 rfl (lv_at hl 1 rfl) ?_
  obtain ⟨x1, hx1, hf⟩ := bd_some hf
  refine q_Vi C (rc := (RX0, TX0, 15)) (q0 := 0) (ci := 0) (ws' := wN G qn sn) (wr := []) (c_X0_hasRoot hx1) gX0_joinRoots_X0_hasRoot rfl ⟨rfl, rfl⟩ hdX0_hasRoot ⟨(Nat.le_of_ble_eq_true rfl), (Nat.le_of_ble_eq_true rfl)⟩ rfl hP (dd_N hD) hS rfl rfl (List.Perm.refl _) (List.Perm.refl _) hl.1 (Nat.le_of_ble_eq_true rfl) ⟨Nat.zero_le _, Nat.zero_le _⟩ rfl dX0_joinRoots_2 (fun H locs hP hS => ?_)
  refine lv_if_eq (tgt := 52) hx hb dX0_joinRoots_5 (by decide) (fun c2 => ?_) (fun c2 => ?_)
  · have hf := if_t c2 hf
    cases hf
    exact q_vret C hP hS rfl dX0_joinRoots_52
  · have hf := if_f c2 hf
    refine lv_aload_n hx hb dX0_joinRoots_8 rfl (lv_at hl 0 rfl) ?_
    refine lv_iload_n hx hb dX0_joinRoots_9 rfl (lv_at hl 2 rfl) ?_
    obtain ⟨x3, hx3, hf⟩ := bd_some hf
    refine q_Vi C (rc := (RX0, TX0, 15)) (q0 := 0) (ci := 0) (ws' := wN G qn sn) (wr := []) (c_X0_hasRoot hx3) gX0_joinRoots_X0_hasRoot rfl ⟨rfl, rfl⟩ hdX0_hasRoot ⟨(Nat.le_of_ble_eq_true rfl), (Nat.le_of_ble_eq_true rfl)⟩ rfl hP (dd_N hD) hS rfl rfl (List.Perm.refl _) (List.Perm.refl _) hl.1 (Nat.le_of_ble_eq_true rfl) ⟨Nat.zero_le _, Nat.zero_le _⟩ rfl dX0_joinRoots_10 (fun H locs hP hS => ?_)
    refine lv_if_eq (tgt := 52) hx hb dX0_joinRoots_13 (by decide) (fun c4 => ?_) (fun c4 => ?_)
    · have hf := if_t c4 hf
      cases hf
      exact q_vret C hP hS rfl dX0_joinRoots_52
    · have hf := if_f c4 hf
      refine lv_aload_n hx hb dX0_joinRoots_16 rfl (lv_at hl 0 rfl) ?_
      refine lv_sipush (v := 1000) hx hb dX0_joinRoots_17 (by decide) ?_
      refine lv_iload_n hx hb dX0_joinRoots_20 rfl (lv_at hl 1 rfl) ?_
      refine lv_iadd hx hb dX0_joinRoots_21 ?_
      refine lv_sipush (v := 1000) hx hb dX0_joinRoots_22 (by decide) ?_
      refine lv_iload_n hx hb dX0_joinRoots_25 rfl (lv_at hl 2 rfl) ?_
      refine lv_iadd hx hb dX0_joinRoots_26 ?_
      obtain ⟨x5, hx5, hf⟩ := bd_some hf
      refine q_Vv C (rc := (RX0, TX0, 15)) (q0 := 0) (ci := 0) (ws' := wN G qn x5) (wr := []) (c_X0_splice hx5) gX0_joinRoots_X0_splice rfl ⟨rfl, rfl⟩ hdX0_splice ⟨(Nat.le_of_ble_eq_true rfl), (Nat.le_of_ble_eq_true rfl)⟩ rfl hP (dd_N hD) hS rfl rfl (List.Perm.refl _) (List.Perm.refl _) hl.1 (Nat.le_of_ble_eq_true rfl) ⟨Nat.zero_le _, Nat.zero_le _⟩ rfl dX0_joinRoots_27 (fun H locs hP hS => ?_)
      refine lv_aload_n hx hb dX0_joinRoots_30 rfl (lv_at hl 0 rfl) ?_
      refine q_get C hP (q0 := 0) rfl rfl hiX0_joinRoots_X0 1 (by decide) wdX0_joinRoots_1 rfl dX0_joinRoots_31 ?_
      refine lv_sipush (v := 1000) hx hb dX0_joinRoots_34 (by decide) ?_
      refine lv_iload_n hx hb dX0_joinRoots_37 rfl (lv_at hl 1 rfl) ?_
      refine lv_iadd hx hb dX0_joinRoots_38 ?_
      refine lv_iconst (v := (-1)) hx hb dX0_joinRoots_39 (by decide) ?_
      obtain ⟨hin, hf⟩ := gd_some hf
      obtain ⟨s6, es6, hf⟩ := nm_ex hf
      refine q_iast C hP (dd_N hD) hS (q0 := 2) rfl rfl rfl hin dX0_joinRoots_40 (fun H locs hP hS => ?_)
      have hP : va_P G.1 vwCl (wN G qn s6) H := by rw [← es6]; exact hP
      refine lv_aload_n hx hb dX0_joinRoots_41 rfl (lv_at hl 0 rfl) ?_
      refine q_get C hP (q0 := 0) rfl rfl hiX0_joinRoots_X0 1 (by decide) wdX0_joinRoots_1 rfl dX0_joinRoots_42 ?_
      refine lv_sipush (v := 1000) hx hb dX0_joinRoots_45 (by decide) ?_
      refine lv_iload_n hx hb dX0_joinRoots_48 rfl (lv_at hl 2 rfl) ?_
      refine lv_iadd hx hb dX0_joinRoots_49 ?_
      refine lv_iconst (v := (-1)) hx hb dX0_joinRoots_50 (by decide) ?_
      obtain ⟨hin, hf⟩ := gd_some hf
      obtain ⟨s7, es7, hf⟩ := nm_ex hf
      refine q_iast C hP (dd_N hD) hS (q0 := 2) rfl rfl rfl hin dX0_joinRoots_51 (fun H locs hP hS => ?_)
      have hP : va_P G.1 vwCl (wN G qn s7) H := by rw [← es7]; exact hP
      cases hf
      exact q_vret C hP hS rfl dX0_joinRoots_52

-- X0_numberSize
def n_numberSize  (a1 : Int32) : Option (Int32) := some ((2 * a1) + 1)
abbrev rmX0_numberSize : Room := { frames := 0, cells := 0, slots := 0, locals := 0 }
theorem hdX0_numberSize : yX0_numberSize.cls ≠ "java/lang/invoke/MethodHandle" ∧ yX0_numberSize.cls ≠ "java/lang/invoke/VarHandle" ∧ (parseMethodDescriptor yX0_numberSize.desc).map (fun d => d.parameters.length) = some 1 := by decide +kernel
set_option maxHeartbeats 4000000 in
set_option maxRecDepth 100000 in
theorem c_X0_numberSize {l : Launch} {G : Gx} {w : va_W}  {a1 : Int32} {x : Int32} (hf : n_numberSize a1 = some x) : QM l G yX0_numberSize wsX0_numberSize rmX0_numberSize [.int a1] (w) (w) (some (.int x)) := by
  refine QM.of (cc := cX0_numberSize) (maxL := 1) (ret := (some .int)) (by decide) rfl (Nat.le_of_ble_eq_true rfl) ?_
  intro p e s m below meth c A ls C hD hP hS hl
  have hx := C.1
  have hb := C.2.1
  have hl : lv_has ls 1 [(0, .int a1)] := hl
  unfold n_numberSize at hf
  refine lv_iconst (v := 2) hx hb dX0_numberSize_0 (by decide) ?_
  refine lv_iload_n hx hb dX0_numberSize_1 rfl (lv_at hl 0 rfl) ?_
  refine lv_imul hx hb dX0_numberSize_2 ?_
  refine lv_iconst (v := 1) hx hb dX0_numberSize_3 (by decide) ?_
  refine lv_iadd hx hb dX0_numberSize_4 ?_
  cases hf
  exact q_iret C hP hS rfl dX0_numberSize_5

-- X0_makeNumber
def n_makeNumber_7 : Nat → NSt → Int32 → Int32 → Int32 → Int32 → Option (NSt × Int32 × Int32)
  | 0, _, _, _, _, _ => none
  | n + 1, sn, v1, v2, v3, v4 => if v1 ≤ v4 then some (sn, v2, v3) else bd (n_make sn 1) fun x6 => bd (n_tie x6.2 v3 (3 * x6.1)) fun x7 => bd (n_make x7 0) fun x8 => bd (n_tie x8.2 ((3 * x6.1) + 1) (3 * x8.1)) fun x9 => if v4 = 0 then n_makeNumber_7 n x9 v1 (3 * x6.1) ((3 * x6.1) + 2) (v4 + 1) else n_makeNumber_7 n x9 v1 v2 ((3 * x6.1) + 2) (v4 + 1)
def n_makeNumber (sn : NSt) (a1 : Int32) : Option (Int32 × NSt) := bd (n_makeNumber_7 20000 sn a1 (-1) (-1) 0) fun x1 => bd (n_make x1.1 0) fun x2 => bd (n_tie x2.2 x1.2.2 (3 * x2.1)) fun x3 => if a1 ≤ 0 then some ((3 * x2.1), x3) else some (x1.2.1, x3)
abbrev rmX0_makeNumber : Room := { frames := 2, cells := 0, slots := 0, locals := 43 }
theorem hdX0_makeNumber : yX0_makeNumber.cls = RX0 ∧ yX0_makeNumber.cls ≠ "java/lang/invoke/MethodHandle" ∧ yX0_makeNumber.cls ≠ "java/lang/invoke/VarHandle" ∧ (parseMethodDescriptor yX0_makeNumber.desc).map (fun d => d.parameters.length) = some 1 := by decide +kernel
set_option maxHeartbeats 4000000 in
set_option maxRecDepth 100000 in
theorem t_X0_makeNumber_7 {p : Program} {l : Launch} {e : Env} {s : State} {m : MethodId} {args : Array Value} {below : List Frame} {meth : Method} {c : Code} {Q : State → Prop} {A : Nat → Prop} {G : Gx} {qn : Nat → Nat} {sn0 : NSt} (C : Cx p s m args meth c G cX0_makeNumber wsX0_makeNumber RX0 (some .int) 6 A) (hD : va_D A (wN G qn sn0)) :
    ∀ {n : Nat} {sn : NSt} {v1 : Int32} {v2 : Int32} {v3 : Int32} {v4 : Int32} {x : NSt × Int32 × Int32}, n_makeNumber_7 n sn v1 v2 v3 v4 = some x → ∀ {H : Heap} {locs : List Loc} {ls : Array Slot}, va_P G.1 vwCl (wN G qn sn) H → va_S A s.heap H locs → lv_has ls 6 [(0, .ref (qn 15)), (1, .int v1), (2, .int v2), (3, .int v3), (4, .int v4)] → (∀ {H : Heap} {locs : List Loc} {ls : Array Slot}, va_P G.1 vwCl (wN G qn x.1) H → va_S A s.heap H locs → lv_has ls 6 [(0, .ref (qn 15)), (1, .int v1), (2, .int x.2.1), (3, .int x.2.2)] → W p l e rmX0_makeNumber s m args below meth c H locs 0 0 Q (F0 m 67 ls [])) → W p l e rmX0_makeNumber s m args below meth c H locs 0 0 Q (F0 m 7 ls []) := by
  have hx := C.1
  have hb := C.2.1
  intro n
  induction n with
  | zero => intro sn v1 v2 v3 v4 x hf; cases hf
  | succ n ih =>
    intro sn v1 v2 v3 v4 x hf H locs ls hP hS hl kk
    rw [n_makeNumber_7] at hf
    refine lv_iload hx hb dX0_makeNumber_7 (lv_at hl 4 rfl) ?_
    refine lv_iload_n hx hb dX0_makeNumber_9 rfl (lv_at hl 1 rfl) ?_
    refine lv_icmp_ge (tgt := 67) hx hb dX0_makeNumber_10 (by decide) (fun c5 => ?_) (fun c5 => ?_)
    · have hf := if_t c5 hf
      cases hf
      exact kk hP hS (lv_sub hl [0, 1, 2, 3] rfl)
    · have hf := if_f c5 hf
      refine lv_iconst (v := 3) hx hb dX0_makeNumber_13 (by decide) ?_
      refine lv_aload_n hx hb dX0_makeNumber_14 rfl (lv_at hl 0 rfl) ?_
      refine lv_iconst (v := 1) hx hb dX0_makeNumber_15 (by decide) ?_
      obtain ⟨x6, hx6, hf⟩ := bd_some hf
      refine q_Vi C (rc := (RX0, TX0, 15)) (q0 := 0) (ci := 0) (ws' := wN G qn x6.2) (wr := []) (c_X0_make hx6) gX0_makeNumber_X0_make rfl ⟨rfl, rfl⟩ hdX0_make ⟨(Nat.le_of_ble_eq_true rfl), (Nat.le_of_ble_eq_true rfl)⟩ rfl hP (dd_N hD) hS rfl rfl (List.Perm.refl _) (List.Perm.refl _) hl.1 (Nat.le_of_ble_eq_true rfl) ⟨Nat.zero_le _, Nat.zero_le _⟩ rfl dX0_makeNumber_16 (fun H locs hP hS => ?_)
      refine lv_imul hx hb dX0_makeNumber_19 ?_
      refine lv_istore (lv' := [(5, .int (3 * x6.1)), (0, .ref (qn 15)), (1, .int v1), (2, .int v2), (3, .int v3), (4, .int v4)]) hx hb dX0_makeNumber_20 hl (by decide) rfl (fun ls hl => ?_)
      refine lv_aload_n hx hb dX0_makeNumber_22 rfl (lv_at hl 1 rfl) ?_
      refine lv_iload_n hx hb dX0_makeNumber_23 rfl (lv_at hl 4 rfl) ?_
      refine lv_iload hx hb dX0_makeNumber_24 (lv_at hl 0 rfl) ?_
      obtain ⟨x7, hx7, hf⟩ := bd_some hf
      refine q_Vv C (rc := (RX0, TX0, 15)) (q0 := 0) (ci := 0) (ws' := wN G qn x7) (wr := []) (c_X0_tie hx7) gX0_makeNumber_X0_tie rfl ⟨rfl, rfl⟩ hdX0_tie ⟨(Nat.le_of_ble_eq_true rfl), (Nat.le_of_ble_eq_true rfl)⟩ rfl hP (dd_N hD) hS rfl rfl (List.Perm.refl _) (List.Perm.refl _) hl.1 (Nat.le_of_ble_eq_true rfl) ⟨Nat.zero_le _, Nat.zero_le _⟩ rfl dX0_makeNumber_26 (fun H locs hP hS => ?_)
      refine lv_aload_n hx hb dX0_makeNumber_29 rfl (lv_at hl 1 rfl) ?_
      refine lv_iload hx hb dX0_makeNumber_30 (lv_at hl 0 rfl) ?_
      refine lv_iconst (v := 1) hx hb dX0_makeNumber_32 (by decide) ?_
      refine lv_iadd hx hb dX0_makeNumber_33 ?_
      refine lv_iconst (v := 3) hx hb dX0_makeNumber_34 (by decide) ?_
      refine lv_aload_n hx hb dX0_makeNumber_35 rfl (lv_at hl 1 rfl) ?_
      refine lv_iconst (v := 0) hx hb dX0_makeNumber_36 (by decide) ?_
      obtain ⟨x8, hx8, hf⟩ := bd_some hf
      refine q_Vi C (rc := (RX0, TX0, 15)) (q0 := 0) (ci := 0) (ws' := wN G qn x8.2) (wr := []) (c_X0_make hx8) gX0_makeNumber_X0_make rfl ⟨rfl, rfl⟩ hdX0_make ⟨(Nat.le_of_ble_eq_true rfl), (Nat.le_of_ble_eq_true rfl)⟩ rfl hP (dd_N hD) hS rfl rfl (List.Perm.refl _) (List.Perm.refl _) hl.1 (Nat.le_of_ble_eq_true rfl) ⟨Nat.zero_le _, Nat.zero_le _⟩ rfl dX0_makeNumber_37 (fun H locs hP hS => ?_)
      refine lv_imul hx hb dX0_makeNumber_40 ?_
      obtain ⟨x9, hx9, hf⟩ := bd_some hf
      refine q_Vv C (rc := (RX0, TX0, 15)) (q0 := 0) (ci := 0) (ws' := wN G qn x9) (wr := []) (c_X0_tie hx9) gX0_makeNumber_X0_tie rfl ⟨rfl, rfl⟩ hdX0_tie ⟨(Nat.le_of_ble_eq_true rfl), (Nat.le_of_ble_eq_true rfl)⟩ rfl hP (dd_N hD) hS rfl rfl (List.Perm.refl _) (List.Perm.refl _) hl.1 (Nat.le_of_ble_eq_true rfl) ⟨Nat.zero_le _, Nat.zero_le _⟩ rfl dX0_makeNumber_41 (fun H locs hP hS => ?_)
      refine lv_iload hx hb dX0_makeNumber_44 (lv_at hl 0 rfl) ?_
      refine lv_iconst (v := 2) hx hb dX0_makeNumber_46 (by decide) ?_
      refine lv_iadd hx hb dX0_makeNumber_47 ?_
      refine lv_istore_n (lv' := [(3, .int ((3 * x6.1) + 2)), (5, .int (3 * x6.1)), (0, .ref (qn 15)), (1, .int v1), (2, .int v2), (4, .int v4)]) hx hb dX0_makeNumber_48 rfl hl (by decide) rfl (fun ls hl => ?_)
      refine lv_iload hx hb dX0_makeNumber_49 (lv_at hl 5 rfl) ?_
      refine lv_if_ne (tgt := 59) hx hb dX0_makeNumber_51 (by decide) (fun c10 => ?_) (fun c10 => ?_)
      · have hf := if_f c10 hf
        refine lv_iload_n hx hb dX0_makeNumber_59 rfl (lv_at hl 4 rfl) ?_
        refine lv_istore_n (lv' := [(2, .int v2), (3, .int ((3 * x6.1) + 2)), (5, .int (3 * x6.1)), (0, .ref (qn 15)), (1, .int v1), (4, .int v4)]) hx hb dX0_makeNumber_60 rfl hl (by decide) rfl (fun ls hl => ?_)
        refine lv_iinc (v := (v4 + 1)) (lv' := [(4, .int (v4 + 1)), (2, .int v2), (3, .int ((3 * x6.1) + 2)), (5, .int (3 * x6.1)), (0, .ref (qn 15)), (1, .int v1)]) hx hb dX0_makeNumber_61 hl (k := 5) rfl rfl (by decide) rfl (fun ls hl => ?_)
        refine lv_goto (tgt := 7) hx hb dX0_makeNumber_64 (by decide) ?_
        exact ih hf hP hS (lv_sub hl [4, 5, 1, 2, 0] rfl) kk
      · have hf := if_t c10 hf
        refine lv_iload hx hb dX0_makeNumber_54 (lv_at hl 1 rfl) ?_
        refine lv_goto (tgt := 60) hx hb dX0_makeNumber_56 (by decide) ?_
        refine lv_istore_n (lv' := [(2, .int (3 * x6.1)), (3, .int ((3 * x6.1) + 2)), (5, .int (3 * x6.1)), (0, .ref (qn 15)), (1, .int v1), (4, .int v4)]) hx hb dX0_makeNumber_60 rfl hl (by decide) rfl (fun ls hl => ?_)
        refine lv_iinc (v := (v4 + 1)) (lv' := [(4, .int (v4 + 1)), (2, .int (3 * x6.1)), (3, .int ((3 * x6.1) + 2)), (5, .int (3 * x6.1)), (0, .ref (qn 15)), (1, .int v1)]) hx hb dX0_makeNumber_61 hl (k := 5) rfl rfl (by decide) rfl (fun ls hl => ?_)
        refine lv_goto (tgt := 7) hx hb dX0_makeNumber_64 (by decide) ?_
        exact ih hf hP hS (lv_sub hl [4, 5, 1, 2, 0] rfl) kk
set_option maxHeartbeats 4000000 in
set_option maxRecDepth 100000 in
theorem c_X0_makeNumber {l : Launch} {G : Gx} {qn : Nat → Nat} {sn : NSt} {a1 : Int32} {x : Int32 × NSt} (hf : n_makeNumber sn a1 = some x) : QM l G yX0_makeNumber wsX0_makeNumber rmX0_makeNumber [.ref (qn 15), .int a1] (wN G qn sn) (wN G qn x.2) (some (.int x.1)) := by
  refine QM.of (cc := cX0_makeNumber) (maxL := 6) (ret := (some .int)) (by decide) rfl (Nat.le_of_ble_eq_true rfl) ?_
  intro p e s m below meth c A ls C hD hP hS hl
  have hx := C.1
  have hb := C.2.1
  have hl : lv_has ls 6 [(0, .ref (qn 15)), (1, .int a1)] := hl
  unfold n_makeNumber at hf
  refine lv_iconst (v := (-1)) hx hb dX0_makeNumber_0 (by decide) ?_
  refine lv_istore_n (lv' := [(2, .int (-1)), (0, .ref (qn 15)), (1, .int a1)]) hx hb dX0_makeNumber_1 rfl hl (by decide) rfl (fun ls hl => ?_)
  refine lv_iconst (v := (-1)) hx hb dX0_makeNumber_2 (by decide) ?_
  refine lv_istore_n (lv' := [(3, .int (-1)), (2, .int (-1)), (0, .ref (qn 15)), (1, .int a1)]) hx hb dX0_makeNumber_3 rfl hl (by decide) rfl (fun ls hl => ?_)
  refine lv_iconst (v := 0) hx hb dX0_makeNumber_4 (by decide) ?_
  refine lv_istore (lv' := [(4, .int 0), (3, .int (-1)), (2, .int (-1)), (0, .ref (qn 15)), (1, .int a1)]) hx hb dX0_makeNumber_5 hl (by decide) rfl (fun ls hl => ?_)
  obtain ⟨x1, hx1, hf⟩ := bd_some hf
  refine t_X0_makeNumber_7 C hD hx1 hP hS (lv_sub hl [3, 4, 2, 1, 0] rfl) (fun {H locs ls} hP hS hl => ?_)
  refine lv_iconst (v := 3) hx hb dX0_makeNumber_67 (by decide) ?_
  refine lv_aload_n hx hb dX0_makeNumber_68 rfl (lv_at hl 0 rfl) ?_
  refine lv_iconst (v := 0) hx hb dX0_makeNumber_69 (by decide) ?_
  obtain ⟨x2, hx2, hf⟩ := bd_some hf
  refine q_Vi C (rc := (RX0, TX0, 15)) (q0 := 0) (ci := 0) (ws' := wN G qn x2.2) (wr := []) (c_X0_make hx2) gX0_makeNumber_X0_make rfl ⟨rfl, rfl⟩ hdX0_make ⟨(Nat.le_of_ble_eq_true rfl), (Nat.le_of_ble_eq_true rfl)⟩ rfl hP (dd_N hD) hS rfl rfl (List.Perm.refl _) (List.Perm.refl _) hl.1 (Nat.le_of_ble_eq_true rfl) ⟨Nat.zero_le _, Nat.zero_le _⟩ rfl dX0_makeNumber_70 (fun H locs hP hS => ?_)
  refine lv_imul hx hb dX0_makeNumber_73 ?_
  refine lv_istore (lv' := [(4, .int (3 * x2.1)), (0, .ref (qn 15)), (1, .int a1), (2, .int x1.2.1), (3, .int x1.2.2)]) hx hb dX0_makeNumber_74 hl (by decide) rfl (fun ls hl => ?_)
  refine lv_aload_n hx hb dX0_makeNumber_76 rfl (lv_at hl 1 rfl) ?_
  refine lv_iload_n hx hb dX0_makeNumber_77 rfl (lv_at hl 4 rfl) ?_
  refine lv_iload hx hb dX0_makeNumber_78 (lv_at hl 0 rfl) ?_
  obtain ⟨x3, hx3, hf⟩ := bd_some hf
  refine q_Vv C (rc := (RX0, TX0, 15)) (q0 := 0) (ci := 0) (ws' := wN G qn x3) (wr := []) (c_X0_tie hx3) gX0_makeNumber_X0_tie rfl ⟨rfl, rfl⟩ hdX0_tie ⟨(Nat.le_of_ble_eq_true rfl), (Nat.le_of_ble_eq_true rfl)⟩ rfl hP (dd_N hD) hS rfl rfl (List.Perm.refl _) (List.Perm.refl _) hl.1 (Nat.le_of_ble_eq_true rfl) ⟨Nat.zero_le _, Nat.zero_le _⟩ rfl dX0_makeNumber_80 (fun H locs hP hS => ?_)
  refine lv_iload_n hx hb dX0_makeNumber_83 rfl (lv_at hl 2 rfl) ?_
  refine lv_if_le (tgt := 91) hx hb dX0_makeNumber_84 (by decide) (fun c4 => ?_) (fun c4 => ?_)
  · have hf := if_t c4 hf
    refine lv_iload hx hb dX0_makeNumber_91 (lv_at hl 0 rfl) ?_
    cases hf
    exact q_iret C hP hS rfl dX0_makeNumber_93
  · have hf := if_f c4 hf
    refine lv_iload_n hx hb dX0_makeNumber_87 rfl (lv_at hl 3 rfl) ?_
    refine lv_goto (tgt := 93) hx hb dX0_makeNumber_88 (by decide) ?_
    cases hf
    exact q_iret C hP hS rfl dX0_makeNumber_93

-- X0_makeList
def n_makeList_8 : Nat → NSt → Nat → (Nat → Int32) → Int32 → Int32 → Int32 → Int32 → Option (NSt × Int32 × Int32)
  | 0, _, _, _, _, _, _, _ => none
  | n + 1, sn, ka, sa, v2, v3, v4, v5 => if v2 ≤ v5 then some (sn, v3, v4) else if (nI ka) ≤ v5 then some (sn, v3, v4) else bd (n_make sn 1) fun x4 => bd (n_tie x4.2 v4 (3 * x4.1)) fun x5 => gd v5 ka (bd (n_makeNumber x5 (sa v5.toNatClampNeg)) fun x6 => bd (n_tie x6.2 ((3 * x4.1) + 1) x6.1) fun x7 => if v5 = 0 then n_makeList_8 n x7 ka sa v2 (3 * x4.1) ((3 * x4.1) + 2) (v5 + 1) else n_makeList_8 n x7 ka sa v2 v3 ((3 * x4.1) + 2) (v5 + 1))
def n_makeList_78 (sn : NSt) (ka : Nat) (sa : (Nat → Int32)) (v2 : Int32) (v3 : Int32) (v4 : Int32) : Option (Int32 × NSt) := bd (n_make sn 0) fun x9 => bd (n_tie x9.2 v4 (3 * x9.1)) fun x10 => if v2 ≤ 0 then some ((3 * x9.1), x10) else some (v3, x10)
def n_makeList (sn : NSt) (ka : Nat) (sa : (Nat → Int32)) (a2 : Int32) : Option (Int32 × NSt) := bd (n_makeList_8 20000 sn ka sa a2 (-1) (-1) 0) fun x1 => n_makeList_78 x1.1 ka sa a2 x1.2.1 x1.2.2
abbrev rmX0_makeList : Room := { frames := 3, cells := 0, slots := 0, locals := 68 }
theorem hdX0_makeList : yX0_makeList.cls = RX0 ∧ yX0_makeList.cls ≠ "java/lang/invoke/MethodHandle" ∧ yX0_makeList.cls ≠ "java/lang/invoke/VarHandle" ∧ (parseMethodDescriptor yX0_makeList.desc).map (fun d => d.parameters.length) = some 2 := by decide +kernel
set_option maxHeartbeats 4000000 in
set_option maxRecDepth 100000 in
theorem t_X0_makeList_8 {p : Program} {l : Launch} {e : Env} {s : State} {m : MethodId} {args : Array Value} {below : List Frame} {meth : Method} {c : Code} {Q : State → Prop} {A : Nat → Prop} {G : Gx} {qn : Nat → Nat} {da ka : Nat} {sn0 : NSt} {sa0 : (Nat → Int32)} (C : Cx p s m args meth c G cX0_makeList wsX0_makeList RX0 (some .int) 7 A) (hD : va_D A (wN G qn sn0 ++ wA G da ka sa0)) :
    ∀ {n : Nat} {sn : NSt} {sa : (Nat → Int32)} {v2 : Int32} {v3 : Int32} {v4 : Int32} {v5 : Int32} {x : NSt × Int32 × Int32}, n_makeList_8 n sn ka sa v2 v3 v4 v5 = some x → ∀ {H : Heap} {locs : List Loc} {ls : Array Slot}, va_P G.1 vwCl (wN G qn sn ++ wA G da ka sa) H → va_S A s.heap H locs → lv_has ls 7 [(0, .ref (qn 15)), (1, .ref da), (2, .int v2), (3, .int v3), (4, .int v4), (5, .int v5)] → (∀ {H : Heap} {locs : List Loc} {ls : Array Slot}, va_P G.1 vwCl (wN G qn x.1 ++ wA G da ka sa) H → va_S A s.heap H locs → lv_has ls 7 [(0, .ref (qn 15)), (2, .int v2), (3, .int x.2.1), (4, .int x.2.2)] → W p l e rmX0_makeList s m args below meth c H locs 0 0 Q (F0 m 78 ls [])) → W p l e rmX0_makeList s m args below meth c H locs 0 0 Q (F0 m 8 ls []) := by
  have hx := C.1
  have hb := C.2.1
  intro n
  induction n with
  | zero => intro sn sa v2 v3 v4 v5 x hf; cases hf
  | succ n ih =>
    intro sn sa v2 v3 v4 v5 x hf H locs ls hP hS hl kk
    rw [n_makeList_8] at hf
    refine lv_iload hx hb dX0_makeList_8 (lv_at hl 5 rfl) ?_
    refine lv_iload_n hx hb dX0_makeList_10 rfl (lv_at hl 2 rfl) ?_
    refine lv_icmp_ge (tgt := 78) hx hb dX0_makeList_11 (by decide) (fun c2 => ?_) (fun c2 => ?_)
    · have hf := if_t c2 hf
      cases hf
      exact kk hP hS (lv_sub hl [0, 2, 3, 4] rfl)
    · have hf := if_f c2 hf
      refine lv_iload hx hb dX0_makeList_14 (lv_at hl 5 rfl) ?_
      refine lv_aload_n hx hb dX0_makeList_16 rfl (lv_at hl 1 rfl) ?_
      refine q_alen C hP (q0 := 11) rfl (t0 := 0) rfl dX0_makeList_17 ?_
      refine lv_icmp_ge (tgt := 78) hx hb dX0_makeList_18 (by decide) (fun c3 => ?_) (fun c3 => ?_)
      · have hf := if_t c3 hf
        cases hf
        exact kk hP hS (lv_sub hl [0, 2, 3, 4] rfl)
      · have hf := if_f c3 hf
        refine lv_iconst (v := 3) hx hb dX0_makeList_21 (by decide) ?_
        refine lv_aload_n hx hb dX0_makeList_22 rfl (lv_at hl 0 rfl) ?_
        refine lv_iconst (v := 1) hx hb dX0_makeList_23 (by decide) ?_
        obtain ⟨x4, hx4, hf⟩ := bd_some hf
        refine q_Vi C (rc := (RX0, TX0, 15)) (q0 := 0) (ci := 0) (ws' := wN G qn x4.2 ++ wA G da ka sa) (c_X0_make hx4) gX0_makeList_X0_make rfl ⟨rfl, rfl⟩ hdX0_make ⟨(Nat.le_of_ble_eq_true rfl), (Nat.le_of_ble_eq_true rfl)⟩ rfl hP (dd_NA hD) hS rfl rfl List.perm_append_comm List.perm_append_comm hl.1 (Nat.le_of_ble_eq_true rfl) ⟨Nat.zero_le _, Nat.zero_le _⟩ rfl dX0_makeList_24 (fun H locs hP hS => ?_)
        refine lv_imul hx hb dX0_makeList_27 ?_
        refine lv_istore (lv' := [(6, .int (3 * x4.1)), (0, .ref (qn 15)), (1, .ref da), (2, .int v2), (3, .int v3), (4, .int v4), (5, .int v5)]) hx hb dX0_makeList_28 hl (by decide) rfl (fun ls hl => ?_)
        refine lv_aload_n hx hb dX0_makeList_30 rfl (lv_at hl 1 rfl) ?_
        refine lv_iload hx hb dX0_makeList_31 (lv_at hl 5 rfl) ?_
        refine lv_iload hx hb dX0_makeList_33 (lv_at hl 0 rfl) ?_
        obtain ⟨x5, hx5, hf⟩ := bd_some hf
        refine q_Vv C (rc := (RX0, TX0, 15)) (q0 := 0) (ci := 0) (ws' := wN G qn x5 ++ wA G da ka sa) (c_X0_tie hx5) gX0_makeList_X0_tie rfl ⟨rfl, rfl⟩ hdX0_tie ⟨(Nat.le_of_ble_eq_true rfl), (Nat.le_of_ble_eq_true rfl)⟩ rfl hP (dd_NA hD) hS rfl rfl List.perm_append_comm List.perm_append_comm hl.1 (Nat.le_of_ble_eq_true rfl) ⟨Nat.zero_le _, Nat.zero_le _⟩ rfl dX0_makeList_35 (fun H locs hP hS => ?_)
        refine lv_aload_n hx hb dX0_makeList_38 rfl (lv_at hl 1 rfl) ?_
        refine lv_iload hx hb dX0_makeList_39 (lv_at hl 0 rfl) ?_
        refine lv_iconst (v := 1) hx hb dX0_makeList_41 (by decide) ?_
        refine lv_iadd hx hb dX0_makeList_42 ?_
        refine lv_aload_n hx hb dX0_makeList_43 rfl (lv_at hl 1 rfl) ?_
        refine lv_aload_n hx hb dX0_makeList_44 rfl (lv_at hl 2 rfl) ?_
        refine lv_iload hx hb dX0_makeList_45 (lv_at hl 6 rfl) ?_
        obtain ⟨hin, hf⟩ := gd_some hf
        refine q_iald C hP (q0 := 11) rfl rfl hin dX0_makeList_47 ?_
        obtain ⟨x6, hx6, hf⟩ := bd_some hf
        refine q_Vi C (rc := (RX0, TX0, 15)) (q0 := 0) (ci := 0) (ws' := wN G qn x6.2 ++ wA G da ka sa) (c_X0_makeNumber hx6) gX0_makeList_X0_makeNumber rfl ⟨rfl, rfl⟩ hdX0_makeNumber ⟨(Nat.le_of_ble_eq_true rfl), (Nat.le_of_ble_eq_true rfl)⟩ rfl hP (dd_NA hD) hS rfl rfl List.perm_append_comm List.perm_append_comm hl.1 (Nat.le_of_ble_eq_true rfl) ⟨Nat.zero_le _, Nat.zero_le _⟩ rfl dX0_makeList_48 (fun H locs hP hS => ?_)
        obtain ⟨x7, hx7, hf⟩ := bd_some hf
        refine q_Vv C (rc := (RX0, TX0, 15)) (q0 := 0) (ci := 0) (ws' := wN G qn x7 ++ wA G da ka sa) (c_X0_tie hx7) gX0_makeList_X0_tie rfl ⟨rfl, rfl⟩ hdX0_tie ⟨(Nat.le_of_ble_eq_true rfl), (Nat.le_of_ble_eq_true rfl)⟩ rfl hP (dd_NA hD) hS rfl rfl List.perm_append_comm List.perm_append_comm hl.1 (Nat.le_of_ble_eq_true rfl) ⟨Nat.zero_le _, Nat.zero_le _⟩ rfl dX0_makeList_51 (fun H locs hP hS => ?_)
        refine lv_iload hx hb dX0_makeList_54 (lv_at hl 0 rfl) ?_
        refine lv_iconst (v := 2) hx hb dX0_makeList_56 (by decide) ?_
        refine lv_iadd hx hb dX0_makeList_57 ?_
        refine lv_istore (lv' := [(4, .int ((3 * x4.1) + 2)), (6, .int (3 * x4.1)), (0, .ref (qn 15)), (1, .ref da), (2, .int v2), (3, .int v3), (5, .int v5)]) hx hb dX0_makeList_58 hl (by decide) rfl (fun ls hl => ?_)
        refine lv_iload hx hb dX0_makeList_60 (lv_at hl 6 rfl) ?_
        refine lv_if_ne (tgt := 70) hx hb dX0_makeList_62 (by decide) (fun c8 => ?_) (fun c8 => ?_)
        · have hf := if_f c8 hf
          refine lv_iload_n hx hb dX0_makeList_70 rfl (lv_at hl 5 rfl) ?_
          refine lv_istore_n (lv' := [(3, .int v3), (4, .int ((3 * x4.1) + 2)), (6, .int (3 * x4.1)), (0, .ref (qn 15)), (1, .ref da), (2, .int v2), (5, .int v5)]) hx hb dX0_makeList_71 rfl hl (by decide) rfl (fun ls hl => ?_)
          refine lv_iinc (v := (v5 + 1)) (lv' := [(5, .int (v5 + 1)), (3, .int v3), (4, .int ((3 * x4.1) + 2)), (6, .int (3 * x4.1)), (0, .ref (qn 15)), (1, .ref da), (2, .int v2)]) hx hb dX0_makeList_72 hl (k := 6) rfl rfl (by decide) rfl (fun ls hl => ?_)
          refine lv_goto (tgt := 8) hx hb dX0_makeList_75 (by decide) ?_
          exact ih hf hP hS (lv_sub hl [4, 5, 6, 1, 2, 0] rfl) kk
        · have hf := if_t c8 hf
          refine lv_iload hx hb dX0_makeList_65 (lv_at hl 1 rfl) ?_
          refine lv_goto (tgt := 71) hx hb dX0_makeList_67 (by decide) ?_
          refine lv_istore_n (lv' := [(3, .int (3 * x4.1)), (4, .int ((3 * x4.1) + 2)), (6, .int (3 * x4.1)), (0, .ref (qn 15)), (1, .ref da), (2, .int v2), (5, .int v5)]) hx hb dX0_makeList_71 rfl hl (by decide) rfl (fun ls hl => ?_)
          refine lv_iinc (v := (v5 + 1)) (lv' := [(5, .int (v5 + 1)), (3, .int (3 * x4.1)), (4, .int ((3 * x4.1) + 2)), (6, .int (3 * x4.1)), (0, .ref (qn 15)), (1, .ref da), (2, .int v2)]) hx hb dX0_makeList_72 hl (k := 6) rfl rfl (by decide) rfl (fun ls hl => ?_)
          refine lv_goto (tgt := 8) hx hb dX0_makeList_75 (by decide) ?_
          exact ih hf hP hS (lv_sub hl [4, 5, 6, 1, 2, 0] rfl) kk
set_option maxHeartbeats 4000000 in
set_option maxRecDepth 100000 in
theorem t_X0_makeList_78 {p : Program} {l : Launch} {e : Env} {s : State} {m : MethodId} {args : Array Value} {below : List Frame} {meth : Method} {c : Code} {A : Nat → Prop} {G : Gx} {qn : Nat → Nat} {da ka : Nat} {sn0 : NSt} {sa0 : (Nat → Int32)} (C : Cx p s m args meth c G cX0_makeList wsX0_makeList RX0 (some .int) 7 A) (hD : va_D A (wN G qn sn0 ++ wA G da ka sa0)) :
    ∀ {sn : NSt} {sa : (Nat → Int32)} {v2 : Int32} {v3 : Int32} {v4 : Int32} {x : Int32 × NSt}, n_makeList_78 sn ka sa v2 v3 v4 = some x → ∀ {H : Heap} {locs : List Loc} {ls : Array Slot}, va_P G.1 vwCl (wN G qn sn ++ wA G da ka sa) H → va_S A s.heap H locs → lv_has ls 7 [(0, .ref (qn 15)), (2, .int v2), (3, .int v3), (4, .int v4)] → W p l e rmX0_makeList s m args below meth c H locs 0 0 (MQ below (qE G A (wN G qn x.2 ++ wA G da ka sa) (some (.int x.1))) args s 0 0 A) (F0 m 78 ls []) := by
  have hx := C.1
  have hb := C.2.1
  intro sn sa v2 v3 v4 x hf H locs ls hP hS hl
  unfold n_makeList_78 at hf
  refine lv_iconst (v := 3) hx hb dX0_makeList_78 (by decide) ?_
  refine lv_aload_n hx hb dX0_makeList_79 rfl (lv_at hl 0 rfl) ?_
  refine lv_iconst (v := 0) hx hb dX0_makeList_80 (by decide) ?_
  obtain ⟨x9, hx9, hf⟩ := bd_some hf
  refine q_Vi C (rc := (RX0, TX0, 15)) (q0 := 0) (ci := 0) (ws' := wN G qn x9.2 ++ wA G da ka sa) (c_X0_make hx9) gX0_makeList_X0_make rfl ⟨rfl, rfl⟩ hdX0_make ⟨(Nat.le_of_ble_eq_true rfl), (Nat.le_of_ble_eq_true rfl)⟩ rfl hP (dd_NA hD) hS rfl rfl List.perm_append_comm List.perm_append_comm hl.1 (Nat.le_of_ble_eq_true rfl) ⟨Nat.zero_le _, Nat.zero_le _⟩ rfl dX0_makeList_81 (fun H locs hP hS => ?_)
  refine lv_imul hx hb dX0_makeList_84 ?_
  refine lv_istore (lv' := [(5, .int (3 * x9.1)), (0, .ref (qn 15)), (2, .int v2), (3, .int v3), (4, .int v4)]) hx hb dX0_makeList_85 hl (by decide) rfl (fun ls hl => ?_)
  refine lv_aload_n hx hb dX0_makeList_87 rfl (lv_at hl 1 rfl) ?_
  refine lv_iload hx hb dX0_makeList_88 (lv_at hl 4 rfl) ?_
  refine lv_iload hx hb dX0_makeList_90 (lv_at hl 0 rfl) ?_
  obtain ⟨x10, hx10, hf⟩ := bd_some hf
  refine q_Vv C (rc := (RX0, TX0, 15)) (q0 := 0) (ci := 0) (ws' := wN G qn x10 ++ wA G da ka sa) (c_X0_tie hx10) gX0_makeList_X0_tie rfl ⟨rfl, rfl⟩ hdX0_tie ⟨(Nat.le_of_ble_eq_true rfl), (Nat.le_of_ble_eq_true rfl)⟩ rfl hP (dd_NA hD) hS rfl rfl List.perm_append_comm List.perm_append_comm hl.1 (Nat.le_of_ble_eq_true rfl) ⟨Nat.zero_le _, Nat.zero_le _⟩ rfl dX0_makeList_92 (fun H locs hP hS => ?_)
  refine lv_iload_n hx hb dX0_makeList_95 rfl (lv_at hl 2 rfl) ?_
  refine lv_if_le (tgt := 103) hx hb dX0_makeList_96 (by decide) (fun c11 => ?_) (fun c11 => ?_)
  · have hf := if_t c11 hf
    refine lv_iload hx hb dX0_makeList_103 (lv_at hl 0 rfl) ?_
    cases hf
    exact q_iret C hP hS rfl dX0_makeList_105
  · have hf := if_f c11 hf
    refine lv_iload_n hx hb dX0_makeList_99 rfl (lv_at hl 3 rfl) ?_
    refine lv_goto (tgt := 105) hx hb dX0_makeList_100 (by decide) ?_
    cases hf
    exact q_iret C hP hS rfl dX0_makeList_105
set_option maxHeartbeats 4000000 in
set_option maxRecDepth 100000 in
theorem c_X0_makeList {l : Launch} {G : Gx} {qn : Nat → Nat} {da ka : Nat} {sn : NSt} {sa : (Nat → Int32)} {a2 : Int32} {x : Int32 × NSt} (hf : n_makeList sn ka sa a2 = some x) : QM l G yX0_makeList wsX0_makeList rmX0_makeList [.ref (qn 15), .ref da, .int a2] (wN G qn sn ++ wA G da ka sa) (wN G qn x.2 ++ wA G da ka sa) (some (.int x.1)) := by
  refine QM.of (cc := cX0_makeList) (maxL := 7) (ret := (some .int)) (by decide) rfl (Nat.le_of_ble_eq_true rfl) ?_
  intro p e s m below meth c A ls C hD hP hS hl
  have hx := C.1
  have hb := C.2.1
  have hl : lv_has ls 7 [(0, .ref (qn 15)), (1, .ref da), (2, .int a2)] := hl
  unfold n_makeList at hf
  refine lv_iconst (v := (-1)) hx hb dX0_makeList_0 (by decide) ?_
  refine lv_istore_n (lv' := [(3, .int (-1)), (0, .ref (qn 15)), (1, .ref da), (2, .int a2)]) hx hb dX0_makeList_1 rfl hl (by decide) rfl (fun ls hl => ?_)
  refine lv_iconst (v := (-1)) hx hb dX0_makeList_2 (by decide) ?_
  refine lv_istore (lv' := [(4, .int (-1)), (3, .int (-1)), (0, .ref (qn 15)), (1, .ref da), (2, .int a2)]) hx hb dX0_makeList_3 hl (by decide) rfl (fun ls hl => ?_)
  refine lv_iconst (v := 0) hx hb dX0_makeList_5 (by decide) ?_
  refine lv_istore (lv' := [(5, .int 0), (4, .int (-1)), (3, .int (-1)), (0, .ref (qn 15)), (1, .ref da), (2, .int a2)]) hx hb dX0_makeList_6 hl (by decide) rfl (fun ls hl => ?_)
  obtain ⟨x1, hx1, hf⟩ := bd_some hf
  refine t_X0_makeList_8 C hD hx1 hP hS (lv_sub hl [3, 4, 5, 2, 1, 0] rfl) (fun {H locs ls} hP hS hl => ?_)
  exact t_X0_makeList_78 C hD hf hP hS (lv_sub hl [0, 1, 2, 3] rfl)
