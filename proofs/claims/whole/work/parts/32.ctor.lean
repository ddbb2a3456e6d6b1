theorem hfs_X0 : ∀ j, j < 15 → defaultValue (tyX0 j) = vp_V [.null, .null, .null, .null, .null, .null, .int 0, .int 0, .int 0, .int 0, .int 0, .int 0, .int 0, .int 0, .int 0] j := fun j hj => by
  rcases (show j = 0 ∨ j = 1 ∨ j = 2 ∨ j = 3 ∨ j = 4 ∨ j = 5 ∨ j = 6 ∨ j = 7 ∨ j = 8 ∨ j = 9 ∨ j = 10 ∨ j = 11 ∨ j = 12 ∨ j = 13 ∨ j = 14 by omega) with rfl | rfl | rfl | rfl | rfl | rfl | rfl | rfl | rfl | rfl | rfl | rfl | rfl | rfl | rfl <;> rfl
theorem hfs_X1 : ∀ j, j < 2 → defaultValue (tyX1 j) = vp_V [.null, .null] j := fun j hj => by
  rcases (show j = 0 ∨ j = 1 by omega) with rfl | rfl <;> rfl
theorem hfs_X2 : ∀ j, j < 8 → defaultValue (tyX2 j) = vp_V [.null, .null, .null, .int 0, .null, .int 0, .null, .int 0] j := fun j hj => by
  rcases (show j = 0 ∨ j = 1 ∨ j = 2 ∨ j = 3 ∨ j = 4 ∨ j = 5 ∨ j = 6 ∨ j = 7 by omega) with rfl | rfl | rfl | rfl | rfl | rfl | rfl | rfl <;> rfl
theorem hfs_X3 : ∀ j, j < 14 → defaultValue (tyX3 j) = vp_V [.null, .null, .int 0, .int 0, .int 0, .int 0, .int 0, .int 0, .null, .null, .null, .int 0, .int 0, .null] j := fun j hj => by
  rcases (show j = 0 ∨ j = 1 ∨ j = 2 ∨ j = 3 ∨ j = 4 ∨ j = 5 ∨ j = 6 ∨ j = 7 ∨ j = 8 ∨ j = 9 ∨ j = 10 ∨ j = 11 ∨ j = 12 ∨ j = 13 by omega) with rfl | rfl | rfl | rfl | rfl | rfl | rfl | rfl | rfl | rfl | rfl | rfl | rfl | rfl <;> rfl
def n0 (k : Nat) : NSt := (1016 + k, fun _ => 0, fun _ _ => 0, (fun _ => 0, fun _ => 0), (fun _ => 0, fun _ => 0))
def o0 : OSt := (fun _ => 0, fun _ _ => 0)
theorem q_z0 (N : Nat) (cA : ClassId) : vp_cell cA (N, .inl (fun _ => 0)) = arrV cA N (fun _ => defaultValue FieldType.int) := rfl
theorem q_z1 (N : Nat) (cA : ClassId) : vp_cell cA (N, .inr (.inl (fun _ => 0))) = arrV cA N (fun _ => defaultValue FieldType.long) := rfl
theorem q_z2 (N : Nat) (cA : ClassId) : vp_cell cA (N, .inl (fun _ => 0)) = arrV cA N (fun _ => defaultValue FieldType.boolean) := rfl
theorem q_z3 (N : Nat) (cA : ClassId) : vp_cell cA (N, .inl (fun _ => 0)) = arrV cA N (fun _ => defaultValue FieldType.byte) := rfl
abbrev wapp (a b : List (Nat × va_E)) : List (Nat × va_E) := a ++ b
theorem wdX1_init_1 : (Cond.methodLink RX1 3 objectInit) ∈ wsX1_init := List.mem_of_getElem? (i := 1) rfl
theorem wdX1_init_2 : (Cond.instanceMethod objectInit) ∈ wsX1_init := List.mem_of_getElem? (i := 2) rfl
theorem wdX1_init_3 : (Cond.code objectInit ⟨#[0xb1]⟩ 1 none) ∈ wsX1_init := List.mem_of_getElem? (i := 3) rfl
theorem wdX1_init_4 : (Cond.arrayClass .long) ∈ wsX1_init := List.mem_of_getElem? (i := 4) rfl
theorem hiX1_init_X1 : ∀ w ∈ u_ws RX1 TX1 2, w ∈ wsX1_init := mem_run (i := 7) (by decide +kernel)
theorem wdX1_init_5 : (Cond.fieldLink RX1 11 "CombinatorRing$Pairs" "steady" "[J") ∈ wsX1_init := List.mem_of_getElem? (i := 5) rfl
theorem wdX1_init_6 : (Cond.fieldLink RX1 15 "CombinatorRing$Pairs" "growing" "[J") ∈ wsX1_init := List.mem_of_getElem? (i := 6) rfl
abbrev rmcX1_init : Room := { frames := 1, cells := 2, slots := 10, locals := 20 }
theorem hdcX1_init : yX1_init.cls ≠ "java/lang/invoke/MethodHandle" ∧ yX1_init.cls ≠ "java/lang/invoke/VarHandle" ∧ (parseMethodDescriptor yX1_init.desc).map (fun d => d.parameters.length) = some 0 := by decide +kernel
set_option maxHeartbeats 4000000 in
set_option maxRecDepth 100000 in
theorem c_X1_init {l : Launch} {G : Gx} {h : Nat}  : QG l G yX1_init wsX1_init rmcX1_init 2 10 [.ref h] [(h, .inr (1, [.null, .null]))] (fun r w' => r = none ∧ ∃ q : Nat → Nat, q 2 = h ∧ w' = wP G q (fun _ => 0, fun _ => 0)) := by
  refine QG.of (cc := cX1_init) (maxL := 1) (ret := none) (by decide) rfl (Nat.le_of_ble_eq_true rfl) ?_
  intro p e s m below meth c A ls hmn C hD hP hS hl
  have hx := C.1
  have hb := C.2.1
  have hl : lv_has ls 1 [(0, .ref h)] := hl
  refine lv_aload_n hx hb dX1_init_0 rfl (lv_at hl 0 rfl) ?_
  refine q_oinit C wdX1_init_1 wdX1_init_2 wdX1_init_3 hl.1 (Nat.le_of_ble_eq_true rfl) (Nat.le_of_ble_eq_true rfl) dX1_init_1 ?_
  refine lv_aload_n hx hb dX1_init_4 rfl (lv_at hl 0 rfl) ?_
  refine lv_iconst (v := 5) hx hb dX1_init_5 (by decide) ?_
  refine q_newI C (atype := .long) (t := 1) wdX1_init_4 rfl rfl (q_ra1 C.2.2.2.2.2.2.2.1) hP hD hS (N := 5) (a0 := (5, .inr (.inl (fun _ => 0)))) (q_z1 _) (by decide +kernel) (by decide +kernel) (Nat.le_of_ble_eq_true rfl) (Nat.le_of_ble_eq_true rfl) (Nat.le_of_ble_eq_true rfl) dX1_init_6 (fun b1 H hP hD hS => ?_)
  have hP : va_P G.1 vwCl (wapp ([(h, .inr (1, [.null, .null]))]) ([(b1, .inl (G.2.1 1, 5, .inr (.inl (fun _ => 0))))])) H := hP
  have hD : va_D A (wapp ([(h, .inr (1, [.null, .null]))]) ([(b1, .inl (G.2.1 1, 5, .inr (.inl (fun _ => 0))))])) := hD
  refine q_putF (ws' := wapp ([(h, .inr (1, [.ref b1, .null]))]) ([(b1, .inl (G.2.1 1, 5, .inr (.inl (fun _ => 0))))])) C hP hD hS (q0 := 0) rfl rfl hiX1_init_X1 tyX1_ok nmX1 0 (by decide) wdX1_init_5 rfl hmn rfl rfl rfl (Nat.le_of_ble_eq_true rfl) rfl dX1_init_8 (fun H locs hP hS => ?_)
  have hD : va_D A (wapp ([(h, .inr (1, [.ref b1, .null]))]) ([(b1, .inl (G.2.1 1, 5, .inr (.inl (fun _ => 0))))])) := hD.ad rfl
  refine lv_aload_n hx hb dX1_init_11 rfl (lv_at hl 0 rfl) ?_
  refine lv_iconst (v := 5) hx hb dX1_init_12 (by decide) ?_
  refine q_newI C (atype := .long) (t := 1) wdX1_init_4 rfl rfl (q_ra1 C.2.2.2.2.2.2.2.1) hP hD hS (N := 5) (a0 := (5, .inr (.inl (fun _ => 0)))) (q_z1 _) (by decide +kernel) (by decide +kernel) (Nat.le_of_ble_eq_true rfl) (Nat.le_of_ble_eq_true rfl) (Nat.le_of_ble_eq_true rfl) dX1_init_13 (fun b2 H hP hD hS => ?_)
  have hP : va_P G.1 vwCl (wapp (wapp ([(h, .inr (1, [.ref b1, .null]))]) ([(b1, .inl (G.2.1 1, 5, .inr (.inl (fun _ => 0))))])) ([(b2, .inl (G.2.1 1, 5, .inr (.inl (fun _ => 0))))])) H := hP
  have hD : va_D A (wapp (wapp ([(h, .inr (1, [.ref b1, .null]))]) ([(b1, .inl (G.2.1 1, 5, .inr (.inl (fun _ => 0))))])) ([(b2, .inl (G.2.1 1, 5, .inr (.inl (fun _ => 0))))])) := hD
  refine q_putF (ws' := wapp (wapp ([(h, .inr (1, [.ref b1, .ref b2]))]) ([(b1, .inl (G.2.1 1, 5, .inr (.inl (fun _ => 0))))])) ([(b2, .inl (G.2.1 1, 5, .inr (.inl (fun _ => 0))))])) C hP hD hS (q0 := 0) rfl rfl hiX1_init_X1 tyX1_ok nmX1 1 (by decide) wdX1_init_6 rfl hmn rfl rfl rfl (Nat.le_of_ble_eq_true rfl) rfl dX1_init_15 (fun H locs hP hS => ?_)
  have hD : va_D A (wapp (wapp ([(h, .inr (1, [.ref b1, .ref b2]))]) ([(b1, .inl (G.2.1 1, 5, .inr (.inl (fun _ => 0))))])) ([(b2, .inl (G.2.1 1, 5, .inr (.inl (fun _ => 0))))])) := hD.ad rfl
  exact q_Gv C (w' := wP G (fun k => match k with | 0 => b1 | 1 => b2 | _ => h) (fun _ => 0, fun _ => 0)) ⟨rfl, _, rfl, rfl⟩ hP hD hS (Nat.le_of_ble_eq_true rfl) (Nat.le_of_ble_eq_true rfl) rfl dX1_init_18

theorem wdX2_init_1 : (Cond.methodLink RX2 3 objectInit) ∈ wsX2_init := List.mem_of_getElem? (i := 1) rfl
theorem wdX2_init_2 : (Cond.instanceMethod objectInit) ∈ wsX2_init := List.mem_of_getElem? (i := 2) rfl
theorem wdX2_init_3 : (Cond.code objectInit ⟨#[0xb1]⟩ 1 none) ∈ wsX2_init := List.mem_of_getElem? (i := 3) rfl
theorem wdX2_init_4 : (Cond.arrayClass .int) ∈ wsX2_init := List.mem_of_getElem? (i := 4) rfl
theorem hiX2_init_X2 : ∀ w ∈ u_ws RX2 TX2 8, w ∈ wsX2_init := mem_run (i := 10) (by decide +kernel)
theorem wdX2_init_5 : (Cond.fieldLink RX2 9 "CombinatorRing$Sight" "metNodes" "[I") ∈ wsX2_init := List.mem_of_getElem? (i := 5) rfl
theorem wdX2_init_6 : (Cond.fieldLink RX2 15 "CombinatorRing$Sight" "metPorts" "[I") ∈ wsX2_init := List.mem_of_getElem? (i := 6) rfl
theorem wdX2_init_7 : (Cond.fieldLink RX2 18 "CombinatorRing$Sight" "metAs" "[I") ∈ wsX2_init := List.mem_of_getElem? (i := 7) rfl
theorem wdX2_init_8 : (Cond.fieldLink RX2 21 "CombinatorRing$Sight" "told" "[I") ∈ wsX2_init := List.mem_of_getElem? (i := 8) rfl
theorem wdX2_init_9 : (Cond.fieldLink RX2 24 "CombinatorRing$Sight" "open" "[I") ∈ wsX2_init := List.mem_of_getElem? (i := 9) rfl
abbrev rmcX2_init : Room := { frames := 1, cells := 5, slots := 2133, locals := 20 }
theorem hdcX2_init : yX2_init.cls ≠ "java/lang/invoke/MethodHandle" ∧ yX2_init.cls ≠ "java/lang/invoke/VarHandle" ∧ (parseMethodDescriptor yX2_init.desc).map (fun d => d.parameters.length) = some 0 := by decide +kernel
set_option maxHeartbeats 4000000 in
set_option maxRecDepth 100000 in
theorem c_X2_init {l : Launch} {G : Gx} {h : Nat}  : QG l G yX2_init wsX2_init rmcX2_init 5 2133 [.ref h] [(h, .inr (2, [.null, .null, .null, .int 0, .null, .int 0, .null, .int 0]))] (fun r w' => r = none ∧ ∃ q : Nat → Nat, q 8 = h ∧ w' = wS G q o0) := by
  refine QG.of (cc := cX2_init) (maxL := 1) (ret := none) (by decide) rfl (Nat.le_of_ble_eq_true rfl) ?_
  intro p e s m below meth c A ls hmn C hD hP hS hl
  have hx := C.1
  have hb := C.2.1
  have hl : lv_has ls 1 [(0, .ref h)] := hl
  refine lv_aload_n hx hb dX2_init_0 rfl (lv_at hl 0 rfl) ?_
  refine q_oinit C wdX2_init_1 wdX2_init_2 wdX2_init_3 hl.1 (Nat.le_of_ble_eq_true rfl) (Nat.le_of_ble_eq_true rfl) dX2_init_1 ?_
  refine lv_aload_n hx hb dX2_init_4 rfl (lv_at hl 0 rfl) ?_
  refine lv_sipush (v := 300) hx hb dX2_init_5 (by decide) ?_
  refine q_newI C (atype := .int) (t := 0) wdX2_init_4 rfl rfl (q_ra0 C.2.2.2.2.2.2.2.1) hP hD hS (N := 300) (a0 := (300, .inl (fun _ => 0))) (q_z0 _) (by decide +kernel) (by decide +kernel) (Nat.le_of_ble_eq_true rfl) (Nat.le_of_ble_eq_true rfl) (Nat.le_of_ble_eq_true rfl) dX2_init_8 (fun b1 H hP hD hS => ?_)
  have hP : va_P G.1 vwCl (wapp ([(h, .inr (2, [.null, .null, .null, .int 0, .null, .int 0, .null, .int 0]))]) ([(b1, .inl (G.2.1 0, 300, .inl (fun _ => 0)))])) H := hP
  have hD : va_D A (wapp ([(h, .inr (2, [.null, .null, .null, .int 0, .null, .int 0, .null, .int 0]))]) ([(b1, .inl (G.2.1 0, 300, .inl (fun _ => 0)))])) := hD
  refine q_putF (ws' := wapp ([(h, .inr (2, [.ref b1, .null, .null, .int 0, .null, .int 0, .null, .int 0]))]) ([(b1, .inl (G.2.1 0, 300, .inl (fun _ => 0)))])) C hP hD hS (q0 := 0) rfl rfl hiX2_init_X2 tyX2_ok nmX2 0 (by decide) wdX2_init_5 rfl hmn rfl rfl rfl (Nat.le_of_ble_eq_true rfl) rfl dX2_init_10 (fun H locs hP hS => ?_)
  have hD : va_D A (wapp ([(h, .inr (2, [.ref b1, .null, .null, .int 0, .null, .int 0, .null, .int 0]))]) ([(b1, .inl (G.2.1 0, 300, .inl (fun _ => 0)))])) := hD.ad rfl
  refine lv_aload_n hx hb dX2_init_13 rfl (lv_at hl 0 rfl) ?_
  refine lv_sipush (v := 300) hx hb dX2_init_14 (by decide) ?_
  refine q_newI C (atype := .int) (t := 0) wdX2_init_4 rfl rfl (q_ra0 C.2.2.2.2.2.2.2.1) hP hD hS (N := 300) (a0 := (300, .inl (fun _ => 0))) (q_z0 _) (by decide +kernel) (by decide +kernel) (Nat.le_of_ble_eq_true rfl) (Nat.le_of_ble_eq_true rfl) (Nat.le_of_ble_eq_true rfl) dX2_init_17 (fun b2 H hP hD hS => ?_)
  have hP : va_P G.1 vwCl (wapp (wapp ([(h, .inr (2, [.ref b1, .null, .null, .int 0, .null, .int 0, .null, .int 0]))]) ([(b1, .inl (G.2.1 0, 300, .inl (fun _ => 0)))])) ([(b2, .inl (G.2.1 0, 300, .inl (fun _ => 0)))])) H := hP
  have hD : va_D A (wapp (wapp ([(h, .inr (2, [.ref b1, .null, .null, .int 0, .null, .int 0, .null, .int 0]))]) ([(b1, .inl (G.2.1 0, 300, .inl (fun _ => 0)))])) ([(b2, .inl (G.2.1 0, 300, .inl (fun _ => 0)))])) := hD
  refine q_putF (ws' := wapp (wapp ([(h, .inr (2, [.ref b1, .ref b2, .null, .int 0, .null, .int 0, .null, .int 0]))]) ([(b1, .inl (G.2.1 0, 300, .inl (fun _ => 0)))])) ([(b2, .inl (G.2.1 0, 300, .inl (fun _ => 0)))])) C hP hD hS (q0 := 0) rfl rfl hiX2_init_X2 tyX2_ok nmX2 1 (by decide) wdX2_init_6 rfl hmn rfl rfl rfl (Nat.le_of_ble_eq_true rfl) rfl dX2_init_19 (fun H locs hP hS => ?_)
  have hD : va_D A (wapp (wapp ([(h, .inr (2, [.ref b1, .ref b2, .null, .int 0, .null, .int 0, .null, .int 0]))]) ([(b1, .inl (G.2.1 0, 300, .inl (fun _ => 0)))])) ([(b2, .inl (G.2.1 0, 300, .inl (fun _ => 0)))])) := hD.ad rfl
  refine lv_aload_n hx hb dX2_init_22 rfl (lv_at hl 0 rfl) ?_
  refine lv_sipush (v := 300) hx hb dX2_init_23 (by decide) ?_
  refine q_newI C (atype := .int) (t := 0) wdX2_init_4 rfl rfl (q_ra0 C.2.2.2.2.2.2.2.1) hP hD hS (N := 300) (a0 := (300, .inl (fun _ => 0))) (q_z0 _) (by decide +kernel) (by decide +kernel) (Nat.le_of_ble_eq_true rfl) (Nat.le_of_ble_eq_true rfl) (Nat.le_of_ble_eq_true rfl) dX2_init_26 (fun b3 H hP hD hS => ?_)
  have hP : va_P G.1 vwCl (wapp (wapp (wapp ([(h, .inr (2, [.ref b1, .ref b2, .null, .int 0, .null, .int 0, .null, .int 0]))]) ([(b1, .inl (G.2.1 0, 300, .inl (fun _ => 0)))])) ([(b2, .inl (G.2.1 0, 300, .inl (fun _ => 0)))])) ([(b3, .inl (G.2.1 0, 300, .inl (fun _ => 0)))])) H := hP
  have hD : va_D A (wapp (wapp (wapp ([(h, .inr (2, [.ref b1, .ref b2, .null, .int 0, .null, .int 0, .null, .int 0]))]) ([(b1, .inl (G.2.1 0, 300, .inl (fun _ => 0)))])) ([(b2, .inl (G.2.1 0, 300, .inl (fun _ => 0)))])) ([(b3, .inl (G.2.1 0, 300, .inl (fun _ => 0)))])) := hD
  refine q_putF (ws' := wapp (wapp (wapp ([(h, .inr (2, [.ref b1, .ref b2, .ref b3, .int 0, .null, .int 0, .null, .int 0]))]) ([(b1, .inl (G.2.1 0, 300, .inl (fun _ => 0)))])) ([(b2, .inl (G.2.1 0, 300, .inl (fun _ => 0)))])) ([(b3, .inl (G.2.1 0, 300, .inl (fun _ => 0)))])) C hP hD hS (q0 := 0) rfl rfl hiX2_init_X2 tyX2_ok nmX2 2 (by decide) wdX2_init_7 rfl hmn rfl rfl rfl (Nat.le_of_ble_eq_true rfl) rfl dX2_init_28 (fun H locs hP hS => ?_)
  have hD : va_D A (wapp (wapp (wapp ([(h, .inr (2, [.ref b1, .ref b2, .ref b3, .int 0, .null, .int 0, .null, .int 0]))]) ([(b1, .inl (G.2.1 0, 300, .inl (fun _ => 0)))])) ([(b2, .inl (G.2.1 0, 300, .inl (fun _ => 0)))])) ([(b3, .inl (G.2.1 0, 300, .inl (fun _ => 0)))])) := hD.ad rfl
  refine lv_aload_n hx hb dX2_init_31 rfl (lv_at hl 0 rfl) ?_
  refine lv_sipush (v := 632) hx hb dX2_init_32 (by decide) ?_
  refine q_newI C (atype := .int) (t := 0) wdX2_init_4 rfl rfl (q_ra0 C.2.2.2.2.2.2.2.1) hP hD hS (N := 632) (a0 := (632, .inl (fun _ => 0))) (q_z0 _) (by decide +kernel) (by decide +kernel) (Nat.le_of_ble_eq_true rfl) (Nat.le_of_ble_eq_true rfl) (Nat.le_of_ble_eq_true rfl) dX2_init_35 (fun b4 H hP hD hS => ?_)
  have hP : va_P G.1 vwCl (wapp (wapp (wapp (wapp ([(h, .inr (2, [.ref b1, .ref b2, .ref b3, .int 0, .null, .int 0, .null, .int 0]))]) ([(b1, .inl (G.2.1 0, 300, .inl (fun _ => 0)))])) ([(b2, .inl (G.2.1 0, 300, .inl (fun _ => 0)))])) ([(b3, .inl (G.2.1 0, 300, .inl (fun _ => 0)))])) ([(b4, .inl (G.2.1 0, 632, .inl (fun _ => 0)))])) H := hP
  have hD : va_D A (wapp (wapp (wapp (wapp ([(h, .inr (2, [.ref b1, .ref b2, .ref b3, .int 0, .null, .int 0, .null, .int 0]))]) ([(b1, .inl (G.2.1 0, 300, .inl (fun _ => 0)))])) ([(b2, .inl (G.2.1 0, 300, .inl (fun _ => 0)))])) ([(b3, .inl (G.2.1 0, 300, .inl (fun _ => 0)))])) ([(b4, .inl (G.2.1 0, 632, .inl (fun _ => 0)))])) := hD
  refine q_putF (ws' := wapp (wapp (wapp (wapp ([(h, .inr (2, [.ref b1, .ref b2, .ref b3, .int 0, .ref b4, .int 0, .null, .int 0]))]) ([(b1, .inl (G.2.1 0, 300, .inl (fun _ => 0)))])) ([(b2, .inl (G.2.1 0, 300, .inl (fun _ => 0)))])) ([(b3, .inl (G.2.1 0, 300, .inl (fun _ => 0)))])) ([(b4, .inl (G.2.1 0, 632, .inl (fun _ => 0)))])) C hP hD hS (q0 := 0) rfl rfl hiX2_init_X2 tyX2_ok nmX2 4 (by decide) wdX2_init_8 rfl hmn rfl rfl rfl (Nat.le_of_ble_eq_true rfl) rfl dX2_init_37 (fun H locs hP hS => ?_)
  have hD : va_D A (wapp (wapp (wapp (wapp ([(h, .inr (2, [.ref b1, .ref b2, .ref b3, .int 0, .ref b4, .int 0, .null, .int 0]))]) ([(b1, .inl (G.2.1 0, 300, .inl (fun _ => 0)))])) ([(b2, .inl (G.2.1 0, 300, .inl (fun _ => 0)))])) ([(b3, .inl (G.2.1 0, 300, .inl (fun _ => 0)))])) ([(b4, .inl (G.2.1 0, 632, .inl (fun _ => 0)))])) := hD.ad rfl
  refine lv_aload_n hx hb dX2_init_40 rfl (lv_at hl 0 rfl) ?_
  refine lv_sipush (v := 601) hx hb dX2_init_41 (by decide) ?_
  refine q_newI C (atype := .int) (t := 0) wdX2_init_4 rfl rfl (q_ra0 C.2.2.2.2.2.2.2.1) hP hD hS (N := 601) (a0 := (601, .inl (fun _ => 0))) (q_z0 _) (by decide +kernel) (by decide +kernel) (Nat.le_of_ble_eq_true rfl) (Nat.le_of_ble_eq_true rfl) (Nat.le_of_ble_eq_true rfl) dX2_init_44 (fun b5 H hP hD hS => ?_)
  have hP : va_P G.1 vwCl (wapp (wapp (wapp (wapp (wapp ([(h, .inr (2, [.ref b1, .ref b2, .ref b3, .int 0, .ref b4, .int 0, .null, .int 0]))]) ([(b1, .inl (G.2.1 0, 300, .inl (fun _ => 0)))])) ([(b2, .inl (G.2.1 0, 300, .inl (fun _ => 0)))])) ([(b3, .inl (G.2.1 0, 300, .inl (fun _ => 0)))])) ([(b4, .inl (G.2.1 0, 632, .inl (fun _ => 0)))])) ([(b5, .inl (G.2.1 0, 601, .inl (fun _ => 0)))])) H := hP
  have hD : va_D A (wapp (wapp (wapp (wapp (wapp ([(h, .inr (2, [.ref b1, .ref b2, .ref b3, .int 0, .ref b4, .int 0, .null, .int 0]))]) ([(b1, .inl (G.2.1 0, 300, .inl (fun _ => 0)))])) ([(b2, .inl (G.2.1 0, 300, .inl (fun _ => 0)))])) ([(b3, .inl (G.2.1 0, 300, .inl (fun _ => 0)))])) ([(b4, .inl (G.2.1 0, 632, .inl (fun _ => 0)))])) ([(b5, .inl (G.2.1 0, 601, .inl (fun _ => 0)))])) := hD
  refine q_putF (ws' := wapp (wapp (wapp (wapp (wapp ([(h, .inr (2, [.ref b1, .ref b2, .ref b3, .int 0, .ref b4, .int 0, .ref b5, .int 0]))]) ([(b1, .inl (G.2.1 0, 300, .inl (fun _ => 0)))])) ([(b2, .inl (G.2.1 0, 300, .inl (fun _ => 0)))])) ([(b3, .inl (G.2.1 0, 300, .inl (fun _ => 0)))])) ([(b4, .inl (G.2.1 0, 632, .inl (fun _ => 0)))])) ([(b5, .inl (G.2.1 0, 601, .inl (fun _ => 0)))])) C hP hD hS (q0 := 0) rfl rfl hiX2_init_X2 tyX2_ok nmX2 6 (by decide) wdX2_init_9 rfl hmn rfl rfl rfl (Nat.le_of_ble_eq_true rfl) rfl dX2_init_46 (fun H locs hP hS => ?_)
  have hD : va_D A (wapp (wapp (wapp (wapp (wapp ([(h, .inr (2, [.ref b1, .ref b2, .ref b3, .int 0, .ref b4, .int 0, .ref b5, .int 0]))]) ([(b1, .inl (G.2.1 0, 300, .inl (fun _ => 0)))])) ([(b2, .inl (G.2.1 0, 300, .inl (fun _ => 0)))])) ([(b3, .inl (G.2.1 0, 300, .inl (fun _ => 0)))])) ([(b4, .inl (G.2.1 0, 632, .inl (fun _ => 0)))])) ([(b5, .inl (G.2.1 0, 601, .inl (fun _ => 0)))])) := hD.ad rfl
  exact q_Gv C (w' := wS G (fun k => match k with | 0 => b1 | 1 => b2 | 2 => b3 | 4 => b4 | 6 => b5 | _ => h) o0) ⟨rfl, _, rfl, rfl⟩ hP hD hS (Nat.le_of_ble_eq_true rfl) (Nat.le_of_ble_eq_true rfl) rfl dX2_init_49

