/-! images, the past taken back -/
theorem imO_vup2 (V : VS) {k : Nat} (hk : k < 2) (q : Nat → Nat) (s : NSt) : imO (vup V k (some (q, s))) = va_up (imO V) k (some (q 15)) := by
  funext j
  unfold imO vO va_up
  by_cases h : j = k
  · rw [if_pos h, h, if_pos hk, vup_s]
    rfl
  · rw [if_neg h, vup_n h]
theorem paO_vup2 (V : VS) {k : Nat} (hk : k < 2) (x : Option ((Nat → Nat) × NSt)) : paO (vup V k x) = paO V := by
  funext j
  unfold paO vO
  by_cases h : j < 12
  · rw [if_pos h, if_pos h, vup_n (by omega)]
  · rw [if_neg h, if_neg h]
theorem imO_at {V : VS} {k : Nat} (hk : k < 2) : imO V k = vO V k := if_pos hk
def iA (V : VS) (sr : OSt) (a1 : Int32) : Option Nat := if a1 < 0 then none else if 2 ≤ a1 then none else if sr.2 8 a1.toNatClampNeg = 0 then none else imO V a1.toNatClampNeg
theorem pm_bec2 {R n C X : va_W} : (R ++ (n ++ (C ++ X))).Perm ((R ++ X) ++ (C ++ n)) := pm_bec.trans (List.Perm.append_left _ List.perm_append_comm)
theorem pm_on {R n C A h t u s o Y : va_W} : (R ++ (n ++ (C ++ (A ++ (h ++ (t ++ (u ++ (s ++ (o ++ Y))))))))).Perm ((R ++ (C ++ (A ++ (h ++ (t ++ (u ++ (s ++ Y))))))) ++ (o ++ n)) := by
  have z : (C ++ (A ++ (h ++ (t ++ (u ++ (s ++ (o ++ Y))))))).Perm ((C ++ (A ++ (h ++ (t ++ (u ++ (s ++ Y)))))) ++ o) := by
    refine (List.Perm.append_left _ (List.Perm.append_left _ (List.Perm.append_left _ (List.Perm.append_left _ (List.Perm.append_left _ (List.Perm.append_left _ List.perm_append_comm)))))).trans ?_
    simp only [List.append_assoc]
    exact List.Perm.refl _
  refine (List.Perm.append_left _ ((List.Perm.append_left _ z).trans List.perm_append_comm)).trans ?_
  simp only [List.append_assoc]
  exact List.Perm.refl _
theorem q_aret {p : Program} {l : Launch} {e : Env} {R : Room} {s : State} {m : MethodId} {args : Array Value} {below : List Frame} {meth : Method} {c : Code} {H : Heap} {locs : List Loc} {G : Gx} {cc : ByteArray} {Ts : List Cond} {own : String} {ret : Option FieldType} {nL : Nat} {A : Nat → Prop} {pc : Nat} {ls : Array Slot} (C : Cx p s m args meth c G cc Ts own ret nL A) {w' : va_W} {v : Value} {n : String} (hP : va_P G.1 vwCl w' H) (hS : va_S A s.heap H locs) (hr : ret = some (.object n)) (hv : v = .null ∨ ∃ a, v = .ref a) (hdg : decode cc pc = .ok (.areturn, 1)) : W p l e R s m args below meth c H locs 0 0 (MQ below (qE G A w' (some v)) args s 0 0 A) (F0 m pc ls [v]) :=
  W.aret C.1 C.2.1 (C.2.2.2.2.2.1.trans hr) (Or.inl ⟨_, rfl⟩) hv (fun t ht _ => ⟨⟨rfl, by rw [ht]; exact hP⟩, hS.F ht⟩) hS.2.2 hdg C.2.2.2.2.2.2.1
theorem hiX4_undo_X4 : ∀ w ∈ u_ws RX4 TX4 12, w ∈ wsX4_undo := mem_run (i := 35) (by decide +kernel)
theorem hiX4_undo_X0 : ∀ w ∈ u_ws RX0 TX0 15, w ∈ wsX4_undo := mem_run (i := 47) (by decide +kernel)
theorem wdX4_undo_1 : (Cond.fieldLink RX4 60 "CombinatorRing" "pastCount" "I") ∈ wsX4_undo := List.mem_of_getElem? (i := 1) rfl
theorem wdX4_undo_2 : (Cond.fieldLink RX4 50 "CombinatorRing" "past" "[LCombinatorRing$Net;") ∈ wsX4_undo := List.mem_of_getElem? (i := 2) rfl
theorem wdX4_undo_3 : (Cond.fieldLink RX4 57 "CombinatorRing" "pastFirst" "I") ∈ wsX4_undo := List.mem_of_getElem? (i := 3) rfl
theorem wdX4_undo_4 : (Cond.fieldLink RX4 18 "CombinatorRing" "current" "LCombinatorRing$Net;") ∈ wsX4_undo := List.mem_of_getElem? (i := 4) rfl
theorem wdX4_undo_5 : (Cond.methodLink RX4 73 yX0_become) ∈ wsX4_undo := List.mem_of_getElem? (i := 5) rfl
theorem wdX4_undo_6 : (Cond.instanceMethod yX0_become) ∈ wsX4_undo := List.mem_of_getElem? (i := 6) rfl
theorem wdX4_undo_7 : (Cond.selects RX0 yX0_become yX0_become) ∈ wsX4_undo := List.mem_of_getElem? (i := 7) rfl
theorem wdX4_undo_8 : (Cond.initialized RX0) ∈ wsX4_undo := List.mem_of_getElem? (i := 8) rfl
theorem wdX4_undo_9 : (Cond.code yX0_become cX0_become 2 none) ∈ wsX4_undo := List.mem_of_getElem? (i := 9) rfl
theorem wdX4_undo_10 : (Cond.fieldLink RX0 9 "CombinatorRing$Net" "kinds" "[I") ∈ wsX4_undo := List.mem_of_getElem? (i := 10) rfl
theorem hdX4_undo : yX4_undo.cls = RX4 ∧ yX4_undo.cls ≠ "java/lang/invoke/MethodHandle" ∧ yX4_undo.cls ≠ "java/lang/invoke/VarHandle" ∧ (parseMethodDescriptor yX4_undo.desc).map (fun d => d.parameters.length) = some 0 := by decide +kernel
theorem hiX4_image_X4 : ∀ w ∈ u_ws RX4 TX4 12, w ∈ wsX4_image := mem_run (i := 88) (by decide +kernel)
theorem hiX4_image_X0 : ∀ w ∈ u_ws RX0 TX0 15, w ∈ wsX4_image := mem_run (i := 100) (by decide +kernel)
theorem wdX4_image_1 : (Cond.fieldLink RX4 42 "CombinatorRing" "images" "[LCombinatorRing$Net;") ∈ wsX4_image := List.mem_of_getElem? (i := 1) rfl
theorem wdX4_image_2 : (Cond.classLink RX4 13 RX0) ∈ wsX4_image := List.mem_of_getElem? (i := 2) rfl
theorem wdX4_image_3 : (Cond.instantiable RX0 15) ∈ wsX4_image := List.mem_of_getElem? (i := 3) rfl
theorem wdX4_image_4 : (Cond.initialized RX0) ∈ wsX4_image := List.mem_of_getElem? (i := 4) rfl
theorem wdX4_image_5 : (Cond.fieldLink RX4 18 "CombinatorRing" "current" "LCombinatorRing$Net;") ∈ wsX4_image := List.mem_of_getElem? (i := 5) rfl
theorem wdX4_image_6 : (Cond.fieldLink RX4 46 "CombinatorRing" "holds" "[Z") ∈ wsX4_image := List.mem_of_getElem? (i := 6) rfl
theorem wdX4_image_7 : (Cond.methodLink RX4 241 yX4_layBack) ∈ wsX4_image := List.mem_of_getElem? (i := 7) rfl
theorem wdX4_image_8 : (Cond.instanceMethod yX4_layBack) ∈ wsX4_image := List.mem_of_getElem? (i := 8) rfl
theorem wdX4_image_9 : (Cond.selects RX4 yX4_layBack yX4_layBack) ∈ wsX4_image := List.mem_of_getElem? (i := 9) rfl
theorem wdX4_image_10 : (Cond.initialized RX4) ∈ wsX4_image := List.mem_of_getElem? (i := 10) rfl
theorem hdX4_image : yX4_image.cls = RX4 ∧ yX4_image.cls ≠ "java/lang/invoke/MethodHandle" ∧ yX4_image.cls ≠ "java/lang/invoke/VarHandle" ∧ (parseMethodDescriptor yX4_image.desc).map (fun d => d.parameters.length) = some 2 := by decide +kernel
theorem hiX4_imageAt_X4 : ∀ w ∈ u_ws RX4 TX4 12, w ∈ wsX4_imageAt := mem_run (i := 3) (by decide +kernel)
theorem wdX4_imageAt_1 : (Cond.fieldLink RX4 46 "CombinatorRing" "holds" "[Z") ∈ wsX4_imageAt := List.mem_of_getElem? (i := 1) rfl
theorem wdX4_imageAt_2 : (Cond.fieldLink RX4 42 "CombinatorRing" "images" "[LCombinatorRing$Net;") ∈ wsX4_imageAt := List.mem_of_getElem? (i := 2) rfl
theorem hdX4_imageAt : yX4_imageAt.cls = RX4 ∧ yX4_imageAt.cls ≠ "java/lang/invoke/MethodHandle" ∧ yX4_imageAt.cls ≠ "java/lang/invoke/VarHandle" ∧ (parseMethodDescriptor yX4_imageAt.desc).map (fun d => d.parameters.length) = some 1 := by decide +kernel
theorem hiX4_layBack_X4 : ∀ w ∈ u_ws RX4 TX4 12, w ∈ wsX4_layBack := mem_run (i := 45) (by decide +kernel)
theorem hiX4_layBack_X0 : ∀ w ∈ u_ws RX0 TX0 15, w ∈ wsX4_layBack := mem_run (i := 57) (by decide +kernel)
theorem wdX4_layBack_1 : (Cond.fieldLink RX4 18 "CombinatorRing" "current" "LCombinatorRing$Net;") ∈ wsX4_layBack := List.mem_of_getElem? (i := 1) rfl
theorem wdX4_layBack_2 : (Cond.methodLink RX4 215 yX4_imageAt) ∈ wsX4_layBack := List.mem_of_getElem? (i := 2) rfl
theorem wdX4_layBack_3 : (Cond.instanceMethod yX4_imageAt) ∈ wsX4_layBack := List.mem_of_getElem? (i := 3) rfl
theorem wdX4_layBack_4 : (Cond.selects RX4 yX4_imageAt yX4_imageAt) ∈ wsX4_layBack := List.mem_of_getElem? (i := 4) rfl
theorem wdX4_layBack_5 : (Cond.initialized RX4) ∈ wsX4_layBack := List.mem_of_getElem? (i := 5) rfl
theorem wdX4_layBack_6 : (Cond.code yX4_imageAt cX4_imageAt 2 (some (.object "CombinatorRing$Net"))) ∈ wsX4_layBack := List.mem_of_getElem? (i := 6) rfl
theorem wdX4_layBack_7 : (Cond.fieldLink RX4 46 "CombinatorRing" "holds" "[Z") ∈ wsX4_layBack := List.mem_of_getElem? (i := 7) rfl
theorem wdX4_layBack_8 : (Cond.fieldLink RX4 42 "CombinatorRing" "images" "[LCombinatorRing$Net;") ∈ wsX4_layBack := List.mem_of_getElem? (i := 8) rfl
theorem wdX4_layBack_9 : (Cond.methodLink RX4 73 yX0_become) ∈ wsX4_layBack := List.mem_of_getElem? (i := 9) rfl
theorem wdX4_layBack_10 : (Cond.instanceMethod yX0_become) ∈ wsX4_layBack := List.mem_of_getElem? (i := 10) rfl
theorem hdX4_layBack : yX4_layBack.cls = RX4 ∧ yX4_layBack.cls ≠ "java/lang/invoke/MethodHandle" ∧ yX4_layBack.cls ≠ "java/lang/invoke/VarHandle" ∧ (parseMethodDescriptor yX4_layBack.desc).map (fun d => d.parameters.length) = some 1 := by decide +kernel
theorem hiX4_likeImage_X4 : ∀ w ∈ u_ws RX4 TX4 12, w ∈ wsX4_likeImage := mem_run (i := 71) (by decide +kernel)
theorem hiX4_likeImage_X2 : ∀ w ∈ u_ws RX2 TX2 8, w ∈ wsX4_likeImage := mem_run (i := 83) (by decide +kernel)
theorem hiX4_likeImage_X0 : ∀ w ∈ u_ws RX0 TX0 15, w ∈ wsX4_likeImage := mem_run (i := 91) (by decide +kernel)
theorem wdX4_likeImage_1 : (Cond.fieldLink RX4 35 "CombinatorRing" "sight" "LCombinatorRing$Sight;") ∈ wsX4_likeImage := List.mem_of_getElem? (i := 1) rfl
theorem wdX4_likeImage_2 : (Cond.fieldLink RX4 18 "CombinatorRing" "current" "LCombinatorRing$Net;") ∈ wsX4_likeImage := List.mem_of_getElem? (i := 2) rfl
theorem wdX4_likeImage_3 : (Cond.fieldLink RX4 39 "CombinatorRing" "otherSight" "LCombinatorRing$Sight;") ∈ wsX4_likeImage := List.mem_of_getElem? (i := 3) rfl
theorem wdX4_likeImage_4 : (Cond.methodLink RX4 215 yX4_imageAt) ∈ wsX4_likeImage := List.mem_of_getElem? (i := 4) rfl
theorem wdX4_likeImage_5 : (Cond.instanceMethod yX4_imageAt) ∈ wsX4_likeImage := List.mem_of_getElem? (i := 5) rfl
theorem wdX4_likeImage_6 : (Cond.selects RX4 yX4_imageAt yX4_imageAt) ∈ wsX4_likeImage := List.mem_of_getElem? (i := 6) rfl
theorem wdX4_likeImage_7 : (Cond.initialized RX4) ∈ wsX4_likeImage := List.mem_of_getElem? (i := 7) rfl
theorem wdX4_likeImage_8 : (Cond.code yX4_imageAt cX4_imageAt 2 (some (.object "CombinatorRing$Net"))) ∈ wsX4_likeImage := List.mem_of_getElem? (i := 8) rfl
theorem wdX4_likeImage_9 : (Cond.fieldLink RX4 46 "CombinatorRing" "holds" "[Z") ∈ wsX4_likeImage := List.mem_of_getElem? (i := 9) rfl
theorem wdX4_likeImage_10 : (Cond.fieldLink RX4 42 "CombinatorRing" "images" "[LCombinatorRing$Net;") ∈ wsX4_likeImage := List.mem_of_getElem? (i := 10) rfl
theorem hdX4_likeImage : yX4_likeImage.cls = RX4 ∧ yX4_likeImage.cls ≠ "java/lang/invoke/MethodHandle" ∧ yX4_likeImage.cls ≠ "java/lang/invoke/VarHandle" ∧ (parseMethodDescriptor yX4_likeImage.desc).map (fun d => d.parameters.length) = some 1 := by decide +kernel
theorem hiX4_split_X4 : ∀ w ∈ u_ws RX4 TX4 12, w ∈ wsX4_split := mem_run (i := 131) (by decide +kernel)
theorem wdX4_split_1 : (Cond.methodLink RX4 232 yX4_branchRoot) ∈ wsX4_split := List.mem_of_getElem? (i := 1) rfl
theorem wdX4_split_2 : (Cond.instanceMethod yX4_branchRoot) ∈ wsX4_split := List.mem_of_getElem? (i := 2) rfl
theorem wdX4_split_3 : (Cond.selects RX4 yX4_branchRoot yX4_branchRoot) ∈ wsX4_split := List.mem_of_getElem? (i := 3) rfl
theorem wdX4_split_4 : (Cond.initialized RX4) ∈ wsX4_split := List.mem_of_getElem? (i := 4) rfl
theorem wdX4_split_5 : (Cond.code yX4_branchRoot cX4_branchRoot 5 (some .int)) ∈ wsX4_split := List.mem_of_getElem? (i := 5) rfl
theorem wdX4_split_6 : (Cond.fieldLink RX4 18 "CombinatorRing" "current" "LCombinatorRing$Net;") ∈ wsX4_split := List.mem_of_getElem? (i := 6) rfl
theorem wdX4_split_7 : (Cond.methodLink RX4 137 yX0_hasRoot) ∈ wsX4_split := List.mem_of_getElem? (i := 7) rfl
theorem wdX4_split_8 : (Cond.instanceMethod yX0_hasRoot) ∈ wsX4_split := List.mem_of_getElem? (i := 8) rfl
theorem wdX4_split_9 : (Cond.selects RX0 yX0_hasRoot yX0_hasRoot) ∈ wsX4_split := List.mem_of_getElem? (i := 9) rfl
theorem wdX4_split_10 : (Cond.initialized RX0) ∈ wsX4_split := List.mem_of_getElem? (i := 10) rfl
theorem hdX4_split : yX4_split.cls = RX4 ∧ yX4_split.cls ≠ "java/lang/invoke/MethodHandle" ∧ yX4_split.cls ≠ "java/lang/invoke/VarHandle" ∧ (parseMethodDescriptor yX4_split.desc).map (fun d => d.parameters.length) = some 1 := by decide +kernel
theorem hiX4_twice_X4 : ∀ w ∈ u_ws RX4 TX4 12, w ∈ wsX4_twice := mem_run (i := 131) (by decide +kernel)
theorem wdX4_twice_1 : (Cond.methodLink RX4 232 yX4_branchRoot) ∈ wsX4_twice := List.mem_of_getElem? (i := 1) rfl
theorem wdX4_twice_2 : (Cond.instanceMethod yX4_branchRoot) ∈ wsX4_twice := List.mem_of_getElem? (i := 2) rfl
theorem wdX4_twice_3 : (Cond.selects RX4 yX4_branchRoot yX4_branchRoot) ∈ wsX4_twice := List.mem_of_getElem? (i := 3) rfl
theorem wdX4_twice_4 : (Cond.initialized RX4) ∈ wsX4_twice := List.mem_of_getElem? (i := 4) rfl
theorem wdX4_twice_5 : (Cond.code yX4_branchRoot cX4_branchRoot 5 (some .int)) ∈ wsX4_twice := List.mem_of_getElem? (i := 5) rfl
theorem wdX4_twice_6 : (Cond.fieldLink RX4 18 "CombinatorRing" "current" "LCombinatorRing$Net;") ∈ wsX4_twice := List.mem_of_getElem? (i := 6) rfl
theorem wdX4_twice_7 : (Cond.methodLink RX4 137 yX0_hasRoot) ∈ wsX4_twice := List.mem_of_getElem? (i := 7) rfl
theorem wdX4_twice_8 : (Cond.instanceMethod yX0_hasRoot) ∈ wsX4_twice := List.mem_of_getElem? (i := 8) rfl
theorem wdX4_twice_9 : (Cond.selects RX0 yX0_hasRoot yX0_hasRoot) ∈ wsX4_twice := List.mem_of_getElem? (i := 9) rfl
theorem wdX4_twice_10 : (Cond.initialized RX0) ∈ wsX4_twice := List.mem_of_getElem? (i := 10) rfl
theorem hdX4_twice : yX4_twice.cls = RX4 ∧ yX4_twice.cls ≠ "java/lang/invoke/MethodHandle" ∧ yX4_twice.cls ≠ "java/lang/invoke/VarHandle" ∧ (parseMethodDescriptor yX4_twice.desc).map (fun d => d.parameters.length) = some 1 := by decide +kernel
abbrev rmX4_imageAt : Room := { frames := 0, cells := 0, slots := 0, locals := 0 }
abbrev rmX4_layBack : Room := { frames := 3, cells := 0, slots := 0, locals := 68 }
abbrev rmX4_likeImage : Room := { frames := 8, cells := 0, slots := 0, locals := 200 }
abbrev rmX4_undo : Room := { frames := 4, cells := 0, slots := 0, locals := 100 }
abbrev rmX4_image : Room := { frames := 8, cells := 11, slots := 1661, locals := 200 }
abbrev rmX4_split : Room := { frames := 6, cells := 11, slots := 1661, locals := 131 }
abbrev rmX4_twice : Room := { frames := 6, cells := 11, slots := 1661, locals := 131 }
set_option maxHeartbeats 4000000 in
set_option maxRecDepth 100000 in
theorem c_X4_split {l : Launch} {G : Gx} {q : Nat → Nat} {da : Nat} {qc qh qt qn qs qo : Nat → Nat} {V : VS} {sr : OSt} {ta : Nat → Int32} {sc sh : NSt} {tb : Nat × OSt} {sn : NSt} {ss so : OSt} {x00 : NSt} {a1 : Int32} {x : Int32 × Int32 × NSt} (hr : RH x00 V sr sc) (hf : r_branchRoot sc a1 1 = some x) : QG l G yX4_split wsX4_split rmX4_split 11 1661 [.ref (q 12), .int a1] (wZ G q da qc qh qt qn qs qo V sr ta sc sh tb sn ss so) (fun r w' => r = some (.int x.2.1) ∧ ∃ V' sr', ((x.1 = 0 ∧ V' = V ∧ sr' = sr) ∨ (x.1 = 1 ∧ REM x00 V sr sc V' sr')) ∧ w' = wZ G q da qc qh qt qn qs qo V' sr' ta x.2.2 sh tb sn ss so) := by
  refine QG.of (cc := cX4_split) (maxL := 2) (ret := (some .int)) (by decide) rfl (Nat.le_of_ble_eq_true rfl) ?_
  intro p e s m below meth c A ls hmn C hD hP hS hl
  have hx := C.1
  have hb := C.2.1
  have hl : lv_has ls 2 [(0, .ref (q 12)), (1, .int a1)] := hl
  refine lv_aload_n hx hb dX4_split_0 rfl (lv_at hl 0 rfl) ?_
  refine lv_iload_n hx hb dX4_split_1 rfl (lv_at hl 1 rfl) ?_
  refine lv_iconst (v := 1) hx hb dX4_split_2 (by decide) ?_
  refine q_VG C (rc := (RX4, TX4, 12)) (q0 := 0) (ci := 4) (wr := []) (c_X4_branchRoot (q := q) (da := da) (qc := qc) (qh := qh) (qt := qt) (qn := qn) (qs := qs) (qo := qo) (ta := ta) (sh := sh) (tb := tb) (sn := sn) (ss := ss) (so := so) hr hf) gX4_split_X4_branchRoot rfl ⟨rfl, rfl⟩ hdX4_branchRoot ⟨(Nat.le_of_ble_eq_true rfl), (Nat.le_of_ble_eq_true rfl)⟩ rfl hP hD hS rfl rfl (List.Perm.refl _) hl.1 (Nat.le_of_ble_eq_true rfl) ⟨(Nat.le_of_ble_eq_true rfl), (Nat.le_of_ble_eq_true rfl)⟩ rfl dX4_split_3 (fun r9 w9 H locs hBB hP hD hS => ?_)
  obtain ⟨rfl, V1, sr1, hrm, rfl⟩ := hBB
  exact q_Gi C ⟨rfl, V1, sr1, hrm, rfl⟩ hP hD hS (Nat.le_of_ble_eq_true rfl) (Nat.le_of_ble_eq_true rfl) rfl rfl dX4_split_6
set_option maxHeartbeats 4000000 in
set_option maxRecDepth 100000 in
theorem c_X4_twice {l : Launch} {G : Gx} {q : Nat → Nat} {da : Nat} {qc qh qt qn qs qo : Nat → Nat} {V : VS} {sr : OSt} {ta : Nat → Int32} {sc sh : NSt} {tb : Nat × OSt} {sn : NSt} {ss so : OSt} {x00 : NSt} {a1 : Int32} {x : Int32 × Int32 × NSt} (hr : RH x00 V sr sc) (hf : r_branchRoot sc a1 2 = some x) : QG l G yX4_twice wsX4_twice rmX4_twice 11 1661 [.ref (q 12), .int a1] (wZ G q da qc qh qt qn qs qo V sr ta sc sh tb sn ss so) (fun r w' => r = some (.int x.2.1) ∧ ∃ V' sr', ((x.1 = 0 ∧ V' = V ∧ sr' = sr) ∨ (x.1 = 1 ∧ REM x00 V sr sc V' sr')) ∧ w' = wZ G q da qc qh qt qn qs qo V' sr' ta x.2.2 sh tb sn ss so) := by
  refine QG.of (cc := cX4_twice) (maxL := 2) (ret := (some .int)) (by decide) rfl (Nat.le_of_ble_eq_true rfl) ?_
  intro p e s m below meth c A ls hmn C hD hP hS hl
  have hx := C.1
  have hb := C.2.1
  have hl : lv_has ls 2 [(0, .ref (q 12)), (1, .int a1)] := hl
  refine lv_aload_n hx hb dX4_twice_0 rfl (lv_at hl 0 rfl) ?_
  refine lv_iload_n hx hb dX4_twice_1 rfl (lv_at hl 1 rfl) ?_
  refine lv_iconst (v := 2) hx hb dX4_twice_2 (by decide) ?_
  refine q_VG C (rc := (RX4, TX4, 12)) (q0 := 0) (ci := 4) (wr := []) (c_X4_branchRoot (q := q) (da := da) (qc := qc) (qh := qh) (qt := qt) (qn := qn) (qs := qs) (qo := qo) (ta := ta) (sh := sh) (tb := tb) (sn := sn) (ss := ss) (so := so) hr hf) gX4_twice_X4_branchRoot rfl ⟨rfl, rfl⟩ hdX4_branchRoot ⟨(Nat.le_of_ble_eq_true rfl), (Nat.le_of_ble_eq_true rfl)⟩ rfl hP hD hS rfl rfl (List.Perm.refl _) hl.1 (Nat.le_of_ble_eq_true rfl) ⟨(Nat.le_of_ble_eq_true rfl), (Nat.le_of_ble_eq_true rfl)⟩ rfl dX4_twice_3 (fun r9 w9 H locs hBB hP hD hS => ?_)
  obtain ⟨rfl, V1, sr1, hrm, rfl⟩ := hBB
  exact q_Gi C ⟨rfl, V1, sr1, hrm, rfl⟩ hP hD hS (Nat.le_of_ble_eq_true rfl) (Nat.le_of_ble_eq_true rfl) rfl rfl dX4_twice_6
set_option maxHeartbeats 4000000 in
set_option maxRecDepth 100000 in
theorem c_X4_imageAt {l : Launch} {G : Gx} {q : Nat → Nat} {da : Nat} {qc qh qt qn qs qo : Nat → Nat} {V : VS} {sr : OSt} {ta : Nat → Int32} {sc sh : NSt} {tb : Nat × OSt} {sn : NSt} {ss so : OSt} {a1 : Int32} : QM l G yX4_imageAt wsX4_imageAt rmX4_imageAt [.ref (q 12), .int a1] (wZ G q da qc qh qt qn qs qo V sr ta sc sh tb sn ss so) (wZ G q da qc qh qt qn qs qo V sr ta sc sh tb sn ss so) (some (va_rf (iA V sr a1))) := by
  refine QM.of (cc := cX4_imageAt) (maxL := 2) (ret := some (.object "CombinatorRing$Net")) (by decide) rfl (Nat.le_of_ble_eq_true rfl) ?_
  intro p e s m below meth c A ls C hD hP hS hl
  have hx := C.1
  have hb := C.2.1
  have hl : lv_has ls 2 [(0, .ref (q 12)), (1, .int a1)] := hl
  refine lv_iload_n hx hb dX4_imageAt_0 rfl (lv_at hl 1 rfl) ?_
  refine lv_if_lt (tgt := 27) hx hb dX4_imageAt_1 (by decide) (fun c1 => ?_) (fun c1 => ?_)
  · rw [show va_rf (iA V sr a1) = .null by unfold iA; rw [if_pos c1]; rfl]
    refine lv_null hx hb dX4_imageAt_27 ?_
    exact q_aret C hP hS rfl (Or.inl rfl) dX4_imageAt_28
  · refine lv_iload_n hx hb dX4_imageAt_4 rfl (lv_at hl 1 rfl) ?_
    refine lv_iconst (v := 2) hx hb dX4_imageAt_5 (by decide) ?_
    refine lv_icmp_ge (tgt := 27) hx hb dX4_imageAt_6 (by decide) (fun c2 => ?_) (fun c2 => ?_)
    · rw [show va_rf (iA V sr a1) = .null by unfold iA; rw [if_neg c1, if_pos c2]; rfl]
      refine lv_null hx hb dX4_imageAt_27 ?_
      exact q_aret C hP hS rfl (Or.inl rfl) dX4_imageAt_28
    · obtain ⟨j, hj, rfl⟩ := ge_j c1
      have j2 : j < 2 := by
        have z := c2
        rw [i2, n_le (by omega) hj] at z
        omega
      have ej : (nI j).toNatClampNeg = j := nc_ hj
      refine lv_aload_n hx hb dX4_imageAt_9 rfl (lv_at hl 0 rfl) ?_
      refine q_get (q0 := 0) C hP rfl rfl hiX4_imageAt_X4 8 (by decide) wdX4_imageAt_1 rfl dX4_imageAt_10 ?_
      refine lv_iload_n hx hb dX4_imageAt_13 rfl (lv_at hl 1 rfl) ?_
      refine q_zald C hP (q0 := 2) rfl ej (vp_in_nI j2 (by omega)) dX4_imageAt_14 ?_
      refine lv_if_eq (tgt := 27) hx hb dX4_imageAt_15 (by decide) (fun c3 => ?_) (fun c3 => ?_)
      · rw [show va_rf (iA V sr (nI j)) = .null by unfold iA; rw [if_neg c1, if_neg c2, ej, if_pos c3]; rfl]
        refine lv_null hx hb dX4_imageAt_27 ?_
        exact q_aret C hP hS rfl (Or.inl rfl) dX4_imageAt_28
      · rw [show va_rf (iA V sr (nI j)) = va_rf (imO V j) by unfold iA; rw [if_neg c1, if_neg c2, ej, if_neg c3]]
        refine lv_aload_n hx hb dX4_imageAt_18 rfl (lv_at hl 0 rfl) ?_
        refine q_get (q0 := 0) C hP rfl rfl hiX4_imageAt_X4 7 (by decide) wdX4_imageAt_2 rfl dX4_imageAt_19 ?_
        refine lv_iload_n hx hb dX4_imageAt_22 rfl (lv_at hl 1 rfl) ?_
        refine q_aldq C hP (q0 := 1) rfl ej (vp_in_nI j2 (by omega)) (v := va_rf (imO V j)) rfl dX4_imageAt_23 ?_
        refine lv_goto (tgt := 28) hx hb dX4_imageAt_24 (by decide) ?_
        refine q_aret C hP hS rfl ?_ dX4_imageAt_28
        cases imO V j with
        | none => exact Or.inl rfl
        | some a => exact Or.inr ⟨a, rfl⟩
set_option maxHeartbeats 4000000 in
set_option maxRecDepth 100000 in
theorem c_X4_layBack0 {l : Launch} {G : Gx} {q : Nat → Nat} {da : Nat} {qc qh qt qn qs qo : Nat → Nat} {V : VS} {sr : OSt} {ta : Nat → Int32} {sc sh : NSt} {tb : Nat × OSt} {sn : NSt} {ss so : OSt} {a1 : Int32} (h : iA V sr a1 = none) : QM l G yX4_layBack wsX4_layBack rmX4_layBack [.ref (q 12), .int a1] (wZ G q da qc qh qt qn qs qo V sr ta sc sh tb sn ss so) (wZ G q da qc qh qt qn qs qo V sr ta sc sh tb sn ss so) (some (.int 0)) := by
  refine QM.of (cc := cX4_layBack) (maxL := 3) (ret := (some .boolean)) (by decide) rfl (Nat.le_of_ble_eq_true rfl) ?_
  intro p e s m below meth c A ls C hD hP hS hl
  have hx := C.1
  have hb := C.2.1
  have hl : lv_has ls 3 [(0, .ref (q 12)), (1, .int a1)] := hl
  refine lv_aload_n hx hb dX4_layBack_0 rfl (lv_at hl 0 rfl) ?_
  refine lv_iload_n hx hb dX4_layBack_1 rfl (lv_at hl 1 rfl) ?_
  refine q_V C (rc := (RX4, TX4, 12)) (q0 := 0) (ci := 4) (ws' := wZ G q da qc qh qt qn qs qo V sr ta sc sh tb sn ss so) (wr := []) (c_X4_imageAt (V := V) (q := q)) gX4_layBack_X4_imageAt rfl ⟨rfl, rfl⟩ hdX4_imageAt ⟨(Nat.le_of_ble_eq_true rfl), (Nat.le_of_ble_eq_true rfl)⟩ rfl hP hD hS rfl rfl (List.Perm.refl _) (List.Perm.refl _) hl.1 (Nat.le_of_ble_eq_true rfl) ⟨Nat.zero_le _, Nat.zero_le _⟩ rfl dX4_layBack_2 (fun H locs hP hS => ?_)
  rw [h]
  show W p l e rmX4_layBack s m _ below meth c H locs 0 0 _ (F0 m 5 ls [.null])
  refine lv_astore_nN (lv' := [(2, .null), (0, .ref (q 12)), (1, .int a1)]) hx hb dX4_layBack_5 rfl hl (by decide) rfl (fun ls hl => ?_)
  refine lv_aload_nN hx hb dX4_layBack_6 rfl (lv_at hl 0 rfl) ?_
  refine lv_ifnonnullN hx hb dX4_layBack_7 ?_
  refine lv_iconst (v := 0) hx hb dX4_layBack_10 (by decide) ?_
  exact q_zret C hP hS rfl (gb_nar (Or.inl rfl)) dX4_layBack_11
set_option maxHeartbeats 4000000 in
set_option maxRecDepth 100000 in
theorem c_X4_layBack1 {l : Launch} {G : Gx} {q : Nat → Nat} {da : Nat} {qc qh qt qn qs qo : Nat → Nat} {V : VS} {sr : OSt} {ta : Nat → Int32} {sc sh : NSt} {tb : Nat × OSt} {sn : NSt} {ss so : OSt} {a1 : Int32} {i : Nat} {q' : Nat → Nat} {s' x : NSt} (hi : i < 14) (h : iA V sr a1 = some (q' 15)) (hv : V i = some (q', s')) (hbe : n_become sc s' = some x) : QM l G yX4_layBack wsX4_layBack rmX4_layBack [.ref (q 12), .int a1] (wZ G q da qc qh qt qn qs qo V sr ta sc sh tb sn ss so) (wZ G q da qc qh qt qn qs qo V (sI (sI sr 10 0) 11 0) ta x sh tb sn ss so) (some (.int 1)) := by
  refine QM.of (cc := cX4_layBack) (maxL := 3) (ret := (some .boolean)) (by decide) rfl (Nat.le_of_ble_eq_true rfl) ?_
  intro p e s m below meth c A ls C hD hP hS hl
  have hx := C.1
  have hb := C.2.1
  have hl : lv_has ls 3 [(0, .ref (q 12)), (1, .int a1)] := hl
  refine lv_aload_n hx hb dX4_layBack_0 rfl (lv_at hl 0 rfl) ?_
  refine lv_iload_n hx hb dX4_layBack_1 rfl (lv_at hl 1 rfl) ?_
  refine q_V C (rc := (RX4, TX4, 12)) (q0 := 0) (ci := 4) (ws' := wZ G q da qc qh qt qn qs qo V sr ta sc sh tb sn ss so) (wr := []) (c_X4_imageAt (V := V) (q := q)) gX4_layBack_X4_imageAt rfl ⟨rfl, rfl⟩ hdX4_imageAt ⟨(Nat.le_of_ble_eq_true rfl), (Nat.le_of_ble_eq_true rfl)⟩ rfl hP hD hS rfl rfl (List.Perm.refl _) (List.Perm.refl _) hl.1 (Nat.le_of_ble_eq_true rfl) ⟨Nat.zero_le _, Nat.zero_le _⟩ rfl dX4_layBack_2 (fun H locs hP hS => ?_)
  rw [h]
  show W p l e rmX4_layBack s m _ below meth c H locs 0 0 _ (F0 m 5 ls [.ref (q' 15)])
  refine lv_astore_n (lv' := [(2, .ref (q' 15)), (0, .ref (q 12)), (1, .int a1)]) hx hb dX4_layBack_5 rfl hl (by decide) rfl (fun ls hl => ?_)
  refine lv_aload_n hx hb dX4_layBack_6 rfl (lv_at hl 0 rfl) ?_
  refine lv_ifnonnull (tgt := 12) hx hb dX4_layBack_7 (by decide) ?_
  refine lv_aload_n hx hb dX4_layBack_12 rfl (lv_at hl 1 rfl) ?_
  refine q_get (q0 := 0) C hP rfl rfl hiX4_layBack_X4 2 (by decide) wdX4_layBack_1 rfl dX4_layBack_13 ?_
  refine lv_aload_n hx hb dX4_layBack_16 rfl (lv_at hl 0 rfl) ?_
  refine q_Vv C (rc := (RX0, TX0, 15)) (q0 := 15) (ci := 0) (ws' := wR G q da qc qh qt qs qo (imO V) (paO V) sr ++ (wN G q' s' ++ (wN G qc x ++ wX G da qh qt qn qs qo ta sh tb sn ss so (wV G (vup V i none) 14)))) (c_X0_become (qn := qc) (qn2 := q') hbe) gX4_layBack_X0_become rfl ⟨rfl, rfl⟩ hdX0_become ⟨(Nat.le_of_ble_eq_true rfl), (Nat.le_of_ble_eq_true rfl)⟩ rfl (hP.perm (wZ_out (G := G) (q := q) (da := da) (qc := qc) (qh := qh) (qt := qt) (qn := qn) (qs := qs) (qo := qo) (sr := sr) (ta := ta) (sc := sc) (sh := sh) (tb := tb) (sn := sn) (ss := ss) (so := so) hi hv)) (hD.perm (wZ_out (G := G) (q := q) (da := da) (qc := qc) (qh := qh) (qt := qt) (qn := qn) (qs := qs) (qo := qo) (sr := sr) (ta := ta) (sc := sc) (sh := sh) (tb := tb) (sn := sn) (ss := ss) (so := so) hi hv)) hS rfl rfl pm_bec2 pm_bec2.symm hl.1 (Nat.le_of_ble_eq_true rfl) ⟨Nat.zero_le _, Nat.zero_le _⟩ rfl dX4_layBack_17 (fun H locs hP hS => ?_)
  have hP := hP.perm (wZ_out (G := G) (q := q) (da := da) (qc := qc) (qh := qh) (qt := qt) (qn := qn) (qs := qs) (qo := qo) (sr := sr) (ta := ta) (sc := x) (sh := sh) (tb := tb) (sn := sn) (ss := ss) (so := so) hi hv).symm
  have hD : va_D A (wZ G q da qc qh qt qn qs qo V sr ta x sh tb sn ss so) := hD.ad rfl
  refine lv_aload_n hx hb dX4_layBack_20 rfl (lv_at hl 1 rfl) ?_
  refine q_Vv C (rc := (RX4, TX4, 12)) (q0 := 0) (ci := 4) (ws' := wZ G q da qc qh qt qn qs qo V (sI (sI sr 10 0) 11 0) ta x sh tb sn ss so) (wr := []) (c_X4_forgetPast (q := q) (da := da) (qc := qc) (qh := qh) (qt := qt) (qn := qn) (qs := qs) (qo := qo) (im := imO V) (pa := paO V) (yy := wV G V 14) (ta := ta) (sc := x) (sh := sh) (tb := tb) (sn := sn) (ss := ss) (so := so) (x := (sI (sI sr 10 0) 11 0)) rfl) gX4_layBack_X4_forgetPast rfl ⟨rfl, rfl⟩ hdX4_forgetPast ⟨(Nat.le_of_ble_eq_true rfl), (Nat.le_of_ble_eq_true rfl)⟩ rfl hP hD hS rfl rfl (List.Perm.refl _) (List.Perm.refl _) hl.1 (Nat.le_of_ble_eq_true rfl) ⟨Nat.zero_le _, Nat.zero_le _⟩ rfl dX4_layBack_21 (fun H locs hP hS => ?_)
  refine lv_iconst (v := 1) hx hb dX4_layBack_24 (by decide) ?_
  exact q_zret C hP hS rfl (gb_nar (Or.inr rfl)) dX4_layBack_25
set_option maxHeartbeats 4000000 in
set_option maxRecDepth 100000 in
theorem c_X4_likeImage0 {l : Launch} {G : Gx} {q : Nat → Nat} {da : Nat} {qc qh qt qn qs qo : Nat → Nat} {V : VS} {sr : OSt} {ta : Nat → Int32} {sc sh : NSt} {tb : Nat × OSt} {sn : NSt} {ss so : OSt} {a1 : Int32} (h : iA V sr a1 = none) : QM l G yX4_likeImage wsX4_likeImage rmX4_likeImage [.ref (q 12), .int a1] (wZ G q da qc qh qt qn qs qo V sr ta sc sh tb sn ss so) (wZ G q da qc qh qt qn qs qo V sr ta sc sh tb sn ss so) (some (.int (-1))) := by
  refine QM.of (cc := cX4_likeImage) (maxL := 3) (ret := (some .int)) (by decide) rfl (Nat.le_of_ble_eq_true rfl) ?_
  intro p e s m below meth c A ls C hD hP hS hl
  have hx := C.1
  have hb := C.2.1
  have hl : lv_has ls 3 [(0, .ref (q 12)), (1, .int a1)] := hl
  refine lv_aload_n hx hb dX4_likeImage_0 rfl (lv_at hl 0 rfl) ?_
  refine lv_iload_n hx hb dX4_likeImage_1 rfl (lv_at hl 1 rfl) ?_
  refine q_V C (rc := (RX4, TX4, 12)) (q0 := 0) (ci := 4) (ws' := wZ G q da qc qh qt qn qs qo V sr ta sc sh tb sn ss so) (wr := []) (c_X4_imageAt (V := V) (q := q)) gX4_likeImage_X4_imageAt rfl ⟨rfl, rfl⟩ hdX4_imageAt ⟨(Nat.le_of_ble_eq_true rfl), (Nat.le_of_ble_eq_true rfl)⟩ rfl hP hD hS rfl rfl (List.Perm.refl _) (List.Perm.refl _) hl.1 (Nat.le_of_ble_eq_true rfl) ⟨Nat.zero_le _, Nat.zero_le _⟩ rfl dX4_likeImage_2 (fun H locs hP hS => ?_)
  rw [h]
  show W p l e rmX4_likeImage s m _ below meth c H locs 0 0 _ (F0 m 5 ls [.null])
  refine lv_astore_nN (lv' := [(2, .null), (0, .ref (q 12)), (1, .int a1)]) hx hb dX4_likeImage_5 rfl hl (by decide) rfl (fun ls hl => ?_)
  refine lv_aload_nN hx hb dX4_likeImage_6 rfl (lv_at hl 0 rfl) ?_
  refine lv_ifnonnullN hx hb dX4_likeImage_7 ?_
  refine lv_iconst (v := (-1)) hx hb dX4_likeImage_10 (by decide) ?_
  exact q_iret C hP hS rfl dX4_likeImage_11
set_option maxHeartbeats 4000000 in
set_option maxRecDepth 100000 in
theorem c_X4_likeImage1 {l : Launch} {G : Gx} {q : Nat → Nat} {da : Nat} {qc qh qt qn qs qo : Nat → Nat} {V : VS} {sr : OSt} {ta : Nat → Int32} {sc sh : NSt} {tb : Nat × OSt} {sn : NSt} {ss so : OSt} {a1 : Int32} {i : Nat} {q' : Nat → Nat} {s' : NSt} {s1 s2 : OSt} {b : Int32} (hi : i < 14) (h : iA V sr a1 = some (q' 15)) (hv : V i = some (q', s')) (hl1 : g_look ss sc = some s1) (hl2 : g_look so s' = some s2) (hk : g_isLike s1 s2 = some b) : QM l G yX4_likeImage wsX4_likeImage rmX4_likeImage [.ref (q 12), .int a1] (wZ G q da qc qh qt qn qs qo V sr ta sc sh tb sn ss so) (wZ G q da qc qh qt qn qs qo V sr ta sc sh tb sn s1 s2) (some (.int (if b = 0 then 0 else 1))) := by
  refine QM.of (cc := cX4_likeImage) (maxL := 3) (ret := (some .int)) (by decide) rfl (Nat.le_of_ble_eq_true rfl) ?_
  intro p e s m below meth c A ls C hD hP hS hl
  have hx := C.1
  have hb := C.2.1
  have hl : lv_has ls 3 [(0, .ref (q 12)), (1, .int a1)] := hl
  refine lv_aload_n hx hb dX4_likeImage_0 rfl (lv_at hl 0 rfl) ?_
  refine lv_iload_n hx hb dX4_likeImage_1 rfl (lv_at hl 1 rfl) ?_
  refine q_V C (rc := (RX4, TX4, 12)) (q0 := 0) (ci := 4) (ws' := wZ G q da qc qh qt qn qs qo V sr ta sc sh tb sn ss so) (wr := []) (c_X4_imageAt (V := V) (q := q)) gX4_likeImage_X4_imageAt rfl ⟨rfl, rfl⟩ hdX4_imageAt ⟨(Nat.le_of_ble_eq_true rfl), (Nat.le_of_ble_eq_true rfl)⟩ rfl hP hD hS rfl rfl (List.Perm.refl _) (List.Perm.refl _) hl.1 (Nat.le_of_ble_eq_true rfl) ⟨Nat.zero_le _, Nat.zero_le _⟩ rfl dX4_likeImage_2 (fun H locs hP hS => ?_)
  rw [h]
  show W p l e rmX4_likeImage s m _ below meth c H locs 0 0 _ (F0 m 5 ls [.ref (q' 15)])
  refine lv_astore_n (lv' := [(2, .ref (q' 15)), (0, .ref (q 12)), (1, .int a1)]) hx hb dX4_likeImage_5 rfl hl (by decide) rfl (fun ls hl => ?_)
  refine lv_aload_n hx hb dX4_likeImage_6 rfl (lv_at hl 0 rfl) ?_
  refine lv_ifnonnull (tgt := 12) hx hb dX4_likeImage_7 (by decide) ?_
  refine lv_aload_n hx hb dX4_likeImage_12 rfl (lv_at hl 1 rfl) ?_
  refine q_get (q0 := 0) C hP rfl rfl hiX4_likeImage_X4 5 (by decide) wdX4_likeImage_1 rfl dX4_likeImage_13 ?_
  refine lv_aload_n hx hb dX4_likeImage_16 rfl (lv_at hl 1 rfl) ?_
  refine q_get (q0 := 0) C hP rfl rfl hiX4_likeImage_X4 2 (by decide) wdX4_likeImage_2 rfl dX4_likeImage_17 ?_
  refine q_Vv C (rc := (RX2, TX2, 8)) (q0 := 43) (ci := 2) (ws' := wZ G q da qc qh qt qn qs qo V sr ta sc sh tb sn s1 so) (c_X2_look (qs := qs) (qn := qc) hl1) gX4_likeImage_X2_look rfl ⟨rfl, rfl⟩ hdX2_look ⟨(Nat.le_of_ble_eq_true rfl), (Nat.le_of_ble_eq_true rfl)⟩ rfl hP hD hS rfl rfl pr_62 pr_62.symm hl.1 (Nat.le_of_ble_eq_true rfl) ⟨Nat.zero_le _, Nat.zero_le _⟩ rfl dX4_likeImage_20 (fun H locs hP hS => ?_)
  have hD : va_D A (wZ G q da qc qh qt qn qs qo V sr ta sc sh tb sn s1 so) := hD.ad rfl
  refine lv_aload_n hx hb dX4_likeImage_23 rfl (lv_at hl 1 rfl) ?_
  refine q_get (q0 := 0) C hP rfl rfl hiX4_likeImage_X4 6 (by decide) wdX4_likeImage_3 rfl dX4_likeImage_24 ?_
  refine lv_aload_n hx hb dX4_likeImage_27 rfl (lv_at hl 0 rfl) ?_
  refine q_Vv C (rc := (RX2, TX2, 8)) (q0 := 60) (ci := 2) (ws' := wR G q da qc qh qt qs qo (imO V) (paO V) sr ++ (wN G q' s' ++ (wN G qc sc ++ wX G da qh qt qn qs qo ta sh tb sn s1 s2 (wV G (vup V i none) 14)))) (c_X2_look (qs := qo) (qn := q') hl2) gX4_likeImage_X2_look rfl ⟨rfl, rfl⟩ hdX2_look ⟨(Nat.le_of_ble_eq_true rfl), (Nat.le_of_ble_eq_true rfl)⟩ rfl (hP.perm (wZ_out (G := G) (q := q) (da := da) (qc := qc) (qh := qh) (qt := qt) (qn := qn) (qs := qs) (qo := qo) (sr := sr) (ta := ta) (sc := sc) (sh := sh) (tb := tb) (sn := sn) (ss := s1) (so := so) hi hv)) (hD.perm (wZ_out (G := G) (q := q) (da := da) (qc := qc) (qh := qh) (qt := qt) (qn := qn) (qs := qs) (qo := qo) (sr := sr) (ta := ta) (sc := sc) (sh := sh) (tb := tb) (sn := sn) (ss := s1) (so := so) hi hv)) hS rfl rfl pm_on pm_on.symm hl.1 (Nat.le_of_ble_eq_true rfl) ⟨Nat.zero_le _, Nat.zero_le _⟩ rfl dX4_likeImage_28 (fun H locs hP hS => ?_)
  have hP := hP.perm (wZ_out (G := G) (q := q) (da := da) (qc := qc) (qh := qh) (qt := qt) (qn := qn) (qs := qs) (qo := qo) (sr := sr) (ta := ta) (sc := sc) (sh := sh) (tb := tb) (sn := sn) (ss := s1) (so := s2) hi hv).symm
  have hD : va_D A (wZ G q da qc qh qt qn qs qo V sr ta sc sh tb sn s1 s2) := hD.ad rfl
  refine lv_aload_n hx hb dX4_likeImage_31 rfl (lv_at hl 1 rfl) ?_
  refine q_get (q0 := 0) C hP rfl rfl hiX4_likeImage_X4 5 (by decide) wdX4_likeImage_1 rfl dX4_likeImage_32 ?_
  refine lv_aload_n hx hb dX4_likeImage_35 rfl (lv_at hl 1 rfl) ?_
  refine q_get (q0 := 0) C hP rfl rfl hiX4_likeImage_X4 6 (by decide) wdX4_likeImage_3 rfl dX4_likeImage_36 ?_
  refine q_Vi C (rc := (RX2, TX2, 8)) (q0 := 43) (ci := 2) (ws' := wZ G q da qc qh qt qn qs qo V sr ta sc sh tb sn s1 s2) (c_X2_isLike (qs := qs) (qs2 := qo) hk) gX4_likeImage_X2_isLike rfl ⟨rfl, rfl⟩ hdX2_isLike ⟨(Nat.le_of_ble_eq_true rfl), (Nat.le_of_ble_eq_true rfl)⟩ rfl hP hD hS rfl rfl pr_67 pr_67.symm hl.1 (Nat.le_of_ble_eq_true rfl) ⟨Nat.zero_le _, Nat.zero_le _⟩ rfl dX4_likeImage_39 (fun H locs hP hS => ?_)
  refine lv_if_eq (tgt := 49) hx hb dX4_likeImage_42 (by decide) (fun c1 => ?_) (fun c1 => ?_)
  · rw [if_pos c1]
    refine lv_iconst (v := 0) hx hb dX4_likeImage_49 (by decide) ?_
    exact q_iret C hP hS rfl dX4_likeImage_50
  · rw [if_neg c1]
    refine lv_iconst (v := 1) hx hb dX4_likeImage_45 (by decide) ?_
    refine lv_goto (tgt := 50) hx hb dX4_likeImage_46 (by decide) ?_
    exact q_iret C hP hS rfl dX4_likeImage_50
set_option maxHeartbeats 4000000 in
set_option maxRecDepth 100000 in
theorem c_X4_undo0 {l : Launch} {G : Gx} {q : Nat → Nat} {da : Nat} {qc qh qt qn qs qo : Nat → Nat} {V : VS} {sr : OSt} {ta : Nat → Int32} {sc sh : NSt} {tb : Nat × OSt} {sn : NSt} {ss so : OSt} (h : sr.1 11 = 0) : QM l G yX4_undo wsX4_undo rmX4_undo [.ref (q 12)] (wZ G q da qc qh qt qn qs qo V sr ta sc sh tb sn ss so) (wZ G q da qc qh qt qn qs qo V sr ta sc sh tb sn ss so) (some (.int (-1))) := by
  refine QM.of (cc := cX4_undo) (maxL := 2) (ret := (some .int)) (by decide) rfl (Nat.le_of_ble_eq_true rfl) ?_
  intro p e s m below meth c A ls C hD hP hS hl
  have hx := C.1
  have hb := C.2.1
  have hl : lv_has ls 2 [(0, .ref (q 12))] := hl
  refine lv_aload_n hx hb dX4_undo_0 rfl (lv_at hl 0 rfl) ?_
  refine q_get (q0 := 0) C hP rfl rfl hiX4_undo_X4 11 (by decide) wdX4_undo_1 rfl dX4_undo_1 ?_
  refine lv_if_ne (tgt := 9) hx hb dX4_undo_4 (by decide) (fun c1 => absurd h c1) (fun c1 => ?_)
  refine lv_iconst (v := (-1)) hx hb dX4_undo_7 (by decide) ?_
  exact q_iret C hP hS rfl dX4_undo_8
set_option maxHeartbeats 4000000 in
set_option maxRecDepth 100000 in
theorem c_X4_undo1 {l : Launch} {G : Gx} {q : Nat → Nat} {da : Nat} {qc qh qt qn qs qo : Nat → Nat} {V : VS} {sr : OSt} {ta : Nat → Int32} {sc sh : NSt} {tb : Nat × OSt} {sn : NSt} {ss so : OSt} {f k : Nat} {q' : Nat → Nat} {s' x : NSt} (h10 : sr.1 10 = nI f) (h11 : sr.1 11 = nI (k + 1)) (hf : f < 12) (hk : k < 12) (hv : V ((f + k) % 12 + 2) = some (q', s')) (hbe : n_become sc s' = some x) : QM l G yX4_undo wsX4_undo rmX4_undo [.ref (q 12)] (wZ G q da qc qh qt qn qs qo V sr ta sc sh tb sn ss so) (wZ G q da qc qh qt qn qs qo V (sI sr 11 (nI k)) ta x sh tb sn ss so) (some (.int (nI k))) := by
  refine QM.of (cc := cX4_undo) (maxL := 2) (ret := (some .int)) (by decide) rfl (Nat.le_of_ble_eq_true rfl) ?_
  intro p e s m below meth c A ls C hD hP hS hl
  have hx := C.1
  have hb := C.2.1
  have hl : lv_has ls 2 [(0, .ref (q 12))] := hl
  obtain ⟨j, hj⟩ : ∃ j, j = (f + k) % 12 := ⟨_, rfl⟩
  rw [← hj] at hv
  have j12 : j < 12 := by omega
  have hi : j + 2 < 14 := by omega
  refine lv_aload_n hx hb dX4_undo_0 rfl (lv_at hl 0 rfl) ?_
  refine q_get (q0 := 0) C hP rfl rfl hiX4_undo_X4 11 (by decide) wdX4_undo_1 rfl dX4_undo_1 ?_
  refine lv_tI h11 ?_
  refine lv_if_ne (tgt := 9) hx hb dX4_undo_4 (by decide) (fun c1 => ?_) (fun c1 => absurd c1 (nI_ne0 (by omega) (by omega)))
  refine lv_aload_n hx hb dX4_undo_9 rfl (lv_at hl 0 rfl) ?_
  refine lv_dup hx hb dX4_undo_10 rfl ?_
  refine q_get (q0 := 0) C hP rfl rfl hiX4_undo_X4 11 (by decide) wdX4_undo_1 rfl dX4_undo_11 ?_
  refine lv_tI h11 ?_
  refine lv_iconst (v := 1) hx hb dX4_undo_14 (by decide) ?_
  refine lv_isub hx hb dX4_undo_15 ?_
  refine lv_tI (show nI (k + 1) - 1 = nI k by rw [i1, n_sub (by omega)]; rfl) ?_
  refine q_put C hP hD hS (q0 := 0) rfl rfl hiX4_undo_X4 tyX4_ok nmX4 11 (by decide) wdX4_undo_1 rfl rfl rfl (Nat.le_of_ble_eq_true rfl) rfl dX4_undo_16 (fun H locs hP hS => ?_)
  have hP : va_P G.1 vwCl (wZ G q da qc qh qt qn qs qo V (sI sr 11 (nI k)) ta sc sh tb sn ss so) H := hP
  have hD : va_D A (wZ G q da qc qh qt qn qs qo V (sI sr 11 (nI k)) ta sc sh tb sn ss so) := hD.ad rfl
  refine lv_aload_n hx hb dX4_undo_19 rfl (lv_at hl 0 rfl) ?_
  refine q_get (q0 := 0) C hP rfl rfl hiX4_undo_X4 9 (by decide) wdX4_undo_2 rfl dX4_undo_20 ?_
  refine lv_aload_n hx hb dX4_undo_23 rfl (lv_at hl 0 rfl) ?_
  refine q_get (q0 := 0) C hP rfl rfl hiX4_undo_X4 10 (by decide) wdX4_undo_3 rfl dX4_undo_24 ?_
  refine lv_tI (y := nI f) h10 ?_
  refine lv_aload_n hx hb dX4_undo_27 rfl (lv_at hl 0 rfl) ?_
  refine q_get (q0 := 0) C hP rfl rfl hiX4_undo_X4 11 (by decide) wdX4_undo_1 rfl dX4_undo_28 ?_
  refine lv_tI (y := nI k) rfl ?_
  refine lv_iadd hx hb dX4_undo_31 ?_
  refine lv_tI (nI_add f k) ?_
  refine lv_bipush (v := 12) hx hb dX4_undo_32 (by decide) ?_
  refine lv_irem hx hb dX4_undo_34 (by decide) ?_
  refine lv_tI (show nI (f + k) - nI (f + k) / 12 * 12 = nI j by rw [i12, n_div (by omega) (by omega) (by omega), pk_mul, n_sub (by omega), sub_dm, hj]) ?_
  refine q_aldq C hP (q0 := 3) rfl (nc_ (by omega)) (vp_in_nI j12 (by omega)) (v := .ref (q' 15)) (by rw [paO_at j12]; unfold vO; rw [hv]; rfl) dX4_undo_35 ?_
  refine lv_astore_n (lv' := [(1, .ref (q' 15)), (0, .ref (q 12))]) hx hb dX4_undo_36 rfl hl (by decide) rfl (fun ls hl => ?_)
  refine lv_aload_n hx hb dX4_undo_37 rfl (lv_at hl 0 rfl) ?_
  refine lv_ifnull hx hb dX4_undo_38 ?_
  refine lv_aload_n hx hb dX4_undo_41 rfl (lv_at hl 1 rfl) ?_
  refine q_get (q0 := 0) C hP rfl rfl hiX4_undo_X4 2 (by decide) wdX4_undo_4 rfl dX4_undo_42 ?_
  refine lv_aload_n hx hb dX4_undo_45 rfl (lv_at hl 0 rfl) ?_
  refine q_Vv C (rc := (RX0, TX0, 15)) (q0 := 15) (ci := 0) (ws' := wR G q da qc qh qt qs qo (imO V) (paO V) (sI sr 11 (nI k)) ++ (wN G q' s' ++ (wN G qc x ++ wX G da qh qt qn qs qo ta sh tb sn ss so (wV G (vup V (j + 2) none) 14)))) (c_X0_become (qn := qc) (qn2 := q') hbe) gX4_undo_X0_become rfl ⟨rfl, rfl⟩ hdX0_become ⟨(Nat.le_of_ble_eq_true rfl), (Nat.le_of_ble_eq_true rfl)⟩ rfl (hP.perm (wZ_out (G := G) (q := q) (da := da) (qc := qc) (qh := qh) (qt := qt) (qn := qn) (qs := qs) (qo := qo) (sr := (sI sr 11 (nI k))) (ta := ta) (sc := sc) (sh := sh) (tb := tb) (sn := sn) (ss := ss) (so := so) hi hv)) (hD.perm (wZ_out (G := G) (q := q) (da := da) (qc := qc) (qh := qh) (qt := qt) (qn := qn) (qs := qs) (qo := qo) (sr := (sI sr 11 (nI k))) (ta := ta) (sc := sc) (sh := sh) (tb := tb) (sn := sn) (ss := ss) (so := so) hi hv)) hS rfl rfl pm_bec2 pm_bec2.symm hl.1 (Nat.le_of_ble_eq_true rfl) ⟨Nat.zero_le _, Nat.zero_le _⟩ rfl dX4_undo_46 (fun H locs hP hS => ?_)
  have hP := hP.perm (wZ_out (G := G) (q := q) (da := da) (qc := qc) (qh := qh) (qt := qt) (qn := qn) (qs := qs) (qo := qo) (sr := (sI sr 11 (nI k))) (ta := ta) (sc := x) (sh := sh) (tb := tb) (sn := sn) (ss := ss) (so := so) hi hv).symm
  refine lv_aload_n hx hb dX4_undo_49 rfl (lv_at hl 1 rfl) ?_
  refine q_get (q0 := 0) C hP rfl rfl hiX4_undo_X4 11 (by decide) wdX4_undo_1 rfl dX4_undo_50 ?_
  exact q_iret C hP hS rfl dX4_undo_53
