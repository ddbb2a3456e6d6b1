/-! the law's own number and list: who catches -/
theorem vp01 : vp_in (0 : Int32) 1 := by
  unfold vp_in
  decide
abbrev rmL_number : Room := { frames := 10, cells := 1, slots := 6, locals := 300 }
theorem hdL_number : yL_number.cls ≠ "java/lang/invoke/MethodHandle" ∧ yL_number.cls ≠ "java/lang/invoke/VarHandle" ∧ (parseMethodDescriptor yL_number.desc).map (fun d => d.parameters.length) = some 3 := by decide +kernel
theorem wdL_number_1 : (Cond.classLink RL 13 "java/util/NoSuchElementException") ∈ wsL_numberN := List.mem_of_getElem? (i := 1) rfl
set_option maxHeartbeats 4000000 in
set_option maxRecDepth 100000 in
theorem c_L_number {l : Launch} {G : Gx} {q : Nat → Nat} {da : Nat} {qc qh qt qn qs qo : Nat → Nat} {V : VS} {sr : OSt} {ta : Nat → Int32} {sc sh : NSt} {tb : Nat × OSt} {sn : NSt} {ss so : OSt} {a1 : Int32} {oa : Nat} {f f' : Nat → Int64} {z : Int32} (hfl : l.stackTraces = false) (h : (n_hasRoot sc a1 = some 0 ∧ z = 1 ∧ f' = f) ∨ (n_hasRoot sc a1 = some 1 ∧ ∃ x : Int32, n_numberAt sc (1000 + a1) = some x ∧ z = 0 ∧ f' = vp_updL f 0 x.toInt64)) : QG l G yL_number wsL_numberN rmL_number 1 6 [.ref (q 12), .int a1, .ref oa] (wL G oa 1 f ++ wZ G q da qc qh qt qn qs qo V sr ta sc sh tb sn ss so) (fun r w' => r = some (.int z) ∧ w' = wL G oa 1 f' ++ wZ G q da qc qh qt qn qs qo V sr ta sc sh tb sn ss so) := by
  refine QG.ofH (cc := cL_number) (maxL := 4) (ret := (some .int)) (hh := [(0, 9, 12, 13)]) (by decide) rfl (Nat.le_of_ble_eq_true rfl) ?_
  intro p e s m below meth c A ls ht C hD hP hS hl
  have hx := C.1
  have hb := C.2.1
  have hl : lv_has ls 4 [(0, .ref (q 12)), (1, .int a1), (2, .ref oa)] := hl
  refine lv_aload_n hx hb dL_number_0 rfl (lv_at hl 2 rfl) ?_
  refine lv_iconst (v := 0) hx hb dL_number_1 (by decide) ?_
  refine lv_aload_n hx hb dL_number_2 rfl (lv_at hl 0 rfl) ?_
  refine lv_iload_n hx hb dL_number_3 rfl (lv_at hl 1 rfl) ?_
  rcases h with ⟨hr, rfl, rfl⟩ | ⟨hr, x, hf, rfl, rfl⟩
  · refine q_VX C (rc := (RX4, TX4, 12)) (q0 := 1) (ci := 4) (wr := wL G oa 1 f') (wc := wZ G q da qc qh qt qn qs qo V sr ta sc sh tb sn ss so) (c_X4_number0 hfl hr) gL_number_X4_number rfl ⟨rfl, rfl⟩ hdX4_number ⟨(Nat.le_of_ble_eq_true rfl), (Nat.le_of_ble_eq_true rfl)⟩ rfl hP hD hS rfl rfl (List.Perm.refl _) hl.1 (Nat.le_of_ble_eq_true rfl) ⟨(Nat.le_of_ble_eq_true rfl), (Nat.le_of_ble_eq_true rfl)⟩ rfl dL_number_4 (fun ce q9 H locs hP hS hce hv9 hcl => ?_)
    have hD : va_D A (wL G oa 1 f' ++ wZ G q da qc qh qt qn qs qo V sr ta sc sh tb sn ss so) := hD
    refine vx_catch (own := RL) (name := "java/util/NoSuchElementException") C.2.2.2.1 [] ⟨0, 9, 12, 13⟩ [] (by rw [ht]; rfl) (fun z hz => nomatch hz) (by decide) (by decide) (C.2.2.2.2.1 _ wdL_number_1) (cast_self hcl) hce hv9 hcl ?_
    refine lv_astore_n (lv' := [(3, .ref q9), (0, .ref (q 12)), (1, .int a1), (2, .ref oa)]) hx hb dL_number_12 rfl hl (by decide) rfl (fun ls hl => ?_)
    refine lv_iconst (v := 1) hx hb dL_number_13 (by decide) ?_
    exact q_Gi C ⟨rfl, rfl⟩ hP hD hS (Nat.le_of_ble_eq_true rfl) (Nat.le_of_ble_eq_true rfl) rfl rfl dL_number_14
  · refine q_Vi C (rc := (RX4, TX4, 12)) (q0 := 1) (ci := 4) (ws' := wL G oa 1 f ++ wZ G q da qc qh qt qn qs qo V sr ta sc sh tb sn ss so) (wr := wL G oa 1 f) (wc := wZ G q da qc qh qt qn qs qo V sr ta sc sh tb sn ss so) (wc' := wZ G q da qc qh qt qn qs qo V sr ta sc sh tb sn ss so) (c_X4_number1 hr hf) gL_number_X4_number rfl ⟨rfl, rfl⟩ hdX4_number ⟨(Nat.le_of_ble_eq_true rfl), (Nat.le_of_ble_eq_true rfl)⟩ rfl hP hD hS rfl rfl (List.Perm.refl _) (List.Perm.refl _) hl.1 (Nat.le_of_ble_eq_true rfl) ⟨Nat.zero_le _, Nat.zero_le _⟩ rfl dL_number_4 (fun H locs hP hS => ?_)
    refine lv_i2l hx hb dL_number_7 rfl ?_
    refine q_last C hP hD hS (q0 := 0) rfl (j := 0) (by decide) rfl vp01 dL_number_8 (fun H locs hP hS => ?_)
    have hP : va_P G.1 vwCl (wL G oa 1 (vp_updL f 0 x.toInt64) ++ wZ G q da qc qh qt qn qs qo V sr ta sc sh tb sn ss so) H := hP
    have hD : va_D A (wL G oa 1 (vp_updL f 0 x.toInt64) ++ wZ G q da qc qh qt qn qs qo V sr ta sc sh tb sn ss so) := hD.ad rfl
    refine lv_goto (tgt := 15) hx hb dL_number_9 (by decide) ?_
    refine lv_iconst (v := 0) hx hb dL_number_15 (by decide) ?_
    exact q_Gi C ⟨rfl, rfl⟩ hP hD hS (Nat.le_of_ble_eq_true rfl) (Nat.le_of_ble_eq_true rfl) rfl rfl dL_number_16
theorem hdL_list : yL_list.cls ≠ "java/lang/invoke/MethodHandle" ∧ yL_list.cls ≠ "java/lang/invoke/VarHandle" ∧ (parseMethodDescriptor yL_list.desc).map (fun d => d.parameters.length) = some 4 := by decide +kernel
theorem wdL_list_1 : (Cond.classLink RL 13 "java/util/NoSuchElementException") ∈ wsL_listN := List.mem_of_getElem? (i := 1) rfl
set_option maxHeartbeats 4000000 in
set_option maxRecDepth 100000 in
theorem c_L_list {l : Launch} {G : Gx} {q : Nat → Nat} {da : Nat} {qc qh qt qn qs qo : Nat → Nat} {V : VS} {sr : OSt} {ta : Nat → Int32} {sc sh : NSt} {tb : Nat × OSt} {sn : NSt} {ss so : OSt} {a1 : Int32} {a2 : Int32} {oa : Nat} {f f' : Nat → Int64} {z : Int32} (hfl : l.stackTraces = false) (h : (n_hasRoot sc a1 = some 0 ∧ z = 1 ∧ f' = f) ∨ (n_hasRoot sc a1 = some 1 ∧ ∃ x : Int32, n_listAt sc (1000 + a1) a2 = some x ∧ z = 0 ∧ f' = vp_updL f 0 x.toInt64)) : QG l G yL_list wsL_listN rmL_number 1 6 [.ref (q 12), .int a1, .int a2, .ref oa] (wL G oa 1 f ++ wZ G q da qc qh qt qn qs qo V sr ta sc sh tb sn ss so) (fun r w' => r = some (.int z) ∧ w' = wL G oa 1 f' ++ wZ G q da qc qh qt qn qs qo V sr ta sc sh tb sn ss so) := by
  refine QG.ofH (cc := cL_list) (maxL := 5) (ret := (some .int)) (hh := [(0, 10, 13, 13)]) (by decide) rfl (Nat.le_of_ble_eq_true rfl) ?_
  intro p e s m below meth c A ls ht C hD hP hS hl
  have hx := C.1
  have hb := C.2.1
  have hl : lv_has ls 5 [(0, .ref (q 12)), (1, .int a1), (2, .int a2), (3, .ref oa)] := hl
  refine lv_aload_n hx hb dL_list_0 rfl (lv_at hl 3 rfl) ?_
  refine lv_iconst (v := 0) hx hb dL_list_1 (by decide) ?_
  refine lv_aload_n hx hb dL_list_2 rfl (lv_at hl 0 rfl) ?_
  refine lv_iload_n hx hb dL_list_3 rfl (lv_at hl 1 rfl) ?_
  refine lv_iload_n hx hb dL_list_4 rfl (lv_at hl 2 rfl) ?_
  rcases h with ⟨hr, rfl, rfl⟩ | ⟨hr, x, hf, rfl, rfl⟩
  · refine q_VX C (rc := (RX4, TX4, 12)) (q0 := 1) (ci := 4) (wr := wL G oa 1 f') (wc := wZ G q da qc qh qt qn qs qo V sr ta sc sh tb sn ss so) (c_X4_list0 hfl hr) gL_list_X4_list rfl ⟨rfl, rfl⟩ hdX4_list ⟨(Nat.le_of_ble_eq_true rfl), (Nat.le_of_ble_eq_true rfl)⟩ rfl hP hD hS rfl rfl (List.Perm.refl _) hl.1 (Nat.le_of_ble_eq_true rfl) ⟨(Nat.le_of_ble_eq_true rfl), (Nat.le_of_ble_eq_true rfl)⟩ rfl dL_list_5 (fun ce q9 H locs hP hS hce hv9 hcl => ?_)
    have hD : va_D A (wL G oa 1 f' ++ wZ G q da qc qh qt qn qs qo V sr ta sc sh tb sn ss so) := hD
    refine vx_catch (own := RL) (name := "java/util/NoSuchElementException") C.2.2.2.1 [] ⟨0, 10, 13, 13⟩ [] (by rw [ht]; rfl) (fun z hz => nomatch hz) (by decide) (by decide) (C.2.2.2.2.1 _ wdL_list_1) (cast_self hcl) hce hv9 hcl ?_
    refine lv_astore (lv' := [(4, .ref q9), (0, .ref (q 12)), (1, .int a1), (2, .int a2), (3, .ref oa)]) hx hb dL_list_13 hl (by decide) rfl (fun ls hl => ?_)
    refine lv_iconst (v := 1) hx hb dL_list_15 (by decide) ?_
    exact q_Gi C ⟨rfl, rfl⟩ hP hD hS (Nat.le_of_ble_eq_true rfl) (Nat.le_of_ble_eq_true rfl) rfl rfl dL_list_16
  · refine q_Vi C (rc := (RX4, TX4, 12)) (q0 := 1) (ci := 4) (ws' := wL G oa 1 f ++ wZ G q da qc qh qt qn qs qo V sr ta sc sh tb sn ss so) (wr := wL G oa 1 f) (wc := wZ G q da qc qh qt qn qs qo V sr ta sc sh tb sn ss so) (wc' := wZ G q da qc qh qt qn qs qo V sr ta sc sh tb sn ss so) (c_X4_list1 hr hf) gL_list_X4_list rfl ⟨rfl, rfl⟩ hdX4_list ⟨(Nat.le_of_ble_eq_true rfl), (Nat.le_of_ble_eq_true rfl)⟩ rfl hP hD hS rfl rfl (List.Perm.refl _) (List.Perm.refl _) hl.1 (Nat.le_of_ble_eq_true rfl) ⟨Nat.zero_le _, Nat.zero_le _⟩ rfl dL_list_5 (fun H locs hP hS => ?_)
    refine lv_i2l hx hb dL_list_8 rfl ?_
    refine q_last C hP hD hS (q0 := 0) rfl (j := 0) (by decide) rfl vp01 dL_list_9 (fun H locs hP hS => ?_)
    have hP : va_P G.1 vwCl (wL G oa 1 (vp_updL f 0 x.toInt64) ++ wZ G q da qc qh qt qn qs qo V sr ta sc sh tb sn ss so) H := hP
    have hD : va_D A (wL G oa 1 (vp_updL f 0 x.toInt64) ++ wZ G q da qc qh qt qn qs qo V sr ta sc sh tb sn ss so) := hD.ad rfl
    refine lv_goto (tgt := 17) hx hb dL_list_10 (by decide) ?_
    refine lv_iconst (v := 0) hx hb dL_list_17 (by decide) ?_
    exact q_Gi C ⟨rfl, rfl⟩ hP hD hS (Nat.le_of_ble_eq_true rfl) (Nat.le_of_ble_eq_true rfl) rfl rfl dL_list_18
section QSW
variable {p : Program} {l : Launch} {e : Env} {R : Room} {s : State} {m : MethodId} {args : Array Value} {below : List Frame} {meth : Method} {c : Code} {H : Heap} {locs : List Loc} {cells slots : Nat} {Q : State → Prop}
variable {G : Gx} {cc : ByteArray} {Ts : List Cond} {own : String} {ret : Option FieldType} {nL : Nat} {A : Nat → Prop} {pc : Nat} {ls : Array Slot} {rest : List Value} {ws : va_W} {a : Nat}
/-- invokestatic of one with a table of its own -/
theorem q_SW (C : Cx p s m args meth c G cc Ts own ret nL A) {y : MethodName} {bytes : ByteArray} {maxL n index mc ms : Nat} {retY : Option FieldType} {hh : List (Nat × Nat × Nat × Nat)} {wsY wsY' : List Cond} {rmY : Room} {As : List Value} {wc wr : va_W} {B : Option Value → va_W → Prop}
    (hM : QG l G y wsY rmY mc ms As wc B) (hT : GoodIn Ts (va_wsS own index y wsY)) (hw : wsY = Cond.codeWith y bytes maxL retY hh :: wsY') (hrc : rmY.cells = mc ∧ rmY.slots = ms)
    (hd : y.cls ≠ "java/lang/invoke/MethodHandle" ∧ y.cls ≠ "java/lang/invoke/VarHandle" ∧ (parseMethodDescriptor y.desc).map (fun d => d.parameters.length) = some n) (hR : rmY.frames + 1 ≤ R.frames ∧ 8 + (maxL + 11) + rmY.locals ≤ R.locals) (hn : As.length = n)
    (hP : va_P G.1 vwCl ws H) (hD : va_D A ws) (hS : va_S A s.heap H locs) (hp : ws.Perm (wr ++ wc)) (hl : ls.size = nL) (hro : (rest.map fun v => v.category).sum ≤ 8) (hcs : cells + mc ≤ R.cells ∧ slots + ms ≤ R.slots) {st0 : List Value} (hst : st0 = As.reverse ++ rest) (hdg : decode cc pc = .ok (.invokestatic index, 3))
    (kk : ∀ (r : Option Value) (w' : va_W) (H1 : Heap) (locs1 : List Loc), B r w' → va_P G.1 vwCl (wr ++ w') H1 → va_D A (wr ++ w') → va_S A s.heap H1 locs1 → W p l e R s m args below meth c H1 locs1 (cells + mc) (slots + ms) Q (F0 m (pc + 3) ls (r.toList ++ rest))) : W p l e R s m args below meth c H locs cells slots Q (F0 m pc ls st0) :=
  q_callG (vx_runSW (As := As) (rest := rest) ⟨C.1, C.2.1, C.2.2.1, C.2.2.2.1, C.2.2.2.2.1⟩ (hM H.size) (vx_cwSW n C.2.2.2.2.1 hT hw hrc.1 hrc.2 hd hR) ⟨qP.blind, q_pre C hP hD hS hp⟩ rfl hn hl hst (lv_room hro) hdg hcs) C.2.2.2.2.2.2.2.2.2 hP hD hS hp kk
end QSW
