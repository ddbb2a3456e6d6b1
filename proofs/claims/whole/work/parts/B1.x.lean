/-! methods that throw, and who catches -/
def nse : String := "java/util/NoSuchElementException"
def qX (G : Gx) (A : Nat → Prop) (w : va_W) : String → State → State → Prop := fun E st t => E = "java/util/NoSuchElementException" ∧ va_P G.1 vwCl w t.heap ∧ va_F A st t
def QX (l : Launch) (G : Gx) (y : MethodName) (ws : List Cond) (rm : Room) (mc ms : Nat) (as : List Value) (w : va_W) : Prop := ∀ sz : Nat, vx_Met l y ws rm (qP G as w sz) (fun _ _ _ _ => False) (qX G (va_A w sz) w) mc ms (va_A w sz)
theorem QX.of {l : Launch} {G : Gx} {y : MethodName} {ws ws' : List Cond} {rm : Room} {mc ms : Nat} {as : List Value} {w : va_W} {cc : ByteArray} {maxL : Nat} {ret : Option FieldType}
    (hy : plainName y.cls = true) (hw : ws = Cond.code y cc maxL ret :: ws') (hL : (lg_sl as).length ≤ maxL)
    (body : ∀ (p : Program) (e : Env) (s : State) (m : MethodId) (below : List Frame) (meth : Method) (c : Code) (A : Nat → Prop) (ls : Array Slot), (∀ x ∈ c.exceptionTable.toList, False) → Cx p s m as.toArray meth c G cc ws y.cls ret maxL A → va_D A w → va_P G.1 vwCl w s.heap → va_S A s.heap s.heap [] → lv_has ls maxL (lv_args 0 as) →
      W p l e rm s m as.toArray below meth c s.heap [] 0 0 (vx_MQ below (fun _ _ _ _ => False) (qX G A w) as.toArray s mc ms A) (F0 m 0 ls [])) : QX l G y ws rm mc ms as w := by
  intro sz
  refine vx_ofW (cc := cc) (maxL := maxL) (ret := ret) hy hw ?_
  intro p e s m args below meth c s₁ B hml ht hv
  obtain ⟨rfl, hsz, hP, hK, hX, hD0⟩ := hv
  subst hsz
  have hl := lv_entry as (n := maxL) hL
  rw [lg_entry_eq]
  generalize (lg_sl as ++ List.replicate (maxL - (lg_sl as).length) Slot.unset).toArray = ls at hl ⊢
  exact body p e s m below meth c _ ls ht ⟨B.exec, B.bytes, hml, findClass_of_methodNamed B.named, atoms_spec (ws := ws) B.pre, B.returns, B.notSynchronized, hK, hX, fun q h => Or.inr h⟩ (hD0.self (sz := s.heap.size)) hP va_S.rf hl
/-- a body with a table of its own -/
theorem q_ofWH {l : Launch} {y : MethodName} {ws ws' : List Cond} {rm : Room} {Pc : Array Value → State → Prop} {Qc : Array Value → State → Outcome → State → Prop} {mc ms : Nat} {free : Addr → Prop} {cc : ByteArray} {maxL : Nat} {ret : Option FieldType} {hh : List (Nat × Nat × Nat × Nat)}
    (hy : plainName y.cls = true) (hw : ws = Cond.codeWith y cc maxL ret hh :: ws')
    (body : ∀ p e s m args below meth c s₁, BodyLoose p l y (headSpec ws rm) cc maxL ret e s m args below meth c s₁ → c.maxLocals = maxL → Pc args s →
      W p l e (headSpec ws rm).room s m args below meth c s.heap [] 0 0 (MQ below Qc args s mc ms free) (entryFrame m args maxL)) : Met l y ws rm Pc Qc mc ms free := by
  refine MetFree.of_bodyS (code := cc) (maxLocals := maxL) (ret := ret) hy ?_ ?_
  · intro args s m h hn
    obtain ⟨m9, meth, c, hn9, h1, h2, h3, h4, -, h5, h6, -⟩ := Cond.codeWith_spec (atoms_spec (ws := ws) h _ (by rw [hw]; exact List.mem_cons_self))
    cases hn.symm.trans hn9
    exact ⟨meth, c, h1, h2, h3, h4, h5, h6⟩
  · intro p e s m args below meth c s₁ B hml hP _
    have hh0 : s₁.heap = s.heap := by rw [B.state]; rfl
    obtain ⟨t, a1, o, b1, b2, b3⟩ := body p e s m args below meth c s₁ B hml hP s₁ hh0 (Stand.of_body B)
    exact ⟨t, o, a1, b1, b2, ⟨b3.1, b3.2⟩⟩
theorem QG.ofH {l : Launch} {G : Gx} {y : MethodName} {ws ws' : List Cond} {rm : Room} {mc ms : Nat} {as : List Value} {w : va_W} {B : Option Value → va_W → Prop} {cc : ByteArray} {maxL : Nat} {ret : Option FieldType} {hh : List (Nat × Nat × Nat × Nat)}
    (hy : plainName y.cls = true) (hw : ws = Cond.codeWith y cc maxL ret hh :: ws') (hL : (lg_sl as).length ≤ maxL)
    (body : ∀ (p : Program) (e : Env) (s : State) (m : MethodId) (below : List Frame) (meth : Method) (c : Code) (A : Nat → Prop) (ls : Array Slot), c.exceptionTable.toList = tableOf hh → Cx p s m as.toArray meth c G cc ws y.cls ret maxL A → va_D A w → va_P G.1 vwCl w s.heap → va_S A s.heap s.heap [] → lv_has ls maxL (lv_args 0 as) →
      W p l e rm s m as.toArray below meth c s.heap [] 0 0 (MQ below (qG G A B) as.toArray s mc ms A) (F0 m 0 ls [])) : QG l G y ws rm mc ms as w B := by
  intro sz
  refine q_ofWH (cc := cc) (maxL := maxL) (ret := ret) (hh := hh) hy hw ?_
  intro p e s m args below meth c s₁ B9 hml hv
  obtain ⟨rfl, hsz, hP, hK, hX, hD0⟩ := hv
  subst hsz
  have hl := lv_entry as (n := maxL) hL
  rw [lg_entry_eq]
  generalize (lg_sl as ++ List.replicate (maxL - (lg_sl as).length) Slot.unset).toArray = ls at hl ⊢
  have hts := atoms_spec (ws := ws) B9.pre
  exact body p e s m below meth c _ ls (vx_table (x := y) B9 (hts _ (by rw [hw]; exact List.mem_cons_self))) ⟨B9.exec, B9.bytes, hml, findClass_of_methodNamed B9.named, hts, B9.returns, B9.notSynchronized, hK, hX, fun q h => Or.inr h⟩ (hD0.self (sz := s.heap.size)) hP va_S.rf hl
section QRX
variable {p : Program} {l : Launch} {e : Env} {R : Room} {s : State} {m : MethodId} {args : Array Value} {below : List Frame} {meth : Method} {c : Code} {H : Heap} {locs : List Loc} {cells slots : Nat} {Q : State → Prop}
variable {G : Gx} {cc : ByteArray} {Ts : List Cond} {own : String} {ret : Option FieldType} {nL : Nat} {A : Nat → Prop} {pc : Nat} {ls : Array Slot} {rest : List Value} {ws : va_W} {a : Nat}
/-- invokevirtual of one that throws -/
theorem q_VX (C : Cx p s m args meth c G cc Ts own ret nL A) {y : MethodName} {bytes : ByteArray} {maxL n index mc ms : Nat} {retY : Option FieldType} {wsY wsY' : List Cond} {rmY : Room} {As : List Value} {wc wr : va_W} {b ci q0 : Nat} {fs : List Value} {rc : vw_C}
    (hM : QX l G y wsY rmY mc ms (.ref b :: As) wc) (hT : GoodIn Ts (wsV own index rc.1 y wsY)) (hw : wsY = Cond.code y bytes maxL retY :: wsY') (hrc : rmY.cells = mc ∧ rmY.slots = ms)
    (hd : y.cls = rc.1 ∧ y.cls ≠ "java/lang/invoke/MethodHandle" ∧ y.cls ≠ "java/lang/invoke/VarHandle" ∧ (parseMethodDescriptor y.desc).map (fun d => d.parameters.length) = some n) (hR : rmY.frames + 1 ≤ R.frames ∧ 8 + (maxL + 11) + rmY.locals ≤ R.locals) (hn : As.length = n)
    (hP : va_P G.1 vwCl ws H) (hD : va_D A ws) (hS : va_S A s.heap H locs) (he : ws[q0]? = some (b, .inr (ci, fs))) (hc : vwCl[ci]? = some rc) (hp : ws.Perm (wr ++ wc)) (hl : ls.size = nL) (hro : (rest.map fun v => v.category).sum ≤ 8) (hcs : cells + mc ≤ R.cells ∧ slots + ms ≤ R.slots) {st0 : List Value} (hst : st0 = As.reverse ++ .ref b :: rest) (hdg : decode cc pc = .ok (.invokevirtual index, 3))
    (kx : ∀ (ce : Cell) (q9 : Addr) (H1 : Heap) (locs1 : List Loc), va_P G.1 vwCl ws H1 → va_S A s.heap H1 locs1 → H1[q9]? = some ce → ce.vm = .none → s.vm.findClass "java/util/NoSuchElementException" = some ce.cls → vx_W p l e R s m args below meth c H1 locs1 (cells + mc) (slots + ms) Q (F0 m pc ls rest) q9) : W p l e R s m args below meth c H locs cells slots Q (F0 m pc ls st0) := by
  have hF := q_free hD hp hS C.2.2.2.2.2.2.2.2.2
  have hr := vx_runV (As := As) (rest := rest) (below := below) (e := e) (meth := meth) (locs := locs) (cells := cells) (slots := slots) (g := F0 m pc ls st0) ⟨C.1, C.2.1, C.2.2.1, C.2.2.2.1, C.2.2.2.2.1⟩ (hM H.size) (cwV n C.2.2.2.2.1 hT hw hrc.1 hrc.2 hd hR) ⟨qP.blind, va_recv C.2.2.2.2.2.2.2.1 hP hc he, q_pre C hP hD hS hp⟩ rfl hn hl hst (lv_room hro) hdg hcs
  intro T hT X
  rcases hr T hT X with ⟨v, st₀, t, T', L, h0, X', hL, e1, e2, hf, st⟩ | ⟨q, st₀, t, T', L, E, ce, h0, X', hL, e1, e2, ⟨hE, hb, hF9⟩, hce, hcv, hcl, st⟩
  · exact hf.elim
  · subst hE
    obtain ⟨k1, k2, k3⟩ := vx_keep h0 e1 hS (fun q _ z => hF q z) hF hL hF9
    have hP1 : va_P G.1 vwCl ws T'.heap := q_join (H1 := T'.heap) hP hD hp hp.symm k2 (by rw [e1]; exact hb)
    obtain ⟨t2, a1, b1⟩ := kx ce q T'.heap (locs ++ L) hP1 k3 (by rw [e1]; exact hce) hcv hcl T' rfl X'
    exact ⟨t2, st.trans a1, b1⟩
end QRX
abbrev nsR : ByteArray := prog_24_method_4_code
abbrev nsW : List Cond := nx_at RX4 160 "java/util/NoSuchElementException" 13 nsR "java/lang/RuntimeException" ["java/lang/Exception"]
abbrev nsG : List Cond := nsW.filter goodWord
theorem nsR_0 : decode nsR 0 = .ok (.aload_n 0, 1) := by decide +kernel
theorem nsR_1 : decode nsR 1 = .ok (.aload_n 1, 1) := by decide +kernel
theorem nsR_2 : decode nsR 2 = .ok (.invokespecial 13, 3) := by decide +kernel
theorem nsR_5 : decode nsR 5 = .ok (.return_, 1) := by decide +kernel
theorem asg_self (vm : Vm) (c : ClassId) : vm.assignable c c = true := by
  show vm.assignableAux _ c c = true
  unfold Vm.assignableAux
  simp
theorem cast_self {E : String} {c : ClassId} {args : Array Value} {s : State} (h : s.vm.findClass E = some c) : (Cond.castable E E).before args s = true := by
  simp [Cond.before, Cond.holds, Cond.value, h, asg_self]
theorem decl_of {x : MethodName} {bytes : ByteArray} {maxL : Nat} {ret : Option FieldType} {args : Array Value} {s : State} (h1 : (Cond.instanceMethod x).before args s = true) (h2 : (Cond.code x bytes maxL ret).before args s = true) : (Cond.declares x).before args s = true := by
  obtain ⟨m, meth, hn, hm, hst, _⟩ := Cond.instanceMethod_spec h1
  obtain ⟨meth', c, hm', _, _, _, _, _, _, hsig⟩ := Cond.code_spec hn h2
  cases hm.symm.trans hm'
  simp [Cond.before, Cond.holds, Cond.value, hn, hm, hst, hsig]
abbrev nsB : List Cond := [Cond.declares (Bundle.initS "java/lang/RuntimeException"), Cond.declares (Bundle.initS "java/lang/Exception"), Cond.declares (Bundle.initS Bundle.tN)]
theorem nsW_bad : nsW.filter (fun w => !goodWord w) = nsB := by decide +kernel
theorem nsW_i1 : Cond.instanceMethod (Bundle.initS "java/lang/RuntimeException") ∈ nsG := by decide +kernel
theorem nsW_i2 : Cond.instanceMethod (Bundle.initS "java/lang/Exception") ∈ nsG := by decide +kernel
theorem nsW_i3 : Cond.instanceMethod (Bundle.initS Bundle.tN) ∈ nsG := by decide +kernel
theorem nsW_c1 : Cond.code (Bundle.initS "java/lang/RuntimeException") Bundle.six 2 none ∈ nsG := by decide +kernel
theorem nsW_c2 : Cond.code (Bundle.initS "java/lang/Exception") Bundle.six 2 none ∈ nsG := by decide +kernel
theorem nsW_c3 : Cond.code (Bundle.initS Bundle.tN) LibCode.Throwable.InitS.code 2 none ∈ nsG := by decide +kernel
theorem nsW_all {args : Array Value} {s : State} (h : ∀ w ∈ nsG, w.before args s = true) : ∀ w ∈ nsW, w.before args s = true := by
  refine vx_hat (B := nsB) h (fun w hw => by rw [nsW_bad] at hw; exact hw) ?_
  exact vx_c (decl_of (h _ nsW_i1) (h _ nsW_c1)) (vx_c (decl_of (h _ nsW_i2) (h _ nsW_c2)) (vx_c (decl_of (h _ nsW_i3) (h _ nsW_c3)) vx_n))
theorem nsW_ot : ∀ w ∈ Cond.classLink RX4 156 "java/util/NoSuchElementException" :: Cond.initialized "java/util/NoSuchElementException" :: nsW, vx_ot w = true := by decide +kernel
theorem nsW_fit : Bundle.fit "java/util/NoSuchElementException" = true := by decide +kernel
theorem nsW_fitY : Bundle.fit "java/lang/RuntimeException" = true := by decide +kernel
theorem nsW_fits : ∀ n ∈ ["java/lang/Exception"], Bundle.fit n = true := by decide +kernel
def wsX4_numberN : List Cond := .code yX4_number cX4_number 2 (some .int) :: ((wsX4_number_r1 ++ wsX4_number_r2) ++ wsX40 ++ wsX00 ++ nsG)
def wsX4_listN : List Cond := .code yX4_list cX4_list 3 (some .int) :: ((wsX4_list_r1 ++ wsX4_list_r2) ++ wsX40 ++ wsX00 ++ nsG)
def wsL_numberN : List Cond := .codeWith yL_number cL_number 4 (some .int) [(0, 9, 12, 13)] :: ((wsL_number_r1 ++ wsL_number_r2) ++ wsX40 ++ wsX00 ++ nsG)
def wsL_listN : List Cond := .codeWith yL_list cL_list 5 (some .int) [(0, 10, 13, 13)] :: ((wsL_list_r1 ++ wsL_list_r2) ++ wsX40 ++ wsX00 ++ nsG)
set_option maxRecDepth 20000 in
theorem ggX4_numberN_X0_hasRoot : GoodIn wsX4_numberN wsX0_hasRoot := goodIn_r _ [8, 9, 42, 43, 44, 45, 46, 47, 48, 49, 50, 51, 52, 53, 54, 55, 56] (by decide +kernel) (by decide +kernel)
set_option maxRecDepth 20000 in
theorem gX4_numberN_X0_hasRoot : GoodIn wsX4_numberN (wsV RX4 137 RX0 yX0_hasRoot wsX0_hasRoot) := goodIn_app (goodIn_of _ (by decide +kernel)) ggX4_numberN_X0_hasRoot
set_option maxRecDepth 20000 in
theorem ggX4_numberN_X0_numberAt : GoodIn wsX4_numberN wsX0_numberAt := goodIn_r _ [13, 14, 15, 16, 7, 17, 9, 18, 19, 20, 21, 22, 23, 24, 25, 26, 27, 28, 29, 42, 43, 44, 45, 46, 47, 48, 49, 50, 51, 52, 53, 54, 55, 56] (by decide +kernel) (by decide +kernel)
set_option maxRecDepth 20000 in
theorem gX4_numberN_X0_numberAt : GoodIn wsX4_numberN (wsV RX4 163 RX0 yX0_numberAt wsX0_numberAt) := goodIn_app (goodIn_of _ (by decide +kernel)) ggX4_numberN_X0_numberAt
set_option maxRecDepth 20000 in
theorem ggX4_listN_X0_hasRoot : GoodIn wsX4_listN wsX0_hasRoot := goodIn_r _ [8, 9, 46, 47, 48, 49, 50, 51, 52, 53, 54, 55, 56, 57, 58, 59, 60] (by decide +kernel) (by decide +kernel)
set_option maxRecDepth 20000 in
theorem gX4_listN_X0_hasRoot : GoodIn wsX4_listN (wsV RX4 137 RX0 yX0_hasRoot wsX0_hasRoot) := goodIn_app (goodIn_of _ (by decide +kernel)) ggX4_listN_X0_hasRoot
set_option maxRecDepth 20000 in
theorem ggX4_listN_X0_listAt : GoodIn wsX4_listN wsX0_listAt := goodIn_r _ [13, 14, 15, 16, 7, 17, 9, 18, 19, 20, 21, 22, 23, 24, 25, 26, 27, 28, 29, 30, 31, 32, 33, 46, 47, 48, 49, 50, 51, 52, 53, 54, 55, 56, 57, 58, 59, 60] (by decide +kernel) (by decide +kernel)
set_option maxRecDepth 20000 in
theorem gX4_listN_X0_listAt : GoodIn wsX4_listN (wsV RX4 166 RX0 yX0_listAt wsX0_listAt) := goodIn_app (goodIn_of _ (by decide +kernel)) ggX4_listN_X0_listAt
abbrev rmX4_number : Room := { frames := 8, cells := 1, slots := 6, locals := 200 }
abbrev rmX4_numberQ : Room := { frames := 8, cells := 0, slots := 0, locals := 200 }
theorem hdX4_number : yX4_number.cls = RX4 ∧ yX4_number.cls ≠ "java/lang/invoke/MethodHandle" ∧ yX4_number.cls ≠ "java/lang/invoke/VarHandle" ∧ (parseMethodDescriptor yX4_number.desc).map (fun d => d.parameters.length) = some 1 := by decide +kernel
theorem hiX4_number_X4 : ∀ w ∈ u_ws RX4 TX4 12, w ∈ wsX4_numberN := fun w h => List.mem_cons_of_mem _ (List.mem_append_left _ (List.mem_append_left _ (List.mem_append_right _ h)))
theorem wdX4_number_1 : (Cond.fieldLink RX4 18 "CombinatorRing" "current" "LCombinatorRing$Net;") ∈ wsX4_numberN := List.mem_of_getElem? (i := 3) rfl
theorem wdX4_number_2 : (Cond.classLink RX4 156 "java/util/NoSuchElementException") ∈ wsX4_numberN := List.mem_of_getElem? (i := 1) rfl
theorem wdX4_number_3 : (Cond.initialized "java/util/NoSuchElementException") ∈ wsX4_numberN := List.mem_of_getElem? (i := 2) rfl
set_option maxHeartbeats 4000000 in
set_option maxRecDepth 100000 in
theorem c_X4_number1 {l : Launch} {G : Gx} {q : Nat → Nat} {da : Nat} {qc qh qt qn qs qo : Nat → Nat} {V : VS} {sr : OSt} {ta : Nat → Int32} {sc sh : NSt} {tb : Nat × OSt} {sn : NSt} {ss so : OSt} {a1 : Int32} {x : Int32} (hr : n_hasRoot sc a1 = some 1) (hf : n_numberAt sc (1000 + a1) = some x) : QM l G yX4_number wsX4_numberN rmX4_numberQ [.ref (q 12), .int a1] (wZ G q da qc qh qt qn qs qo V sr ta sc sh tb sn ss so) (wZ G q da qc qh qt qn qs qo V sr ta sc sh tb sn ss so) (some (.int x)) := by
  refine QM.of (cc := cX4_number) (maxL := 2) (ret := (some .int)) (by decide) rfl (Nat.le_of_ble_eq_true rfl) ?_
  intro p e s m below meth c A ls C hD hP hS hl
  have hx := C.1
  have hb := C.2.1
  have hl : lv_has ls 2 [(0, .ref (q 12)), (1, .int a1)] := hl
  refine lv_aload_n hx hb dX4_number_0 rfl (lv_at hl 0 rfl) ?_
  refine q_get (q0 := 0) C hP rfl rfl hiX4_number_X4 2 (by decide) wdX4_number_1 rfl dX4_number_1 ?_
  refine lv_iload_n hx hb dX4_number_4 rfl (lv_at hl 1 rfl) ?_
  refine q_Vi C (rc := (RX0, TX0, 15)) (q0 := 5) (ci := 0) (ws' := wZ G q da qc qh qt qn qs qo V sr ta sc sh tb sn ss so) (c_X0_hasRoot (qn := qc) hr) gX4_numberN_X0_hasRoot rfl ⟨rfl, rfl⟩ hdX0_hasRoot ⟨(Nat.le_of_ble_eq_true rfl), (Nat.le_of_ble_eq_true rfl)⟩ rfl hP hD hS rfl rfl pr_2 pr_2.symm hl.1 (Nat.le_of_ble_eq_true rfl) ⟨Nat.zero_le _, Nat.zero_le _⟩ rfl dX4_number_5 (fun H locs hP hS => ?_)
  have hD : va_D A (wZ G q da qc qh qt qn qs qo V sr ta sc sh tb sn ss so) := hD.ad rfl
  refine lv_if_ne (tgt := 21) hx hb dX4_number_8 (by decide) (fun c1 => ?_) (fun c1 => absurd c1 (by decide))
  refine lv_aload_n hx hb dX4_number_21 rfl (lv_at hl 0 rfl) ?_
  refine q_get (q0 := 0) C hP rfl rfl hiX4_number_X4 2 (by decide) wdX4_number_1 rfl dX4_number_22 ?_
  refine lv_sipush (v := 1000) hx hb dX4_number_25 (by decide) ?_
  refine lv_iload_n hx hb dX4_number_28 rfl (lv_at hl 1 rfl) ?_
  refine lv_iadd hx hb dX4_number_29 ?_
  refine q_Vi C (rc := (RX0, TX0, 15)) (q0 := 5) (ci := 0) (ws' := wZ G q da qc qh qt qn qs qo V sr ta sc sh tb sn ss so) (c_X0_numberAt (qn := qc) hf) gX4_numberN_X0_numberAt rfl ⟨rfl, rfl⟩ hdX0_numberAt ⟨(Nat.le_of_ble_eq_true rfl), (Nat.le_of_ble_eq_true rfl)⟩ rfl hP hD hS rfl rfl pr_2 pr_2.symm hl.1 (Nat.le_of_ble_eq_true rfl) ⟨Nat.zero_le _, Nat.zero_le _⟩ rfl dX4_number_30 (fun H locs hP hS => ?_)
  exact q_iret C hP hS rfl dX4_number_33
set_option maxHeartbeats 4000000 in
set_option maxRecDepth 100000 in
theorem c_X4_number0 {l : Launch} {G : Gx} {q : Nat → Nat} {da : Nat} {qc qh qt qn qs qo : Nat → Nat} {V : VS} {sr : OSt} {ta : Nat → Int32} {sc sh : NSt} {tb : Nat × OSt} {sn : NSt} {ss so : OSt} {a1 : Int32} (hfl : l.stackTraces = false) (hr : n_hasRoot sc a1 = some 0) : QX l G yX4_number wsX4_numberN rmX4_number 1 6 [.ref (q 12), .int a1] (wZ G q da qc qh qt qn qs qo V sr ta sc sh tb sn ss so) := by
  refine QX.of (cc := cX4_number) (maxL := 2) (ret := (some .int)) (by decide) rfl (Nat.le_of_ble_eq_true rfl) ?_
  intro p e s m below meth c A ls ht C hD hP hS hl
  have hx := C.1
  have hb := C.2.1
  have hl : lv_has ls 2 [(0, .ref (q 12)), (1, .int a1)] := hl
  refine lv_aload_n hx hb dX4_number_0 rfl (lv_at hl 0 rfl) ?_
  refine q_get (q0 := 0) C hP rfl rfl hiX4_number_X4 2 (by decide) wdX4_number_1 rfl dX4_number_1 ?_
  refine lv_iload_n hx hb dX4_number_4 rfl (lv_at hl 1 rfl) ?_
  refine q_Vi C (rc := (RX0, TX0, 15)) (q0 := 5) (ci := 0) (ws' := wZ G q da qc qh qt qn qs qo V sr ta sc sh tb sn ss so) (c_X0_hasRoot (qn := qc) hr) gX4_numberN_X0_hasRoot rfl ⟨rfl, rfl⟩ hdX0_hasRoot ⟨(Nat.le_of_ble_eq_true rfl), (Nat.le_of_ble_eq_true rfl)⟩ rfl hP hD hS rfl rfl pr_2 pr_2.symm hl.1 (Nat.le_of_ble_eq_true rfl) ⟨Nat.zero_le _, Nat.zero_le _⟩ rfl dX4_number_5 (fun H locs hP hS => ?_)
  have hD : va_D A (wZ G q da qc qh qt qn qs qo V sr ta sc sh tb sn ss so) := hD.ad rfl
  refine lv_if_ne (tgt := 21) hx hb dX4_number_8 (by decide) (fun c1 => absurd rfl c1) (fun c1 => ?_)
  have hXg := C.2.2.2.2.2.2.2.2.1
  have hat : ∀ w ∈ nsW, w.before _ s = true := nsW_all (fun w h => C.2.2.2.2.1 w (List.mem_cons_of_mem _ (List.mem_append_right _ h)))
  refine nx_make hx hb hfl nsR_0 nsR_1 nsR_2 nsR_5 C.2.2.2.1 nsW_fit nsW_fitY nsW_fits (C.2.2.2.2.1 _ wdX4_number_2) (C.2.2.2.2.1 _ wdX4_number_3) hXg.2.1.2.2.1 hat nsW_ot hXg.2.2.2.2.1 hXg.2.2.2.2.2.1 hS (hl.1.trans C.2.2.1.symm) dX4_number_11 dX4_number_14 dX4_number_15 dX4_number_17 (Nat.le_of_ble_eq_true rfl) (Nat.le_of_ble_eq_true rfl) (Nat.le_of_ble_eq_true rfl) (Nat.le_of_ble_eq_true rfl) (fun q9 ce H1 hz hk hh hv9 hcl => ?_)
  refine vx_athrow hx hb dX4_number_20 ?_
  exact vx_out (fun x hx9 => (ht x hx9).elim) C.2.2.2.2.2.2.1 hh hv9 hcl (fun t ht9 _ => ⟨rfl, by rw [ht9]; exact va_P.mem.mpr fun z hq => (va_P.mem.mp hP z hq).kept (hk _ (va_P.mem.mp hP z hq).lt), by rw [ht9]; exact Nat.le_trans hS.1 hz, fun z h1 h2 => by rw [ht9]; exact (hk z (Nat.lt_of_lt_of_le h1 hS.1)).trans (hS.2.1 z h1 h2)⟩) hS.2.2 (Nat.le_of_ble_eq_true rfl) (Nat.le_of_ble_eq_true rfl)
theorem hdX4_list : yX4_list.cls = RX4 ∧ yX4_list.cls ≠ "java/lang/invoke/MethodHandle" ∧ yX4_list.cls ≠ "java/lang/invoke/VarHandle" ∧ (parseMethodDescriptor yX4_list.desc).map (fun d => d.parameters.length) = some 2 := by decide +kernel
theorem hiX4_list_X4 : ∀ w ∈ u_ws RX4 TX4 12, w ∈ wsX4_listN := fun w h => List.mem_cons_of_mem _ (List.mem_append_left _ (List.mem_append_left _ (List.mem_append_right _ h)))
theorem wdX4_list_1 : (Cond.fieldLink RX4 18 "CombinatorRing" "current" "LCombinatorRing$Net;") ∈ wsX4_listN := List.mem_of_getElem? (i := 3) rfl
theorem wdX4_list_2 : (Cond.classLink RX4 156 "java/util/NoSuchElementException") ∈ wsX4_listN := List.mem_of_getElem? (i := 1) rfl
theorem wdX4_list_3 : (Cond.initialized "java/util/NoSuchElementException") ∈ wsX4_listN := List.mem_of_getElem? (i := 2) rfl
set_option maxHeartbeats 4000000 in
set_option maxRecDepth 100000 in
theorem c_X4_list1 {l : Launch} {G : Gx} {q : Nat → Nat} {da : Nat} {qc qh qt qn qs qo : Nat → Nat} {V : VS} {sr : OSt} {ta : Nat → Int32} {sc sh : NSt} {tb : Nat × OSt} {sn : NSt} {ss so : OSt} {a1 : Int32} {a2 : Int32} {x : Int32} (hr : n_hasRoot sc a1 = some 1) (hf : n_listAt sc (1000 + a1) a2 = some x) : QM l G yX4_list wsX4_listN rmX4_numberQ [.ref (q 12), .int a1, .int a2] (wZ G q da qc qh qt qn qs qo V sr ta sc sh tb sn ss so) (wZ G q da qc qh qt qn qs qo V sr ta sc sh tb sn ss so) (some (.int x)) := by
  refine QM.of (cc := cX4_list) (maxL := 3) (ret := (some .int)) (by decide) rfl (Nat.le_of_ble_eq_true rfl) ?_
  intro p e s m below meth c A ls C hD hP hS hl
  have hx := C.1
  have hb := C.2.1
  have hl : lv_has ls 3 [(0, .ref (q 12)), (1, .int a1), (2, .int a2)] := hl
  refine lv_aload_n hx hb dX4_list_0 rfl (lv_at hl 0 rfl) ?_
  refine q_get (q0 := 0) C hP rfl rfl hiX4_list_X4 2 (by decide) wdX4_list_1 rfl dX4_list_1 ?_
  refine lv_iload_n hx hb dX4_list_4 rfl (lv_at hl 1 rfl) ?_
  refine q_Vi C (rc := (RX0, TX0, 15)) (q0 := 5) (ci := 0) (ws' := wZ G q da qc qh qt qn qs qo V sr ta sc sh tb sn ss so) (c_X0_hasRoot (qn := qc) hr) gX4_listN_X0_hasRoot rfl ⟨rfl, rfl⟩ hdX0_hasRoot ⟨(Nat.le_of_ble_eq_true rfl), (Nat.le_of_ble_eq_true rfl)⟩ rfl hP hD hS rfl rfl pr_2 pr_2.symm hl.1 (Nat.le_of_ble_eq_true rfl) ⟨Nat.zero_le _, Nat.zero_le _⟩ rfl dX4_list_5 (fun H locs hP hS => ?_)
  have hD : va_D A (wZ G q da qc qh qt qn qs qo V sr ta sc sh tb sn ss so) := hD.ad rfl
  refine lv_if_ne (tgt := 21) hx hb dX4_list_8 (by decide) (fun c1 => ?_) (fun c1 => absurd c1 (by decide))
  refine lv_aload_n hx hb dX4_list_21 rfl (lv_at hl 0 rfl) ?_
  refine q_get (q0 := 0) C hP rfl rfl hiX4_list_X4 2 (by decide) wdX4_list_1 rfl dX4_list_22 ?_
  refine lv_sipush (v := 1000) hx hb dX4_list_25 (by decide) ?_
  refine lv_iload_n hx hb dX4_list_28 rfl (lv_at hl 1 rfl) ?_
  refine lv_iadd hx hb dX4_list_29 ?_
  refine lv_iload_n hx hb dX4_list_30 rfl (lv_at hl 2 rfl) ?_
  refine q_Vi C (rc := (RX0, TX0, 15)) (q0 := 5) (ci := 0) (ws' := wZ G q da qc qh qt qn qs qo V sr ta sc sh tb sn ss so) (c_X0_listAt (qn := qc) hf) gX4_listN_X0_listAt rfl ⟨rfl, rfl⟩ hdX0_listAt ⟨(Nat.le_of_ble_eq_true rfl), (Nat.le_of_ble_eq_true rfl)⟩ rfl hP hD hS rfl rfl pr_2 pr_2.symm hl.1 (Nat.le_of_ble_eq_true rfl) ⟨Nat.zero_le _, Nat.zero_le _⟩ rfl dX4_list_31 (fun H locs hP hS => ?_)
  exact q_iret C hP hS rfl dX4_list_34
set_option maxHeartbeats 4000000 in
set_option maxRecDepth 100000 in
theorem c_X4_list0 {l : Launch} {G : Gx} {q : Nat → Nat} {da : Nat} {qc qh qt qn qs qo : Nat → Nat} {V : VS} {sr : OSt} {ta : Nat → Int32} {sc sh : NSt} {tb : Nat × OSt} {sn : NSt} {ss so : OSt} {a1 : Int32} {a2 : Int32} (hfl : l.stackTraces = false) (hr : n_hasRoot sc a1 = some 0) : QX l G yX4_list wsX4_listN rmX4_number 1 6 [.ref (q 12), .int a1, .int a2] (wZ G q da qc qh qt qn qs qo V sr ta sc sh tb sn ss so) := by
  refine QX.of (cc := cX4_list) (maxL := 3) (ret := (some .int)) (by decide) rfl (Nat.le_of_ble_eq_true rfl) ?_
  intro p e s m below meth c A ls ht C hD hP hS hl
  have hx := C.1
  have hb := C.2.1
  have hl : lv_has ls 3 [(0, .ref (q 12)), (1, .int a1), (2, .int a2)] := hl
  refine lv_aload_n hx hb dX4_list_0 rfl (lv_at hl 0 rfl) ?_
  refine q_get (q0 := 0) C hP rfl rfl hiX4_list_X4 2 (by decide) wdX4_list_1 rfl dX4_list_1 ?_
  refine lv_iload_n hx hb dX4_list_4 rfl (lv_at hl 1 rfl) ?_
  refine q_Vi C (rc := (RX0, TX0, 15)) (q0 := 5) (ci := 0) (ws' := wZ G q da qc qh qt qn qs qo V sr ta sc sh tb sn ss so) (c_X0_hasRoot (qn := qc) hr) gX4_listN_X0_hasRoot rfl ⟨rfl, rfl⟩ hdX0_hasRoot ⟨(Nat.le_of_ble_eq_true rfl), (Nat.le_of_ble_eq_true rfl)⟩ rfl hP hD hS rfl rfl pr_2 pr_2.symm hl.1 (Nat.le_of_ble_eq_true rfl) ⟨Nat.zero_le _, Nat.zero_le _⟩ rfl dX4_list_5 (fun H locs hP hS => ?_)
  have hD : va_D A (wZ G q da qc qh qt qn qs qo V sr ta sc sh tb sn ss so) := hD.ad rfl
  refine lv_if_ne (tgt := 21) hx hb dX4_list_8 (by decide) (fun c1 => absurd rfl c1) (fun c1 => ?_)
  have hXg := C.2.2.2.2.2.2.2.2.1
  have hat : ∀ w ∈ nsW, w.before _ s = true := nsW_all (fun w h => C.2.2.2.2.1 w (List.mem_cons_of_mem _ (List.mem_append_right _ h)))
  refine nx_make hx hb hfl nsR_0 nsR_1 nsR_2 nsR_5 C.2.2.2.1 nsW_fit nsW_fitY nsW_fits (C.2.2.2.2.1 _ wdX4_list_2) (C.2.2.2.2.1 _ wdX4_list_3) hXg.2.1.2.2.1 hat nsW_ot hXg.2.2.2.2.1 hXg.2.2.2.2.2.1 hS (hl.1.trans C.2.2.1.symm) dX4_list_11 dX4_list_14 dX4_list_15 dX4_list_17 (Nat.le_of_ble_eq_true rfl) (Nat.le_of_ble_eq_true rfl) (Nat.le_of_ble_eq_true rfl) (Nat.le_of_ble_eq_true rfl) (fun q9 ce H1 hz hk hh hv9 hcl => ?_)
  refine vx_athrow hx hb dX4_list_20 ?_
  exact vx_out (fun x hx9 => (ht x hx9).elim) C.2.2.2.2.2.2.1 hh hv9 hcl (fun t ht9 _ => ⟨rfl, by rw [ht9]; exact va_P.mem.mpr fun z hq => (va_P.mem.mp hP z hq).kept (hk _ (va_P.mem.mp hP z hq).lt), by rw [ht9]; exact Nat.le_trans hS.1 hz, fun z h1 h2 => by rw [ht9]; exact (hk z (Nat.lt_of_lt_of_le h1 hS.1)).trans (hS.2.1 z h1 h2)⟩) hS.2.2 (Nat.le_of_ble_eq_true rfl) (Nat.le_of_ble_eq_true rfl)
