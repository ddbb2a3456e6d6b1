/-! ===== base: what is known of the tables, worlds that keep their addresses, contracts that make nothing ===== -/
abbrev Gx : Type := va_G × (Nat → ClassId) × (Nat → Nat) × (Nat → Nat)
def gT (G : Gx) : List (ClassId × FieldType) := [(G.2.1 0, .int), (G.2.1 1, .long), (G.2.1 2, .boolean), (G.2.1 3, .byte), (G.2.1 4, .object "CombinatorRing$Net")]
def gK (G : Gx) (U : State) : Prop := va_K G.1 vwCl (gT G) U
theorem gK.moved {G : Gx} {u U : State} (hvm : u.vm.Alike U.vm) (h : gK G u) : gK G U := va_K.moved hvm h
def sLen : List Nat := [6, 10, 21]
def sByt : List (List Int32) := [[109, 101, 109, 111, 114, 121], [59, 126, 42, 35, 40, 41, 91, 93, 60, 62], [116, 104, 101, 114, 101, 32, 105, 115, 32, 110, 111, 32, 115, 117, 99, 104, 32, 114, 111, 111, 116]]
def nestW : List Cond := [.methodLinkNest RX0 23 yX1_init "CombinatorRing", .fieldLinkNest RX4 127 "CombinatorRing$Net" "ruleCounts" "[I" "CombinatorRing", .fieldLinkNest RX4 95 "CombinatorRing$Net" "pairs" "LCombinatorRing$Pairs;" "CombinatorRing", .fieldLinkNest RX4 86 "CombinatorRing$Net" "memory" "I" "CombinatorRing", .fieldLinkNest RX4 83 "CombinatorRing$Net" "nodes" "I" "CombinatorRing", .fieldLinkNest RX4 89 "CombinatorRing$Net" "made" "I" "CombinatorRing", .fieldLinkNest RX4 92 "CombinatorRing$Net" "freedEver" "I" "CombinatorRing", .fieldLinkNest RX4 118 "CombinatorRing$Net" "freedCount" "I" "CombinatorRing", .fieldLinkNest RX4 121 "CombinatorRing$Net" "given" "I" "CombinatorRing", .fieldLinkNest RX4 112 "CombinatorRing$Net" "rootsEver" "I" "CombinatorRing", .fieldLinkNest RX4 115 "CombinatorRing$Net" "loops" "I" "CombinatorRing", .fieldLinkNest RX4 204 "CombinatorRing$Net" "peak" "I" "CombinatorRing", .methodLinkNest RX4 27 yX3_init "CombinatorRing", .fieldLinkNest RX4 70 "CombinatorRing$TextReader" "net" "LCombinatorRing$Net;" "CombinatorRing", .methodLinkNest RX4 34 yX2_init "CombinatorRing", .fieldLinkNest RX4 176 "CombinatorRing$Sight" "metNodes" "[I" "CombinatorRing", .fieldLinkNest RX4 179 "CombinatorRing$Sight" "metPorts" "[I" "CombinatorRing", .fieldLinkNest RX4 173 "CombinatorRing$Sight" "metCount" "I" "CombinatorRing"]
theorem nestW_warm {s U : State} (hW : s.WarmedH U.vm) (h : ∀ w ∈ nestW, va_Nw w s) : ∀ w ∈ nestW, va_Nw w U := by
  intro w hw
  have h1 := h w hw
  simp only [nestW, List.mem_cons, List.not_mem_nil, or_false] at hw
  rcases hw with rfl | rfl | rfl | rfl | rfl | rfl | rfl | rfl | rfl | rfl | rfl | rfl | rfl | rfl | rfl | rfl | rfl | rfl <;> first | exact va_Nw.warmF hW h1 | exact va_Nw.warmM hW h1
/-- what stays as it was at the start: the texts, statics, nest links -/
def gX (G : Gx) (A : Nat → Prop) (U : State) (H : Heap) : Prop :=
  vk_S 3 sLen sByt G.2.2.1 G.2.2.2 A U H ∧ (vk_R RX3 160 "memory" (G.2.2.1 0) U ∧ vk_R RX3 153 ";~*#()[]<>" (G.2.2.1 1) U ∧ vk_R RX4 158 "there is no such root" (G.2.2.1 2) U ∧ va_AO "CombinatorRing$Net" U) ∧ va_Z "java/lang/String" "COMPACT_STRINGS" "Z" (.int 1) A U H ∧ va_Zq "jdk/internal/util/Preconditions" "SIOOBE_FORMATTER" "Ljava/util/function/BiFunction;" A U H ∧ vx_Zq Bundle.tN "UNASSIGNED_STACK" Bundle.steD A U H ∧ vx_Zq Bundle.tN "SUPPRESSED_SENTINEL" Bundle.listD A U H ∧ ∀ w ∈ nestW, va_Nw w U
theorem gX.moved {G : Gx} {A : Nat → Prop} {u U : State} {H : Heap} (hW : u.WarmedH U.vm) (h : gX G A u H) : gX G A U H := by
  obtain ⟨h1, ⟨h2, h3, h4, h0⟩, h5, h6, h7, h8, h9⟩ := h
  exact ⟨vk_S.moved hW.alike h1, ⟨vk_R.warm hW h2, vk_R.warm hW h3, vk_R.warm hW h4, va_AO.moved hW.alike h0⟩, va_Z.moved hW.alike h5, va_Zq.moved hW.alike h6, vx_Zq.moved hW.alike h7, vx_Zq.moved hW.alike h8, nestW_warm hW h9⟩
theorem gX.kept {G : Gx} {A : Nat → Prop} {U : State} {H H1 : Heap} (h : gX G A U H) (hq : ∀ a : Nat, a < H.size → ¬ A a → H1[a]? = H[a]?) : gX G A U H1 := by
  obtain ⟨h1, h2, h5, h6, h7, h8, h9⟩ := h
  exact ⟨h1.kept hq, h2, h5.kept hq, h6.kept hq, h7.kept hq, h8.kept hq, h9⟩
theorem gX.narrow {G : Gx} {A B : Nat → Prop} {U : State} {H : Heap} (h : gX G A U H) (hAB : ∀ q, B q → A q) : gX G B U H := by
  obtain ⟨h1, h2, h5, h6, h7, h8, h9⟩ := h
  exact ⟨h1.narrow hAB, h2, h5.narrow hAB, h6.narrow hAB, h7.narrow hAB, h8.narrow hAB, h9⟩
/-- a contract's start, its end, the contract: nothing is made, the addresses stay -/
def qP (G : Gx) (as : List Value) (w : va_W) (sz : Nat) : Array Value → State → Prop := va_Pc as (fun U => U.heap.size = sz ∧ va_P G.1 vwCl w U.heap ∧ gK G U ∧ gX G (va_A w sz) U U.heap ∧ va_D (fun _ => True) w)
def qE (G : Gx) (A : Nat → Prop) (w' : va_W) (r : Option Value) : Array Value → State → Outcome → State → Prop := fun _ st oc t => (oc = .returned r ∧ va_P G.1 vwCl w' t.heap) ∧ va_F A st t
def QM (l : Launch) (G : Gx) (y : MethodName) (ws : List Cond) (rm : Room) (as : List Value) (w w' : va_W) (r : Option Value) : Prop := ∀ sz : Nat, Met l y ws rm (qP G as w sz) (qE G (va_A w sz) w' r) 0 0 (va_A w sz)
/-- what a body knows of its frame -/
def Cx (p : Program) (s : State) (m : MethodId) (args : Array Value) (meth : Method) (c : Code) (G : Gx) (cc : ByteArray) (Ts : List Cond) (own : String) (ret : Option FieldType) (nL : Nat) (A : Nat → Prop) : Prop :=
  p.tables.exec = Jvm.exec ∧ c.code = cc ∧ c.maxLocals = nL ∧ s.vm.findClass own = some m.cls ∧ (∀ w ∈ Ts, w.before args s = true) ∧ meth.sig.returnType = ret ∧ meth.locks = false ∧ gK G s ∧ gX G A s s.heap ∧ ∀ q : Nat, s.heap.size ≤ q → A q
theorem QM.of {l : Launch} {G : Gx} {y : MethodName} {ws ws' : List Cond} {rm : Room} {as : List Value} {w w' : va_W} {r : Option Value} {cc : ByteArray} {maxL : Nat} {ret : Option FieldType}
    (hy : plainName y.cls = true) (hw : ws = Cond.code y cc maxL ret :: ws') (hL : (lg_sl as).length ≤ maxL)
    (body : ∀ (p : Program) (e : Env) (s : State) (m : MethodId) (below : List Frame) (meth : Method) (c : Code) (A : Nat → Prop) (ls : Array Slot), Cx p s m as.toArray meth c G cc ws y.cls ret maxL A → va_D A w → va_P G.1 vwCl w s.heap → va_S A s.heap s.heap [] → lv_has ls maxL (lv_args 0 as) →
      W p l e rm s m as.toArray below meth c s.heap [] 0 0 (MQ below (qE G A w' r) as.toArray s 0 0 A) (F0 m 0 ls [])) : QM l G y ws rm as w w' r := by
  intro sz
  refine Met.ofW (cc := cc) (maxL := maxL) (ret := ret) hy hw ?_
  intro p e s m args below meth c s₁ B hml hv
  obtain ⟨rfl, hsz, hP, hK, hX, hD0⟩ := hv
  subst hsz
  have hl := lv_entry as (n := maxL) hL
  rw [lg_entry_eq]
  generalize (lg_sl as ++ List.replicate (maxL - (lg_sl as).length) Slot.unset).toArray = ls at hl ⊢
  exact body p e s m below meth c _ ls ⟨B.exec, B.bytes, hml, findClass_of_methodNamed B.named, atoms_spec (ws := ws) B.pre, B.returns, B.notSynchronized, hK, hX, fun q h => Or.inr h⟩ (hD0.self (sz := s.heap.size)) hP va_S.rf hl
/-- the addresses alone decide -/
theorem va_D.ad {A : Nat → Prop} {w w' : va_W} (h : va_D A w) (e : w.map (·.1) = w'.map (·.1)) : va_D A w' := by
  have key : ∀ (k : Nat) (q : Nat × va_E), w'[k]? = some q → ∃ q0, w[k]? = some q0 ∧ q0.1 = q.1 := by
    intro k q hk
    have h1 : (w'.map (·.1))[k]? = some q.1 := by rw [List.getElem?_map, hk]; rfl
    rw [← e, List.getElem?_map] at h1
    cases hw : w[k]? with
    | none => rw [hw] at h1; cases h1
    | some q0 => rw [hw] at h1; exact ⟨q0, rfl, Option.some.inj h1⟩
  refine ⟨fun i j x y hi hj hxy => ?_, fun k q hk => ?_⟩
  · obtain ⟨x0, h1, h2⟩ := key i x hi
    obtain ⟨y0, h3, h4⟩ := key j y hj
    exact h.1 i j x0 y0 h1 h3 (h2.trans (hxy.trans h4.symm))
  · obtain ⟨q0, h1, h2⟩ := key k q hk
    rw [← h2]
    exact h.2 k q0 h1
theorem va_P.mem {D : va_G} {cl : List vw_C} {w : va_W} {H : Heap} : va_P D cl w H ↔ ∀ q ∈ w, va_at D cl q H := by
  constructor
  · intro h q hq
    obtain ⟨i, hi⟩ := List.getElem?_of_mem hq
    exact h i q hi
  · intro h k q hk
    exact h q (List.mem_of_getElem? hk)
theorem va_P.perm {D : va_G} {cl : List vw_C} {w w' : va_W} {H : Heap} (h : va_P D cl w H) (e : w.Perm w') : va_P D cl w' H := va_P.mem.mpr fun q hq => va_P.mem.mp h q (e.mem_iff.mpr hq)
theorem va_D.nodup {A : Nat → Prop} {w : va_W} : va_D A w ↔ (w.map (·.1)).Nodup ∧ ∀ q ∈ w, A q.1 := by
  constructor
  · intro h
    refine ⟨?_, fun q hq => ?_⟩
    · rw [List.Nodup, List.pairwise_iff_getElem]
      intro i j hi hj hij e
      rw [List.length_map] at hi hj
      rw [List.getElem_map, List.getElem_map] at e
      exact absurd (h.1 i j w[i] w[j] (List.getElem?_eq_getElem hi) (List.getElem?_eq_getElem hj) e) (Nat.ne_of_lt hij)
    · obtain ⟨i, hi⟩ := List.getElem?_of_mem hq
      exact h.2 i q hi
  · intro h
    refine ⟨fun i j x y hi hj hxy => ?_, fun k q hk => h.2 q (List.mem_of_getElem? hk)⟩
    have hp := List.pairwise_iff_getElem.mp h.1
    obtain ⟨hi1, hi2⟩ := List.getElem?_eq_some_iff.mp hi
    obtain ⟨hj1, hj2⟩ := List.getElem?_eq_some_iff.mp hj
    rcases Nat.lt_trichotomy i j with q | q | q
    · exact absurd (by rw [List.getElem_map, List.getElem_map, hi2, hj2]; exact hxy) (hp i j (by rw [List.length_map]; exact hi1) (by rw [List.length_map]; exact hj1) q)
    · exact q
    · exact absurd (by rw [List.getElem_map, List.getElem_map, hi2, hj2]; exact hxy.symm) (hp j i (by rw [List.length_map]; exact hj1) (by rw [List.length_map]; exact hi1) q)
theorem va_D.perm {A : Nat → Prop} {w w' : va_W} (h : va_D A w) (e : w.Perm w') : va_D A w' := by
  rw [va_D.nodup] at h ⊢
  exact ⟨(e.map (·.1)).nodup_iff.mp h.1, fun q hq => h.2 q (e.mem_iff.mpr hq)⟩
/-- behind a call on the part wc: the rest is as it was -/
theorem q_join {A : Nat → Prop} {G : Gx} {ws wr wc wc' ws' : va_W} {H H1 : Heap} (hP : va_P G.1 vwCl ws H) (hD : va_D A ws) (hp : ws.Perm (wr ++ wc)) (hp' : (wr ++ wc').Perm ws') (hk : ∀ q : Nat, q < H.size → ¬ va_A wc H.size q → H1[q]? = H[q]?) (hP1 : va_P G.1 vwCl wc' H1) : va_P G.1 vwCl ws' H1 := by
  refine va_P.perm (va_P.mem.mpr fun q hq => ?_) hp'
  rcases List.mem_append.mp hq with h | h
  · have h0 := va_P.mem.mp (hP.perm hp) q (List.mem_append_left _ h)
    refine h0.kept (hk q.1 h0.lt ?_)
    have hN := (va_D.nodup.mp (hD.perm hp)).1
    rw [List.map_append, List.nodup_append] at hN
    rintro (⟨k, e, z⟩ | z)
    · exact hN.2.2 q.1 (List.mem_map_of_mem h) q.1 (List.mem_map.mpr ⟨(q.1, e), List.mem_of_getElem? z, rfl⟩) rfl
    · exact absurd h0.lt (Nat.not_lt.mpr z)
  · exact va_P.mem.mp hP1 q h
theorem q_free {A : Nat → Prop} {ws wr wc : va_W} {H0 H : Heap} {locs : List Loc} (hD : va_D A ws) (hp : ws.Perm (wr ++ wc)) (hS : va_S A H0 H locs) (hA : ∀ q, H0.size ≤ q → A q) : ∀ q, va_A wc H.size q → A q := by
  rintro q (⟨k, e, z⟩ | z)
  · exact (va_D.nodup.mp (hD.perm hp)).2 (q, e) (List.mem_append_right _ (List.mem_of_getElem? z))
  · exact hA q (Nat.le_trans hS.1 z)
theorem q_sub {A : Nat → Prop} {ws wr wc : va_W} (hD : va_D A ws) (hp : ws.Perm (wr ++ wc)) : va_D (fun _ => True) wc := by
  have h := va_D.nodup.mp (hD.perm hp)
  have h1 := h.1
  rw [List.map_append, List.nodup_append] at h1
  exact va_D.nodup.mpr ⟨h1.2.1, fun _ _ => trivial⟩
theorem qP.blind {G : Gx} {as : List Value} {w : va_W} {sz : Nat} : FrameBlind (qP G as w sz) := by
  rintro a U g mk ⟨h0, h1, h2, h3, h4, h5⟩
  exact ⟨h0, h1, h2, gK.moved (u := U) (U := U.calling g mk a) (Vm.Alike.refl U.vm) h3, gX.moved (u := U) (U := U.calling g mk a) (State.WarmedH.refl U) h4, h5⟩
section QR
variable {p : Program} {l : Launch} {e : Env} {R : Room} {s : State} {m : MethodId} {args : Array Value} {below : List Frame} {meth : Method} {c : Code} {H : Heap} {locs : List Loc} {cells slots : Nat} {Q : State → Prop}
variable {G : Gx} {cc : ByteArray} {Ts : List Cond} {own : String} {ret : Option FieldType} {nL : Nat} {A : Nat → Prop} {pc : Nat} {ls : Array Slot} {rest : List Value} {ws : va_W} {a : Nat}
/-- what a call's end gives -/
theorem q_callB {mc ms : Nat} {st0 : List Value} {aa : Array Value} {wc wc' wr ws' : va_W} {r : Option Value} (hr : va_Run p l e R s m args below meth c H locs cells slots 0 0 (F0 m pc ls st0) rest (qE G (va_A wc H.size) wc' r aa) (va_A wc H.size)) (hA : ∀ q : Nat, s.heap.size ≤ q → A q) (hP : va_P G.1 vwCl ws H) (hD : va_D A ws) (hS : va_S A s.heap H locs) (hp : ws.Perm (wr ++ wc)) (hp' : (wr ++ wc').Perm ws')
    (kk : ∀ (H1 : Heap) (locs1 : List Loc), va_P G.1 vwCl ws' H1 → va_S A s.heap H1 locs1 → W p l e R s m args below meth c H1 locs1 cells slots Q (F0 m (pc + 3) ls (r.toList ++ rest))) : W p l e R s m args below meth c H locs cells slots Q (F0 m pc ls st0) := by
  have hF := q_free hD hp hS hA
  intro T hT X
  obtain ⟨v, st₀, t, T', L, h0, X', hL, e1, e2, ⟨⟨hv, hb⟩, hz, hk⟩, st⟩ := hr T hT X
  cases hv
  rw [h0] at hz hk
  have hP1 : va_P G.1 vwCl ws' T'.heap := by
    rw [e1]
    exact q_join hP hD hp hp' hk hb
  obtain ⟨t2, a1, b1⟩ := kk T'.heap (locs ++ L) hP1
    ⟨Nat.le_trans hS.1 (by rw [e1]; exact hz), fun q h1 h2 => by rw [e1, hk q (Nat.lt_of_lt_of_le h1 hS.1) (fun z => h2 (hF q z))]; exact hS.2.1 q h1 h2, fun q hq => by
      rcases List.mem_append.mp hq with h | h
      · exact hS.2.2 q h
      · exact hF _ (hL q h)⟩ T' rfl X'
  exact ⟨t2, st t2 a1, b1⟩
theorem q_pre (C : Cx p s m args meth c G cc Ts own ret nL A) {as : List Value} {wr wc : va_W} (hP : va_P G.1 vwCl ws H) (hD : va_D A ws) (hS : va_S A s.heap H locs) (hp : ws.Perm (wr ++ wc)) : ∀ U : State, U.heap = H → s.WarmedH U.vm → qP G as wc H.size as.toArray U := by
  intro U hU hW
  refine ⟨rfl, by rw [hU], by rw [hU]; exact va_P.mem.mpr fun q hq => va_P.mem.mp (hP.perm hp) q (List.mem_append_right _ hq), gK.moved hW.alike C.2.2.2.2.2.2.2.1, ?_, q_sub hD hp⟩
  rw [hU]
  exact gX.moved hW ((C.2.2.2.2.2.2.2.2.1.kept hS.2.1).narrow (q_free hD hp hS C.2.2.2.2.2.2.2.2.2))
/-- invokevirtual of a method with a quiet contract -/
theorem q_V (C : Cx p s m args meth c G cc Ts own ret nL A) {y : MethodName} {bytes : ByteArray} {maxL n index : Nat} {retY : Option FieldType} {wsY wsY' : List Cond} {rmY : Room} {As : List Value} {wc wc' wr ws' : va_W} {r : Option Value} {b ci q0 : Nat} {fs : List Value} {rc : vw_C}
    (hM : QM l G y wsY rmY (.ref b :: As) wc wc' r) (hT : GoodIn Ts (wsV own index rc.1 y wsY)) (hw : wsY = Cond.code y bytes maxL retY :: wsY') (hrc : rmY.cells = 0 ∧ rmY.slots = 0)
    (hd : y.cls = rc.1 ∧ y.cls ≠ "java/lang/invoke/MethodHandle" ∧ y.cls ≠ "java/lang/invoke/VarHandle" ∧ (parseMethodDescriptor y.desc).map (fun d => d.parameters.length) = some n) (hR : rmY.frames + 1 ≤ R.frames ∧ 8 + (maxL + 11) + rmY.locals ≤ R.locals) (hn : As.length = n)
    (hP : va_P G.1 vwCl ws H) (hD : va_D A ws) (hS : va_S A s.heap H locs) (he : ws[q0]? = some (b, .inr (ci, fs))) (hc : vwCl[ci]? = some rc) (hp : ws.Perm (wr ++ wc)) (hp' : (wr ++ wc').Perm ws') (hl : ls.size = nL) (hro : (rest.map fun v => v.category).sum ≤ 8) (hcs : cells ≤ R.cells ∧ slots ≤ R.slots) {st0 : List Value} (hst : st0 = As.reverse ++ .ref b :: rest) (hdg : decode cc pc = .ok (.invokevirtual index, 3))
    (kk : ∀ (H1 : Heap) (locs1 : List Loc), va_P G.1 vwCl ws' H1 → va_S A s.heap H1 locs1 → W p l e R s m args below meth c H1 locs1 cells slots Q (F0 m (pc + 3) ls (r.toList ++ rest))) : W p l e R s m args below meth c H locs cells slots Q (F0 m pc ls st0) :=
  q_callB (mc := 0) (ms := 0) (va_runV (As := As) (rest := rest) ⟨C.1, C.2.1, C.2.2.1, C.2.2.2.1, C.2.2.2.2.1⟩ (hM H.size) (cwV n C.2.2.2.2.1 hT hw hrc.1 hrc.2 hd hR) ⟨qP.blind, va_recv C.2.2.2.2.2.2.2.1 hP hc he, q_pre C hP hD hS hp⟩ rfl hn hl hst (lv_room hro) hdg hcs) C.2.2.2.2.2.2.2.2.2 hP hD hS hp hp' kk
/-- invokevirtual, by a receiver of a known kind -/
theorem q_VR (C : Cx p s m args meth c G cc Ts own ret nL A) {y : MethodName} {bytes : ByteArray} {maxL n index : Nat} {retY : Option FieldType} {wsY wsY' : List Cond} {rmY : Room} {As : List Value} {wc wc' wr ws' : va_W} {r : Option Value} {b : Nat} {Cn : String}
    (hM : QM l G y wsY rmY (.ref b :: As) wc wc' r) (hT : GoodIn Ts (wsV own index Cn y wsY)) (hw : wsY = Cond.code y bytes maxL retY :: wsY') (hrc : rmY.cells = 0 ∧ rmY.slots = 0)
    (hd : y.cls = Cn ∧ y.cls ≠ "java/lang/invoke/MethodHandle" ∧ y.cls ≠ "java/lang/invoke/VarHandle" ∧ (parseMethodDescriptor y.desc).map (fun d => d.parameters.length) = some n) (hR : rmY.frames + 1 ≤ R.frames ∧ 8 + (maxL + 11) + rmY.locals ≤ R.locals) (hn : As.length = n)
    (hP : va_P G.1 vwCl ws H) (hD : va_D A ws) (hS : va_S A s.heap H locs) (hrv : ∃ cellB : Cell, H[b]? = some cellB ∧ cellB.vm.isStatics = false ∧ s.vm.findClass Cn = some cellB.cls) (hp : ws.Perm (wr ++ wc)) (hp' : (wr ++ wc').Perm ws') (hl : ls.size = nL) (hro : (rest.map fun v => v.category).sum ≤ 8) (hcs : cells ≤ R.cells ∧ slots ≤ R.slots) {st0 : List Value} (hst : st0 = As.reverse ++ .ref b :: rest) (hdg : decode cc pc = .ok (.invokevirtual index, 3))
    (kk : ∀ (H1 : Heap) (locs1 : List Loc), va_P G.1 vwCl ws' H1 → va_S A s.heap H1 locs1 → W p l e R s m args below meth c H1 locs1 cells slots Q (F0 m (pc + 3) ls (r.toList ++ rest))) : W p l e R s m args below meth c H locs cells slots Q (F0 m pc ls st0) :=
  q_callB (mc := 0) (ms := 0) (va_runV (As := As) (rest := rest) ⟨C.1, C.2.1, C.2.2.1, C.2.2.2.1, C.2.2.2.2.1⟩ (hM H.size) (cwV n C.2.2.2.2.1 hT hw hrc.1 hrc.2 hd hR) ⟨qP.blind, hrv, q_pre C hP hD hS hp⟩ rfl hn hl hst (lv_room hro) hdg hcs) C.2.2.2.2.2.2.2.2.2 hP hD hS hp hp' kk
theorem q_VRi (C : Cx p s m args meth c G cc Ts own ret nL A) {y : MethodName} {bytes : ByteArray} {maxL n index : Nat} {retY : Option FieldType} {wsY wsY' : List Cond} {rmY : Room} {As : List Value} {wc wc' wr ws' : va_W} {r : Int32} {b : Nat} {Cn : String}
    (hM : QM l G y wsY rmY (.ref b :: As) wc wc' (some (.int r))) (hT : GoodIn Ts (wsV own index Cn y wsY)) (hw : wsY = Cond.code y bytes maxL retY :: wsY') (hrc : rmY.cells = 0 ∧ rmY.slots = 0)
    (hd : y.cls = Cn ∧ y.cls ≠ "java/lang/invoke/MethodHandle" ∧ y.cls ≠ "java/lang/invoke/VarHandle" ∧ (parseMethodDescriptor y.desc).map (fun d => d.parameters.length) = some n) (hR : rmY.frames + 1 ≤ R.frames ∧ 8 + (maxL + 11) + rmY.locals ≤ R.locals) (hn : As.length = n)
    (hP : va_P G.1 vwCl ws H) (hD : va_D A ws) (hS : va_S A s.heap H locs) (hrv : ∃ cellB : Cell, H[b]? = some cellB ∧ cellB.vm.isStatics = false ∧ s.vm.findClass Cn = some cellB.cls) (hp : ws.Perm (wr ++ wc)) (hp' : (wr ++ wc').Perm ws') (hl : ls.size = nL) (hro : (rest.map fun v => v.category).sum ≤ 8) (hcs : cells ≤ R.cells ∧ slots ≤ R.slots) {st0 : List Value} (hst : st0 = As.reverse ++ .ref b :: rest) (hdg : decode cc pc = .ok (.invokevirtual index, 3))
    (kk : ∀ (H1 : Heap) (locs1 : List Loc), va_P G.1 vwCl ws' H1 → va_S A s.heap H1 locs1 → W p l e R s m args below meth c H1 locs1 cells slots Q (F0 m (pc + 3) ls (.int r :: rest))) : W p l e R s m args below meth c H locs cells slots Q (F0 m pc ls st0) :=
  q_VR C hM hT hw hrc hd hR hn hP hD hS hrv hp hp' hl hro hcs hst hdg kk
theorem q_VRv (C : Cx p s m args meth c G cc Ts own ret nL A) {y : MethodName} {bytes : ByteArray} {maxL n index : Nat} {retY : Option FieldType} {wsY wsY' : List Cond} {rmY : Room} {As : List Value} {wc wc' wr ws' : va_W} {b : Nat} {Cn : String}
    (hM : QM l G y wsY rmY (.ref b :: As) wc wc' none) (hT : GoodIn Ts (wsV own index Cn y wsY)) (hw : wsY = Cond.code y bytes maxL retY :: wsY') (hrc : rmY.cells = 0 ∧ rmY.slots = 0)
    (hd : y.cls = Cn ∧ y.cls ≠ "java/lang/invoke/MethodHandle" ∧ y.cls ≠ "java/lang/invoke/VarHandle" ∧ (parseMethodDescriptor y.desc).map (fun d => d.parameters.length) = some n) (hR : rmY.frames + 1 ≤ R.frames ∧ 8 + (maxL + 11) + rmY.locals ≤ R.locals) (hn : As.length = n)
    (hP : va_P G.1 vwCl ws H) (hD : va_D A ws) (hS : va_S A s.heap H locs) (hrv : ∃ cellB : Cell, H[b]? = some cellB ∧ cellB.vm.isStatics = false ∧ s.vm.findClass Cn = some cellB.cls) (hp : ws.Perm (wr ++ wc)) (hp' : (wr ++ wc').Perm ws') (hl : ls.size = nL) (hro : (rest.map fun v => v.category).sum ≤ 8) (hcs : cells ≤ R.cells ∧ slots ≤ R.slots) {st0 : List Value} (hst : st0 = As.reverse ++ .ref b :: rest) (hdg : decode cc pc = .ok (.invokevirtual index, 3))
    (kk : ∀ (H1 : Heap) (locs1 : List Loc), va_P G.1 vwCl ws' H1 → va_S A s.heap H1 locs1 → W p l e R s m args below meth c H1 locs1 cells slots Q (F0 m (pc + 3) ls rest)) : W p l e R s m args below meth c H locs cells slots Q (F0 m pc ls st0) :=
  q_VR C hM hT hw hrc hd hR hn hP hD hS hrv hp hp' hl hro hcs hst hdg kk
/-- invokestatic -/
theorem q_S (C : Cx p s m args meth c G cc Ts own ret nL A) {y : MethodName} {bytes : ByteArray} {maxL n index : Nat} {retY : Option FieldType} {wsY wsY' : List Cond} {rmY : Room} {As : List Value} {wc wc' wr ws' : va_W} {r : Option Value}
    (hM : QM l G y wsY rmY As wc wc' r) (hT : GoodIn Ts (va_wsS own index y wsY)) (hw : wsY = Cond.code y bytes maxL retY :: wsY') (hrc : rmY.cells = 0 ∧ rmY.slots = 0)
    (hd : y.cls ≠ "java/lang/invoke/MethodHandle" ∧ y.cls ≠ "java/lang/invoke/VarHandle" ∧ (parseMethodDescriptor y.desc).map (fun d => d.parameters.length) = some n) (hR : rmY.frames + 1 ≤ R.frames ∧ 8 + (maxL + 11) + rmY.locals ≤ R.locals) (hn : As.length = n)
    (hP : va_P G.1 vwCl ws H) (hD : va_D A ws) (hS : va_S A s.heap H locs) (hp : ws.Perm (wr ++ wc)) (hp' : (wr ++ wc').Perm ws') (hl : ls.size = nL) (hro : (rest.map fun v => v.category).sum ≤ 8) (hcs : cells ≤ R.cells ∧ slots ≤ R.slots) {st0 : List Value} (hst : st0 = As.reverse ++ rest) (hdg : decode cc pc = .ok (.invokestatic index, 3))
    (kk : ∀ (H1 : Heap) (locs1 : List Loc), va_P G.1 vwCl ws' H1 → va_S A s.heap H1 locs1 → W p l e R s m args below meth c H1 locs1 cells slots Q (F0 m (pc + 3) ls (r.toList ++ rest))) : W p l e R s m args below meth c H locs cells slots Q (F0 m pc ls st0) :=
  q_callB (mc := 0) (ms := 0) (va_runS (As := As) (rest := rest) ⟨C.1, C.2.1, C.2.2.1, C.2.2.2.1, C.2.2.2.2.1⟩ (hM H.size) (va_cwS n C.2.2.2.2.1 hT hw hrc.1 hrc.2 hd hR) ⟨qP.blind, q_pre C hP hD hS hp⟩ rfl hn hl hst (lv_room hro) hdg hcs) C.2.2.2.2.2.2.2.2.2 hP hD hS hp hp' kk
theorem q_Vi (C : Cx p s m args meth c G cc Ts own ret nL A) {y : MethodName} {bytes : ByteArray} {maxL n index : Nat} {retY : Option FieldType} {wsY wsY' : List Cond} {rmY : Room} {As : List Value} {wc wc' wr ws' : va_W} {r : Int32} {b ci q0 : Nat} {fs : List Value} {rc : vw_C}
    (hM : QM l G y wsY rmY (.ref b :: As) wc wc' (some (.int r))) (hT : GoodIn Ts (wsV own index rc.1 y wsY)) (hw : wsY = Cond.code y bytes maxL retY :: wsY') (hrc : rmY.cells = 0 ∧ rmY.slots = 0)
    (hd : y.cls = rc.1 ∧ y.cls ≠ "java/lang/invoke/MethodHandle" ∧ y.cls ≠ "java/lang/invoke/VarHandle" ∧ (parseMethodDescriptor y.desc).map (fun d => d.parameters.length) = some n) (hR : rmY.frames + 1 ≤ R.frames ∧ 8 + (maxL + 11) + rmY.locals ≤ R.locals) (hn : As.length = n)
    (hP : va_P G.1 vwCl ws H) (hD : va_D A ws) (hS : va_S A s.heap H locs) (he : ws[q0]? = some (b, .inr (ci, fs))) (hc : vwCl[ci]? = some rc) (hp : ws.Perm (wr ++ wc)) (hp' : (wr ++ wc').Perm ws') (hl : ls.size = nL) (hro : (rest.map fun v => v.category).sum ≤ 8) (hcs : cells ≤ R.cells ∧ slots ≤ R.slots) {st0 : List Value} (hst : st0 = As.reverse ++ .ref b :: rest) (hdg : decode cc pc = .ok (.invokevirtual index, 3))
    (kk : ∀ (H1 : Heap) (locs1 : List Loc), va_P G.1 vwCl ws' H1 → va_S A s.heap H1 locs1 → W p l e R s m args below meth c H1 locs1 cells slots Q (F0 m (pc + 3) ls (.int r :: rest))) : W p l e R s m args below meth c H locs cells slots Q (F0 m pc ls st0) :=
  q_V C hM hT hw hrc hd hR hn hP hD hS he hc hp hp' hl hro hcs hst hdg kk
theorem q_Vl (C : Cx p s m args meth c G cc Ts own ret nL A) {y : MethodName} {bytes : ByteArray} {maxL n index : Nat} {retY : Option FieldType} {wsY wsY' : List Cond} {rmY : Room} {As : List Value} {wc wc' wr ws' : va_W} {r : Int64} {b ci q0 : Nat} {fs : List Value} {rc : vw_C}
    (hM : QM l G y wsY rmY (.ref b :: As) wc wc' (some (.long r))) (hT : GoodIn Ts (wsV own index rc.1 y wsY)) (hw : wsY = Cond.code y bytes maxL retY :: wsY') (hrc : rmY.cells = 0 ∧ rmY.slots = 0)
    (hd : y.cls = rc.1 ∧ y.cls ≠ "java/lang/invoke/MethodHandle" ∧ y.cls ≠ "java/lang/invoke/VarHandle" ∧ (parseMethodDescriptor y.desc).map (fun d => d.parameters.length) = some n) (hR : rmY.frames + 1 ≤ R.frames ∧ 8 + (maxL + 11) + rmY.locals ≤ R.locals) (hn : As.length = n)
    (hP : va_P G.1 vwCl ws H) (hD : va_D A ws) (hS : va_S A s.heap H locs) (he : ws[q0]? = some (b, .inr (ci, fs))) (hc : vwCl[ci]? = some rc) (hp : ws.Perm (wr ++ wc)) (hp' : (wr ++ wc').Perm ws') (hl : ls.size = nL) (hro : (rest.map fun v => v.category).sum ≤ 8) (hcs : cells ≤ R.cells ∧ slots ≤ R.slots) {st0 : List Value} (hst : st0 = As.reverse ++ .ref b :: rest) (hdg : decode cc pc = .ok (.invokevirtual index, 3))
    (kk : ∀ (H1 : Heap) (locs1 : List Loc), va_P G.1 vwCl ws' H1 → va_S A s.heap H1 locs1 → W p l e R s m args below meth c H1 locs1 cells slots Q (F0 m (pc + 3) ls (.long r :: rest))) : W p l e R s m args below meth c H locs cells slots Q (F0 m pc ls st0) :=
  q_V C hM hT hw hrc hd hR hn hP hD hS he hc hp hp' hl hro hcs hst hdg kk
theorem q_Vv (C : Cx p s m args meth c G cc Ts own ret nL A) {y : MethodName} {bytes : ByteArray} {maxL n index : Nat} {retY : Option FieldType} {wsY wsY' : List Cond} {rmY : Room} {As : List Value} {wc wc' wr ws' : va_W} {b ci q0 : Nat} {fs : List Value} {rc : vw_C}
    (hM : QM l G y wsY rmY (.ref b :: As) wc wc' none) (hT : GoodIn Ts (wsV own index rc.1 y wsY)) (hw : wsY = Cond.code y bytes maxL retY :: wsY') (hrc : rmY.cells = 0 ∧ rmY.slots = 0)
    (hd : y.cls = rc.1 ∧ y.cls ≠ "java/lang/invoke/MethodHandle" ∧ y.cls ≠ "java/lang/invoke/VarHandle" ∧ (parseMethodDescriptor y.desc).map (fun d => d.parameters.length) = some n) (hR : rmY.frames + 1 ≤ R.frames ∧ 8 + (maxL + 11) + rmY.locals ≤ R.locals) (hn : As.length = n)
    (hP : va_P G.1 vwCl ws H) (hD : va_D A ws) (hS : va_S A s.heap H locs) (he : ws[q0]? = some (b, .inr (ci, fs))) (hc : vwCl[ci]? = some rc) (hp : ws.Perm (wr ++ wc)) (hp' : (wr ++ wc').Perm ws') (hl : ls.size = nL) (hro : (rest.map fun v => v.category).sum ≤ 8) (hcs : cells ≤ R.cells ∧ slots ≤ R.slots) {st0 : List Value} (hst : st0 = As.reverse ++ .ref b :: rest) (hdg : decode cc pc = .ok (.invokevirtual index, 3))
    (kk : ∀ (H1 : Heap) (locs1 : List Loc), va_P G.1 vwCl ws' H1 → va_S A s.heap H1 locs1 → W p l e R s m args below meth c H1 locs1 cells slots Q (F0 m (pc + 3) ls rest)) : W p l e R s m args below meth c H locs cells slots Q (F0 m pc ls st0) :=
  q_V C hM hT hw hrc hd hR hn hP hD hS he hc hp hp' hl hro hcs hst hdg kk
theorem q_Si (C : Cx p s m args meth c G cc Ts own ret nL A) {y : MethodName} {bytes : ByteArray} {maxL n index : Nat} {retY : Option FieldType} {wsY wsY' : List Cond} {rmY : Room} {As : List Value} {wc wc' wr ws' : va_W} {r : Int32}
    (hM : QM l G y wsY rmY As wc wc' (some (.int r))) (hT : GoodIn Ts (va_wsS own index y wsY)) (hw : wsY = Cond.code y bytes maxL retY :: wsY') (hrc : rmY.cells = 0 ∧ rmY.slots = 0)
    (hd : y.cls ≠ "java/lang/invoke/MethodHandle" ∧ y.cls ≠ "java/lang/invoke/VarHandle" ∧ (parseMethodDescriptor y.desc).map (fun d => d.parameters.length) = some n) (hR : rmY.frames + 1 ≤ R.frames ∧ 8 + (maxL + 11) + rmY.locals ≤ R.locals) (hn : As.length = n)
    (hP : va_P G.1 vwCl ws H) (hD : va_D A ws) (hS : va_S A s.heap H locs) (hp : ws.Perm (wr ++ wc)) (hp' : (wr ++ wc').Perm ws') (hl : ls.size = nL) (hro : (rest.map fun v => v.category).sum ≤ 8) (hcs : cells ≤ R.cells ∧ slots ≤ R.slots) {st0 : List Value} (hst : st0 = As.reverse ++ rest) (hdg : decode cc pc = .ok (.invokestatic index, 3))
    (kk : ∀ (H1 : Heap) (locs1 : List Loc), va_P G.1 vwCl ws' H1 → va_S A s.heap H1 locs1 → W p l e R s m args below meth c H1 locs1 cells slots Q (F0 m (pc + 3) ls (.int r :: rest))) : W p l e R s m args below meth c H locs cells slots Q (F0 m pc ls st0) :=
  q_S C hM hT hw hrc hd hR hn hP hD hS hp hp' hl hro hcs hst hdg kk
theorem q_Sl (C : Cx p s m args meth c G cc Ts own ret nL A) {y : MethodName} {bytes : ByteArray} {maxL n index : Nat} {retY : Option FieldType} {wsY wsY' : List Cond} {rmY : Room} {As : List Value} {wc wc' wr ws' : va_W} {r : Int64}
    (hM : QM l G y wsY rmY As wc wc' (some (.long r))) (hT : GoodIn Ts (va_wsS own index y wsY)) (hw : wsY = Cond.code y bytes maxL retY :: wsY') (hrc : rmY.cells = 0 ∧ rmY.slots = 0)
    (hd : y.cls ≠ "java/lang/invoke/MethodHandle" ∧ y.cls ≠ "java/lang/invoke/VarHandle" ∧ (parseMethodDescriptor y.desc).map (fun d => d.parameters.length) = some n) (hR : rmY.frames + 1 ≤ R.frames ∧ 8 + (maxL + 11) + rmY.locals ≤ R.locals) (hn : As.length = n)
    (hP : va_P G.1 vwCl ws H) (hD : va_D A ws) (hS : va_S A s.heap H locs) (hp : ws.Perm (wr ++ wc)) (hp' : (wr ++ wc').Perm ws') (hl : ls.size = nL) (hro : (rest.map fun v => v.category).sum ≤ 8) (hcs : cells ≤ R.cells ∧ slots ≤ R.slots) {st0 : List Value} (hst : st0 = As.reverse ++ rest) (hdg : decode cc pc = .ok (.invokestatic index, 3))
    (kk : ∀ (H1 : Heap) (locs1 : List Loc), va_P G.1 vwCl ws' H1 → va_S A s.heap H1 locs1 → W p l e R s m args below meth c H1 locs1 cells slots Q (F0 m (pc + 3) ls (.long r :: rest))) : W p l e R s m args below meth c H locs cells slots Q (F0 m pc ls st0) :=
  q_S C hM hT hw hrc hd hR hn hP hD hS hp hp' hl hro hcs hst hdg kk
theorem q_Sv (C : Cx p s m args meth c G cc Ts own ret nL A) {y : MethodName} {bytes : ByteArray} {maxL n index : Nat} {retY : Option FieldType} {wsY wsY' : List Cond} {rmY : Room} {As : List Value} {wc wc' wr ws' : va_W} 
    (hM : QM l G y wsY rmY As wc wc' none) (hT : GoodIn Ts (va_wsS own index y wsY)) (hw : wsY = Cond.code y bytes maxL retY :: wsY') (hrc : rmY.cells = 0 ∧ rmY.slots = 0)
    (hd : y.cls ≠ "java/lang/invoke/MethodHandle" ∧ y.cls ≠ "java/lang/invoke/VarHandle" ∧ (parseMethodDescriptor y.desc).map (fun d => d.parameters.length) = some n) (hR : rmY.frames + 1 ≤ R.frames ∧ 8 + (maxL + 11) + rmY.locals ≤ R.locals) (hn : As.length = n)
    (hP : va_P G.1 vwCl ws H) (hD : va_D A ws) (hS : va_S A s.heap H locs) (hp : ws.Perm (wr ++ wc)) (hp' : (wr ++ wc').Perm ws') (hl : ls.size = nL) (hro : (rest.map fun v => v.category).sum ≤ 8) (hcs : cells ≤ R.cells ∧ slots ≤ R.slots) {st0 : List Value} (hst : st0 = As.reverse ++ rest) (hdg : decode cc pc = .ok (.invokestatic index, 3))
    (kk : ∀ (H1 : Heap) (locs1 : List Loc), va_P G.1 vwCl ws' H1 → va_S A s.heap H1 locs1 → W p l e R s m args below meth c H1 locs1 cells slots Q (F0 m (pc + 3) ls rest)) : W p l e R s m args below meth c H locs cells slots Q (F0 m pc ls st0) :=
  q_S C hM hT hw hrc hd hR hn hP hD hS hp hp' hl hro hcs hst hdg kk
theorem lv_tI {x y : Int32} (h : x = y) (k : W p l e R s m args below meth c H locs cells slots Q (F0 m pc ls (.int y :: rest))) : W p l e R s m args below meth c H locs cells slots Q (F0 m pc ls (.int x :: rest)) := by
  subst h
  exact k
theorem lv_tL {x y : Int64} (h : x = y) (k : W p l e R s m args below meth c H locs cells slots Q (F0 m pc ls (.long y :: rest))) : W p l e R s m args below meth c H locs cells slots Q (F0 m pc ls (.long x :: rest)) := by
  subst h
  exact k
/-- fields -/
theorem q_get (C : Cx p s m args meth c G cc Ts own ret nL A) (hP : va_P G.1 vwCl ws H) {q0 ci index : Nat} {fs : List Value} (he : ws[q0]? = some (a, .inr (ci, fs))) {Cn : String} {T : u_T} {N : Nat} (hc : vwCl[ci]? = some (Cn, T, N)) (hin : ∀ w ∈ u_ws Cn T N, w ∈ Ts) (k : Nat) (hk : k < N) (hlink : Cond.fieldLink own index (T k).1 (T k).2.1 (T k).2.2.1 ∈ Ts) {v : Value} (hv : fs[k]? = some v) (hdg : decode cc pc = .ok (.getfield index, 3))
    (kk : W p l e R s m args below meth c H locs cells slots Q (F0 m (pc + 3) ls (v :: rest))) : W p l e R s m args below meth c H locs cells slots Q (F0 m pc ls (.ref a :: rest)) :=
  va_get C.1 C.2.1 C.2.2.2.2.1 hin C.2.2.2.1 C.2.2.2.2.2.2.2.1 hP q0 he hc k hk (C.2.2.2.2.1 _ hlink) (fun _ h9 => h9) hv hdg kk
theorem q_put (C : Cx p s m args meth c G cc Ts own ret nL A) (hP : va_P G.1 vwCl ws H) (hD : va_D A ws) (hS : va_S A s.heap H locs) {q0 ci index : Nat} {fs : List Value} (he : ws[q0]? = some (a, .inr (ci, fs))) {Cn : String} {T : u_T} {N : Nat} (hc : vwCl[ci]? = some (Cn, T, N)) (hin : ∀ w ∈ u_ws Cn T N, w ∈ Ts) {ty0 : Nat → FieldType} (hty : ∀ k, k < N → parseFieldDescriptor (T k).2.2.1 = some (ty0 k)) (hnm : ∀ a, a < N → ∀ b, b < N → a ≠ b → (T a).2.1 ≠ (T b).2.1) (k : Nat) (hk : k < N) (hlink : Cond.fieldLink own index (T k).1 (T k).2.1 (T k).2.2.1 ∈ Ts) (hfin : (T k).2.2.2 = false) {v : Value} (hn : narrow (ty0 k) v = v) (hfit : fits (ty0 k) v = true) (hl : k < fs.length) {ws' : va_W} (hs : ws.set q0 (a, .inr (ci, fs.set k v)) = ws') (hdg : decode cc pc = .ok (.putfield index, 3))
    (kk : ∀ (H1 : Heap) (locs1 : List Loc), va_P G.1 vwCl ws' H1 → va_S A s.heap H1 locs1 → W p l e R s m args below meth c H1 locs1 cells slots Q (F0 m (pc + 3) ls rest)) : W p l e R s m args below meth c H locs cells slots Q (F0 m pc ls (v :: .ref a :: rest)) := by
  subst hs
  exact va_put C.1 C.2.1 C.2.2.2.2.1 hin ty0 hty hnm C.2.2.2.1 C.2.2.2.2.2.2.2.1 hP hD hS q0 he hc k hk (C.2.2.2.2.1 _ hlink) (fun _ h9 => h9) hfin (hty k hk) hn hfit hl hdg (fun H1 locs1 h1 _ h3 => kk H1 locs1 h1 h3)
theorem q_getN (C : Cx p s m args meth c G cc Ts own ret nL A) (hP : va_P G.1 vwCl ws H) {q0 ci index : Nat} {fs : List Value} (he : ws[q0]? = some (a, .inr (ci, fs))) {Cn : String} {T : u_T} {N : Nat} (hc : vwCl[ci]? = some (Cn, T, N)) (hin : ∀ w ∈ u_ws Cn T N, w ∈ Ts) (k : Nat) (hk : k < N) {host : String} (hlink : Cond.fieldLinkNest own index (T k).1 (T k).2.1 (T k).2.2.1 host ∈ nestW) {v : Value} (hv : fs[k]? = some v) (hdg : decode cc pc = .ok (.getfield index, 3))
    (kk : W p l e R s m args below meth c H locs cells slots Q (F0 m (pc + 3) ls (v :: rest))) : W p l e R s m args below meth c H locs cells slots Q (F0 m pc ls (.ref a :: rest)) :=
  va_getN C.1 C.2.1 C.2.2.2.2.1 hin C.2.2.2.1 C.2.2.2.2.2.2.2.1 hP q0 he hc k hk (va_Nw.use rfl (C.2.2.2.2.2.2.2.2.1.2.2.2.2.2.2 _ hlink)) (fun _ h9 => h9) hv hdg kk
/-- arrays -/
theorem q_iald (C : Cx p s m args meth c G cc Ts own ret nL A) (hP : va_P G.1 vwCl ws H) {q0 n : Nat} {f : Nat → Int32} (he : ws[q0]? = some (a, .inl (G.2.1 0, n, .inl f))) {i : Int32} {j : Nat} (hj : i.toNatClampNeg = j) (hin : vp_in i n) (hdg : decode cc pc = .ok (.iaload, 1))
    (kk : W p l e R s m args below meth c H locs cells slots Q (F0 m (pc + 1) ls (.int (f j) :: rest))) : W p l e R s m args below meth c H locs cells slots Q (F0 m pc ls (.int i :: .ref a :: rest)) := by
  subst hj
  exact va_iald C.1 C.2.1 C.2.2.2.2.2.2.2.1 hP q0 0 he rfl hin hdg kk
theorem q_lald (C : Cx p s m args meth c G cc Ts own ret nL A) (hP : va_P G.1 vwCl ws H) {q0 n : Nat} {f : Nat → Int64} (he : ws[q0]? = some (a, .inl (G.2.1 1, n, .inr (.inl f)))) {i : Int32} {j : Nat} (hj : i.toNatClampNeg = j) (hin : vp_in i n) (hdg : decode cc pc = .ok (.laload, 1))
    (kk : W p l e R s m args below meth c H locs cells slots Q (F0 m (pc + 1) ls (.long (f j) :: rest))) : W p l e R s m args below meth c H locs cells slots Q (F0 m pc ls (.int i :: .ref a :: rest)) := by
  subst hj
  exact va_lald C.1 C.2.1 C.2.2.2.2.2.2.2.1 hP q0 1 he rfl hin hdg kk
theorem q_zald (C : Cx p s m args meth c G cc Ts own ret nL A) (hP : va_P G.1 vwCl ws H) {q0 n : Nat} {f : Nat → Int32} (he : ws[q0]? = some (a, .inl (G.2.1 2, n, .inl f))) {i : Int32} {j : Nat} (hj : i.toNatClampNeg = j) (hin : vp_in i n) (hdg : decode cc pc = .ok (.baload, 1))
    (kk : W p l e R s m args below meth c H locs cells slots Q (F0 m (pc + 1) ls (.int (f j) :: rest))) : W p l e R s m args below meth c H locs cells slots Q (F0 m pc ls (.int i :: .ref a :: rest)) := by
  subst hj
  exact va_zald C.1 C.2.1 C.2.2.2.2.2.2.2.1 hP q0 2 he rfl hin hdg kk
theorem q_bald (C : Cx p s m args meth c G cc Ts own ret nL A) (hP : va_P G.1 vwCl ws H) {q0 n : Nat} {f : Nat → Int32} (he : ws[q0]? = some (a, .inl (G.2.1 3, n, .inl f))) {i : Int32} {j : Nat} (hj : i.toNatClampNeg = j) (hin : vp_in i n) (hdg : decode cc pc = .ok (.baload, 1))
    (kk : W p l e R s m args below meth c H locs cells slots Q (F0 m (pc + 1) ls (.int (f j) :: rest))) : W p l e R s m args below meth c H locs cells slots Q (F0 m pc ls (.int i :: .ref a :: rest)) := by
  subst hj
  exact va_bald C.1 C.2.1 C.2.2.2.2.2.2.2.1 hP q0 3 he rfl hin hdg kk
theorem q_iast (C : Cx p s m args meth c G cc Ts own ret nL A) (hP : va_P G.1 vwCl ws H) (hD : va_D A ws) (hS : va_S A s.heap H locs) {q0 n : Nat} {f : Nat → Int32} (he : ws[q0]? = some (a, .inl (G.2.1 0, n, .inl f))) {i x : Int32} {j : Nat} (hj : i.toNatClampNeg = j) {ws' : va_W} (hs : ws.set q0 (a, .inl (G.2.1 0, n, .inl (upd f j x))) = ws') (hin : vp_in i n) (hdg : decode cc pc = .ok (.iastore, 1))
    (kk : ∀ (H1 : Heap) (locs1 : List Loc), va_P G.1 vwCl ws' H1 → va_S A s.heap H1 locs1 → W p l e R s m args below meth c H1 locs1 cells slots Q (F0 m (pc + 1) ls rest)) : W p l e R s m args below meth c H locs cells slots Q (F0 m pc ls (.int x :: .int i :: .ref a :: rest)) := by
  subst hj
  subst hs
  exact va_iast C.1 C.2.1 C.2.2.2.2.2.2.2.1 hP hD hS q0 0 he rfl hin hdg (fun H1 locs1 h1 _ h3 => kk H1 locs1 h1 h3)
theorem q_last (C : Cx p s m args meth c G cc Ts own ret nL A) (hP : va_P G.1 vwCl ws H) (hD : va_D A ws) (hS : va_S A s.heap H locs) {q0 n : Nat} {f : Nat → Int64} (he : ws[q0]? = some (a, .inl (G.2.1 1, n, .inr (.inl f)))) {i : Int32} {x : Int64} {j : Nat} (hj : i.toNatClampNeg = j) {ws' : va_W} (hs : ws.set q0 (a, .inl (G.2.1 1, n, .inr (.inl (vp_updL f j x)))) = ws') (hin : vp_in i n) (hdg : decode cc pc = .ok (.lastore, 1))
    (kk : ∀ (H1 : Heap) (locs1 : List Loc), va_P G.1 vwCl ws' H1 → va_S A s.heap H1 locs1 → W p l e R s m args below meth c H1 locs1 cells slots Q (F0 m (pc + 1) ls rest)) : W p l e R s m args below meth c H locs cells slots Q (F0 m pc ls (.long x :: .int i :: .ref a :: rest)) := by
  subst hj
  subst hs
  exact va_last C.1 C.2.1 C.2.2.2.2.2.2.2.1 hP hD hS q0 1 he rfl hin hdg (fun H1 locs1 h1 _ h3 => kk H1 locs1 h1 h3)
theorem q_zast (C : Cx p s m args meth c G cc Ts own ret nL A) (hP : va_P G.1 vwCl ws H) (hD : va_D A ws) (hS : va_S A s.heap H locs) {q0 n : Nat} {f : Nat → Int32} (he : ws[q0]? = some (a, .inl (G.2.1 2, n, .inl f))) {i x : Int32} {j : Nat} (hj : i.toNatClampNeg = j) {ws' : va_W} (hs : ws.set q0 (a, .inl (G.2.1 2, n, .inl (upd f j (vp_nar .boolean x)))) = ws') (hin : vp_in i n) (hdg : decode cc pc = .ok (.bastore, 1))
    (kk : ∀ (H1 : Heap) (locs1 : List Loc), va_P G.1 vwCl ws' H1 → va_S A s.heap H1 locs1 → W p l e R s m args below meth c H1 locs1 cells slots Q (F0 m (pc + 1) ls rest)) : W p l e R s m args below meth c H locs cells slots Q (F0 m pc ls (.int x :: .int i :: .ref a :: rest)) := by
  subst hj
  subst hs
  exact va_zast C.1 C.2.1 C.2.2.2.2.2.2.2.1 hP hD hS q0 2 he rfl hin hdg (fun H1 locs1 h1 _ h3 => kk H1 locs1 h1 h3)
theorem q_bast (C : Cx p s m args meth c G cc Ts own ret nL A) (hP : va_P G.1 vwCl ws H) (hD : va_D A ws) (hS : va_S A s.heap H locs) {q0 n : Nat} {f : Nat → Int32} (he : ws[q0]? = some (a, .inl (G.2.1 3, n, .inl f))) {i x : Int32} {j : Nat} (hj : i.toNatClampNeg = j) {ws' : va_W} (hs : ws.set q0 (a, .inl (G.2.1 3, n, .inl (upd f j (vp_nar .byte x)))) = ws') (hin : vp_in i n) (hdg : decode cc pc = .ok (.bastore, 1))
    (kk : ∀ (H1 : Heap) (locs1 : List Loc), va_P G.1 vwCl ws' H1 → va_S A s.heap H1 locs1 → W p l e R s m args below meth c H1 locs1 cells slots Q (F0 m (pc + 1) ls rest)) : W p l e R s m args below meth c H locs cells slots Q (F0 m pc ls (.int x :: .int i :: .ref a :: rest)) := by
  subst hj
  subst hs
  exact va_bast C.1 C.2.1 C.2.2.2.2.2.2.2.1 hP hD hS q0 3 he rfl hin hdg (fun H1 locs1 h1 _ h3 => kk H1 locs1 h1 h3)
theorem q_alen (C : Cx p s m args meth c G cc Ts own ret nL A) (hP : va_P G.1 vwCl ws H) {q0 t0 : Nat} {x : vp_A} {ty : FieldType} {cA : ClassId} (he : ws[q0]? = some (a, .inl (cA, x))) (ht : (gT G)[t0]? = some (cA, ty)) (hdg : decode cc pc = .ok (.arraylength, 1))
    (kk : W p l e R s m args below meth c H locs cells slots Q (F0 m (pc + 1) ls (.int (nI x.1) :: rest))) : W p l e R s m args below meth c H locs cells slots Q (F0 m pc ls (.ref a :: rest)) := va_alen C.1 C.2.1 C.2.2.2.2.2.2.2.1 hP q0 t0 he ht rfl hdg kk
theorem q_copyi (C : Cx p s m args meth c G cc Ts own ret nL A) (hP : va_P G.1 vwCl ws H) (hD : va_D A ws) (hS : va_S A s.heap H locs) {q0 q1 n0 n1 a0 index : Nat} {f g : Nat → Int32} (ha0 : ws[q0]? = some (a0, .inl (G.2.1 0, n0, .inl f))) (ha1 : ws[q1]? = some (a, .inl (G.2.1 0, n1, .inl g))) {n : Int32} {N : Nat} (hN : n.toNatClampNeg = N) (hn : ¬ n < 0) (h4 : N ≤ n0) (h5 : N ≤ n1) (hlink : (Cond.methodLink own index arraycopyName).before args s = true) (hnat : (Cond.native arraycopyName).before args s = true) (hstat : (Cond.static arraycopyName).before args s = true) (hini : (Cond.initialized "java/lang/System").before args s = true) {ws' : va_W} (hs : ws.set q1 (a, .inl (G.2.1 0, n1, .inl (va_cpy f g 0 0 N))) = ws') (hl : ls.size = nL) (hframes : 1 ≤ R.frames) (hlocals : (rest.map fun v => v.category).sum + (nativeFrameWords "java/lang/System" "arraycopy" 5 + 11) ≤ R.locals) (hdg : decode cc pc = .ok (.invokestatic index, 3))
    (kk : ∀ (H1 : Heap) (locs1 : List Loc), va_P G.1 vwCl ws' H1 → va_S A s.heap H1 locs1 → W p l e R s m args below meth c H1 locs1 cells slots Q (F0 m (pc + 3) ls rest)) : W p l e R s m args below meth c H locs cells slots Q (F0 m pc ls (.int n :: .int 0 :: .ref a :: .int 0 :: .ref a0 :: rest)) := by
  subst hN
  subst hs
  exact va_copyi C.1 C.2.1 (C.2.2.1.trans hl.symm) C.2.2.2.1 hlink hnat hstat hini C.2.2.2.2.2.2.2.1 hP hD hS q0 q1 0 0 ha0 ha1 rfl rfl rfl (by decide) (by decide) hn (by rw [show (0 : Int32).toNatClampNeg = 0 by decide, Nat.zero_add]; exact h4) (by rw [show (0 : Int32).toNatClampNeg = 0 by decide, Nat.zero_add]; exact h5) (fun _ _ => rfl) hframes hlocals hdg (fun H1 locs1 h1 _ h3 => kk H1 locs1 h1 h3)
theorem q_copyl (C : Cx p s m args meth c G cc Ts own ret nL A) (hP : va_P G.1 vwCl ws H) (hD : va_D A ws) (hS : va_S A s.heap H locs) {q0 q1 n0 n1 a0 index : Nat} {f g : Nat → Int64} (ha0 : ws[q0]? = some (a0, .inl (G.2.1 1, n0, .inr (.inl f)))) (ha1 : ws[q1]? = some (a, .inl (G.2.1 1, n1, .inr (.inl g)))) {n : Int32} {N : Nat} (hN : n.toNatClampNeg = N) (hn : ¬ n < 0) (h4 : N ≤ n0) (h5 : N ≤ n1) (hlink : (Cond.methodLink own index arraycopyName).before args s = true) (hnat : (Cond.native arraycopyName).before args s = true) (hstat : (Cond.static arraycopyName).before args s = true) (hini : (Cond.initialized "java/lang/System").before args s = true) {ws' : va_W} (hs : ws.set q1 (a, .inl (G.2.1 1, n1, .inr (.inl (va_cpy f g 0 0 N)))) = ws') (hl : ls.size = nL) (hframes : 1 ≤ R.frames) (hlocals : (rest.map fun v => v.category).sum + (nativeFrameWords "java/lang/System" "arraycopy" 5 + 11) ≤ R.locals) (hdg : decode cc pc = .ok (.invokestatic index, 3))
    (kk : ∀ (H1 : Heap) (locs1 : List Loc), va_P G.1 vwCl ws' H1 → va_S A s.heap H1 locs1 → W p l e R s m args below meth c H1 locs1 cells slots Q (F0 m (pc + 3) ls rest)) : W p l e R s m args below meth c H locs cells slots Q (F0 m pc ls (.int n :: .int 0 :: .ref a :: .int 0 :: .ref a0 :: rest)) := by
  subst hN
  subst hs
  exact va_copyl C.1 C.2.1 (C.2.2.1.trans hl.symm) C.2.2.2.1 hlink hnat hstat hini C.2.2.2.2.2.2.2.1 hP hD hS q0 q1 1 1 ha0 ha1 rfl rfl rfl (by decide) (by decide) hn (by rw [show (0 : Int32).toNatClampNeg = 0 by decide, Nat.zero_add]; exact h4) (by rw [show (0 : Int32).toNatClampNeg = 0 by decide, Nat.zero_add]; exact h5) (fun _ _ => rfl) hframes hlocals hdg (fun H1 locs1 h1 _ h3 => kk H1 locs1 h1 h3)
/-- ends -/
theorem q_iret (C : Cx p s m args meth c G cc Ts own ret nL A) {w' : va_W} {v : Int32} (hP : va_P G.1 vwCl w' H) (hS : va_S A s.heap H locs) (hr : ret = some .int) (hdg : decode cc pc = .ok (.ireturn, 1)) : W p l e R s m args below meth c H locs 0 0 (MQ below (qE G A w' (some (.int v))) args s 0 0 A) (F0 m pc ls [.int v]) :=
  W.iret C.1 C.2.1 (C.2.2.2.2.2.1.trans hr) (fun t ht _ => ⟨⟨rfl, by rw [ht]; exact hP⟩, hS.F ht⟩) hS.2.2 hdg C.2.2.2.2.2.2.1
theorem q_zret (C : Cx p s m args meth c G cc Ts own ret nL A) {w' : va_W} {v : Int32} {ty : FieldType} (hP : va_P G.1 vwCl w' H) (hS : va_S A s.heap H locs) (hr : ret = some ty) (hn : narrow ty (.int v) = .int v) (hdg : decode cc pc = .ok (.ireturn, 1)) : W p l e R s m args below meth c H locs 0 0 (MQ below (qE G A w' (some (.int v))) args s 0 0 A) (F0 m pc ls [.int v]) :=
  W.zret C.1 C.2.1 (C.2.2.2.2.2.1.trans hr) hn (fun t ht _ => ⟨⟨rfl, by rw [ht]; exact hP⟩, hS.F ht⟩) hS.2.2 hdg C.2.2.2.2.2.2.1
theorem q_lret (C : Cx p s m args meth c G cc Ts own ret nL A) {w' : va_W} {v : Int64} (hP : va_P G.1 vwCl w' H) (hS : va_S A s.heap H locs) (hr : ret = some .long) (hdg : decode cc pc = .ok (.lreturn, 1)) : W p l e R s m args below meth c H locs 0 0 (MQ below (qE G A w' (some (.long v))) args s 0 0 A) (F0 m pc ls [.long v]) :=
  W.lret C.1 C.2.1 (C.2.2.2.2.2.1.trans hr) (fun t ht _ => ⟨⟨rfl, by rw [ht]; exact hP⟩, hS.F ht⟩) hS.2.2 hdg C.2.2.2.2.2.2.1
theorem q_vret (C : Cx p s m args meth c G cc Ts own ret nL A) {w' : va_W} (hP : va_P G.1 vwCl w' H) (hS : va_S A s.heap H locs) (hr : ret = none) (hdg : decode cc pc = .ok (.return_, 1)) : W p l e R s m args below meth c H locs 0 0 (MQ below (qE G A w' none) args s 0 0 A) (F0 m pc ls []) :=
  W.vret C.1 C.2.1 (C.2.2.2.2.2.1.trans hr) (fun t ht _ => ⟨⟨rfl, by rw [ht]; exact hP⟩, hS.F ht⟩) hS.2.2 hdg C.2.2.2.2.2.2.1
end QR
/-! the words of the plain programs -/
def gd {α : Type} (i : Int32) (n : Nat) (k : Option α) : Option α := if ¬ (i < 0 ∨ n ≤ i.toNatClampNeg) then k else none
def gn {α : Type} (i : Int32) (k : Option α) : Option α := if i = 0 then none else k
def nm {α β : Type} (x : α) (k : α → β) : β := k x
def bd {α β : Type} (x : Option α) (k : α → Option β) : Option β := match x with
  | none => none
  | some a => k a
theorem gd_some {α : Type} {i : Int32} {n : Nat} {k : Option α} {o : α} (h : gd i n k = some o) : vp_in i n ∧ k = some o := by
  unfold gd at h
  split at h
  · exact ⟨‹_›, h⟩
  · cases h
theorem gn_some {α : Type} {i : Int32} {k : Option α} {o : α} (h : gn i k = some o) : ¬ i = 0 ∧ k = some o := by
  unfold gn at h
  split at h
  · cases h
  · exact ⟨‹_›, h⟩
theorem nm_ex {α β : Type} {x : α} {k : α → β} {o : β} (h : nm x k = o) : ∃ y, x = y ∧ k y = o := ⟨x, rfl, h⟩
theorem bd_some {α β : Type} {x : Option α} {k : α → Option β} {o : β} (h : bd x k = some o) : ∃ a, x = some a ∧ k a = some o := by
  cases x with
  | none => cases h
  | some a => exact ⟨a, rfl, h⟩
theorem if_t {α : Type} {c : Prop} [Decidable c] {a b o : α} (h : c) (e : (if c then a else b) = o) : a = o := by rw [if_pos h] at e; exact e
theorem if_f {α : Type} {c : Prop} [Decidable c] {a b o : α} (h : ¬ c) (e : (if c then a else b) = o) : b = o := by rw [if_neg h] at e; exact e
def sI {α : Type} (s : (Nat → Int32) × α) (k : Nat) (v : Int32) : (Nat → Int32) × α := (upd s.1 k v, s.2)
def sA (s : (Nat → Int32) × (Nat → Nat → Int32)) (k : Nat) (f : Nat → Int32) : (Nat → Int32) × (Nat → Nat → Int32) := (s.1, vf_upd s.2 k f)
theorem vp_k {i : Int32} {n j : Nat} (h : i.toNatClampNeg = j) (h0 : ¬ i < 0) (hj : j < n) : vp_in i n := by
  rintro (q | q)
  · exact h0 q
  · rw [h] at q; omega
theorem mem_run {L u : List Cond} {i : Nat} (h : (L.drop i).take u.length = u) : ∀ w ∈ u, w ∈ L := fun w hw => by
  rw [← h] at hw
  exact List.mem_of_mem_drop (List.mem_of_mem_take hw)
def gb {α : Type} (v : Int32) (k : Option α) : Option α := if v = 0 ∨ v = 1 then k else none
theorem gb_some {α : Type} {v : Int32} {k : Option α} {o : α} (h : gb v k = some o) : (v = 0 ∨ v = 1) ∧ k = some o := by
  unfold gb at h
  split at h
  · exact ⟨‹_›, h⟩
  · cases h
theorem gb_nar {v : Int32} (h : v = 0 ∨ v = 1) : narrow .boolean (.int v) = .int v := by
  rcases h with rfl | rfl <;> rfl
def gl {α : Type} (a b : Nat) (k : Option α) : Option α := if a ≤ b then k else none
theorem gl_some {α : Type} {a b : Nat} {k : Option α} {o : α} (h : gl a b k = some o) : a ≤ b ∧ k = some o := by
  unfold gl at h
  split at h
  · exact ⟨‹_›, h⟩
  · cases h
def gc {α : Type} (v : Int32) (k : Option α) : Option α := if narrow .char (.int v) = .int v then k else none
theorem gc_some {α : Type} {v : Int32} {k : Option α} {o : α} (h : gc v k = some o) : narrow .char (.int v) = .int v ∧ k = some o := by
  unfold gc at h
  split at h
  · exact ⟨‹_›, h⟩
  · cases h
