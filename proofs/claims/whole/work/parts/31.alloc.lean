/-! contracts that make cells; rows that make them -/
def qG (G : Gx) (A : Nat → Prop) (B : Option Value → va_W → Prop) : Array Value → State → Outcome → State → Prop := fun _ st oc t => (∃ (r : Option Value) (w' : va_W), oc = .returned r ∧ B r w' ∧ va_P G.1 vwCl w' t.heap ∧ va_D A w') ∧ va_F A st t
def QG (l : Launch) (G : Gx) (y : MethodName) (ws : List Cond) (rm : Room) (mc ms : Nat) (as : List Value) (w : va_W) (B : Option Value → va_W → Prop) : Prop := ∀ sz : Nat, Met l y ws rm (qP G as w sz) (qG G (va_A w sz) B) mc ms (va_A w sz)
theorem QG.of {l : Launch} {G : Gx} {y : MethodName} {ws ws' : List Cond} {rm : Room} {mc ms : Nat} {as : List Value} {w : va_W} {B : Option Value → va_W → Prop} {cc : ByteArray} {maxL : Nat} {ret : Option FieldType}
    (hy : plainName y.cls = true) (hw : ws = Cond.code y cc maxL ret :: ws') (hL : (lg_sl as).length ≤ maxL)
    (body : ∀ (p : Program) (e : Env) (s : State) (m : MethodId) (below : List Frame) (meth : Method) (c : Code) (A : Nat → Prop) (ls : Array Slot), meth.name = y.name → Cx p s m as.toArray meth c G cc ws y.cls ret maxL A → va_D A w → va_P G.1 vwCl w s.heap → va_S A s.heap s.heap [] → lv_has ls maxL (lv_args 0 as) →
      W p l e rm s m as.toArray below meth c s.heap [] 0 0 (MQ below (qG G A B) as.toArray s mc ms A) (F0 m 0 ls [])) : QG l G y ws rm mc ms as w B := by
  intro sz
  refine Met.ofW (cc := cc) (maxL := maxL) (ret := ret) hy hw ?_
  intro p e s m args below meth c s₁ B9 hml hv
  obtain ⟨rfl, hsz, hP, hK, hX, hD0⟩ := hv
  subst hsz
  have hl := lv_entry as (n := maxL) hL
  rw [lg_entry_eq]
  generalize (lg_sl as ++ List.replicate (maxL - (lg_sl as).length) Slot.unset).toArray = ls at hl ⊢
  exact body p e s m below meth c _ ls (name_of_methodNamed B9.named B9.method).1 ⟨B9.exec, B9.bytes, hml, findClass_of_methodNamed B9.named, atoms_spec (ws := ws) B9.pre, B9.returns, B9.notSynchronized, hK, hX, fun q h => Or.inr h⟩ (hD0.self (sz := s.heap.size)) hP va_S.rf hl
/-- a quiet contract is one that makes nothing -/
theorem QM.toG {l : Launch} {G : Gx} {y : MethodName} {ws : List Cond} {rm : Room} {as : List Value} {w w' : va_W} {r : Option Value} (h : QM l G y ws rm as w w' r) : ∀ sz, Met l y ws rm (qP G as w sz) (qE G (va_A w sz) w' r) 0 0 (va_A w sz) := h
theorem va_D.inv {A : Nat → Prop} {w : va_W} (h : va_D A w) : ∀ q ∈ w, A q.1 := (va_D.nodup.mp h).2
theorem q_joinG {A : Nat → Prop} {G : Gx} {ws wr wc w' : va_W} {H H1 : Heap} (hP : va_P G.1 vwCl ws H) (hD : va_D A ws) (hp : ws.Perm (wr ++ wc)) (hk : ∀ q : Nat, q < H.size → ¬ va_A wc H.size q → H1[q]? = H[q]?) (hF : ∀ q, va_A wc H.size q → A q) (hP1 : va_P G.1 vwCl w' H1) (hD1 : va_D (va_A wc H.size) w') : va_P G.1 vwCl (wr ++ w') H1 ∧ va_D A (wr ++ w') := by
  have hPp := hP.perm hp
  have hDp := va_D.nodup.mp (hD.perm hp)
  have hN := hDp.1
  rw [List.map_append, List.nodup_append] at hN
  have out : ∀ q ∈ wr, q.1 < H.size ∧ ¬ va_A wc H.size q.1 := by
    intro q hq
    have h0 := va_P.mem.mp hPp q (List.mem_append_left _ hq)
    refine ⟨h0.lt, ?_⟩
    rintro (⟨k, e, z⟩ | z)
    · exact hN.2.2 q.1 (List.mem_map_of_mem hq) q.1 (List.mem_map.mpr ⟨(q.1, e), List.mem_of_getElem? z, rfl⟩) rfl
    · exact absurd h0.lt (Nat.not_lt.mpr z)
  constructor
  · refine va_P.mem.mpr fun q hq => ?_
    rcases List.mem_append.mp hq with h | h
    · have h0 := va_P.mem.mp hPp q (List.mem_append_left _ h)
      exact h0.kept (hk q.1 (out q h).1 (out q h).2)
    · exact va_P.mem.mp hP1 q h
  · have h1 := va_D.nodup.mp hD1
    refine va_D.nodup.mpr ⟨?_, fun q hq => ?_⟩
    · rw [List.map_append, List.nodup_append]
      refine ⟨hN.1, h1.1, fun x hx y hy e => ?_⟩
      obtain ⟨q, hq, rfl⟩ := List.mem_map.mp hx
      obtain ⟨r, hr, rfl⟩ := List.mem_map.mp hy
      exact (out q hq).2 (by rw [e]; exact h1.2 r hr)
    · rcases List.mem_append.mp hq with h | h
      · exact hDp.2 q (List.mem_append_left _ h)
      · exact hF _ (h1.2 q h)
section QRG
variable {p : Program} {l : Launch} {e : Env} {R : Room} {s : State} {m : MethodId} {args : Array Value} {below : List Frame} {meth : Method} {c : Code} {H : Heap} {locs : List Loc} {cells slots : Nat} {Q : State → Prop}
variable {G : Gx} {cc : ByteArray} {Ts : List Cond} {own : String} {ret : Option FieldType} {nL : Nat} {A : Nat → Prop} {pc : Nat} {ls : Array Slot} {rest : List Value} {ws : va_W} {a : Nat}
theorem q_callG {mc ms : Nat} {st0 : List Value} {aa : Array Value} {wc wr : va_W} {B : Option Value → va_W → Prop} (hr : va_Run p l e R s m args below meth c H locs cells slots mc ms (F0 m pc ls st0) rest (qG G (va_A wc H.size) B aa) (va_A wc H.size)) (hA : ∀ q : Nat, s.heap.size ≤ q → A q) (hP : va_P G.1 vwCl ws H) (hD : va_D A ws) (hS : va_S A s.heap H locs) (hp : ws.Perm (wr ++ wc))
    (kk : ∀ (r : Option Value) (w' : va_W) (H1 : Heap) (locs1 : List Loc), B r w' → va_P G.1 vwCl (wr ++ w') H1 → va_D A (wr ++ w') → va_S A s.heap H1 locs1 → W p l e R s m args below meth c H1 locs1 (cells + mc) (slots + ms) Q (F0 m (pc + 3) ls (r.toList ++ rest))) : W p l e R s m args below meth c H locs cells slots Q (F0 m pc ls st0) := by
  have hF := q_free hD hp hS hA
  intro T hT X
  obtain ⟨v, st₀, t, T', L, h0, X', hL, e1, e2, ⟨⟨r, w', hv, hB, hb, hD1⟩, hz, hk⟩, st⟩ := hr T hT X
  cases hv
  rw [h0] at hz hk
  obtain ⟨g1, g2⟩ := q_joinG (H1 := T'.heap) hP hD hp (fun q h1 h2 => by rw [e1]; exact hk q h1 h2) hF (by rw [e1]; exact hb) hD1
  obtain ⟨t2, a1, b1⟩ := kk v w' T'.heap (locs ++ L) hB g1 g2
    ⟨Nat.le_trans hS.1 (by rw [e1]; exact hz), fun q h1 h2 => by rw [e1, hk q (Nat.lt_of_lt_of_le h1 hS.1) (fun z => h2 (hF q z))]; exact hS.2.1 q h1 h2, fun q hq => by
      rcases List.mem_append.mp hq with h | h
      · exact hS.2.2 q h
      · exact hF _ (hL q h)⟩ T' rfl X'
  exact ⟨t2, st t2 a1, b1⟩
/-- a constructor: invokespecial -/
theorem q_I (C : Cx p s m args meth c G cc Ts own ret nL A) {y : MethodName} {bytes : ByteArray} {maxL n index mc ms : Nat} {wsY wsY' : List Cond} {rmY : Room} {As : List Value} {wc wr : va_W} {B : Option Value → va_W → Prop} {b : Nat}
    (hM : QG l G y wsY rmY mc ms (.ref b :: As) wc B) (hG : GoodIn Ts wsY) (hw : wsY = Cond.code y bytes maxL none :: wsY') (hrc : rmY.cells = mc ∧ rmY.slots = ms) (hini : Cond.initialized y.cls ∈ Ts) (hlk : Cond.methodLink own index y ∈ Ts) (hinm : Cond.instanceMethod y ∈ Ts) (hy1 : y.name = "<init>")
    (hd : y.cls ≠ "java/lang/invoke/MethodHandle" ∧ y.cls ≠ "java/lang/invoke/VarHandle" ∧ (parseMethodDescriptor y.desc).map (fun d => d.parameters.length) = some n) (hR : rmY.frames + 1 ≤ R.frames ∧ 8 + (maxL + 11) + rmY.locals ≤ R.locals) (hn : As.length = n)
    (hP : va_P G.1 vwCl ws H) (hD : va_D A ws) (hS : va_S A s.heap H locs) (hp : ws.Perm (wr ++ wc)) (hl : ls.size = nL) (hro : (rest.map fun v => v.category).sum ≤ 8) (hcs : cells + mc ≤ R.cells ∧ slots + ms ≤ R.slots) {st0 : List Value} (hst : st0 = As.reverse ++ .ref b :: rest) (hdg : decode cc pc = .ok (.invokespecial index, 3))
    (kk : ∀ (r : Option Value) (w' : va_W) (H1 : Heap) (locs1 : List Loc), B r w' → va_P G.1 vwCl (wr ++ w') H1 → va_D A (wr ++ w') → va_S A s.heap H1 locs1 → W p l e R s m args below meth c H1 locs1 (cells + mc) (slots + ms) Q (F0 m (pc + 3) ls (r.toList ++ rest))) : W p l e R s m args below meth c H locs cells slots Q (F0 m pc ls st0) :=
  q_callG (va_runI (As := As) (rest := rest) ⟨C.1, C.2.1, C.2.2.1, C.2.2.2.1, C.2.2.2.2.1⟩ (hM H.size) (cwI n C.2.2.2.2.1 hG hw hrc.1 hrc.2 (C.2.2.2.2.1 _ hini) (C.2.2.2.2.1 _ hlk) (C.2.2.2.2.1 _ hinm) hy1 hd hR) ⟨qP.blind, q_pre C hP hD hS hp⟩ rfl hn hl hst (lv_room hro) hdg hcs) C.2.2.2.2.2.2.2.2.2 hP hD hS hp kk
/-- .. of a nest mate -/
theorem q_IN (C : Cx p s m args meth c G cc Ts own ret nL A) {y : MethodName} {bytes : ByteArray} {maxL n index mc ms : Nat} {host : String} {wsY wsY' : List Cond} {rmY : Room} {As : List Value} {wc wr : va_W} {B : Option Value → va_W → Prop} {b : Nat}
    (hM : QG l G y wsY rmY mc ms (.ref b :: As) wc B) (hG : GoodIn Ts wsY) (hw : wsY = Cond.code y bytes maxL none :: wsY') (hrc : rmY.cells = mc ∧ rmY.slots = ms) (hini : Cond.initialized y.cls ∈ Ts) (hlk : Cond.methodLinkNest own index y host ∈ nestW) (hinm : Cond.instanceMethod y ∈ Ts) (hy1 : y.name = "<init>")
    (hd : y.cls ≠ "java/lang/invoke/MethodHandle" ∧ y.cls ≠ "java/lang/invoke/VarHandle" ∧ (parseMethodDescriptor y.desc).map (fun d => d.parameters.length) = some n) (hR : rmY.frames + 1 ≤ R.frames ∧ 8 + (maxL + 11) + rmY.locals ≤ R.locals) (hn : As.length = n)
    (hP : va_P G.1 vwCl ws H) (hD : va_D A ws) (hS : va_S A s.heap H locs) (hp : ws.Perm (wr ++ wc)) (hl : ls.size = nL) (hro : (rest.map fun v => v.category).sum ≤ 8) (hcs : cells + mc ≤ R.cells ∧ slots + ms ≤ R.slots) {st0 : List Value} (hst : st0 = As.reverse ++ .ref b :: rest) (hdg : decode cc pc = .ok (.invokespecial index, 3))
    (kk : ∀ (r : Option Value) (w' : va_W) (H1 : Heap) (locs1 : List Loc), B r w' → va_P G.1 vwCl (wr ++ w') H1 → va_D A (wr ++ w') → va_S A s.heap H1 locs1 → W p l e R s m args below meth c H1 locs1 (cells + mc) (slots + ms) Q (F0 m (pc + 3) ls (r.toList ++ rest))) : W p l e R s m args below meth c H locs cells slots Q (F0 m pc ls st0) :=
  q_callG (va_runIN (As := As) (rest := rest) ⟨C.1, C.2.1, C.2.2.1, C.2.2.2.1, C.2.2.2.2.1⟩ (hM H.size) ⟨va_cnB n C.2.2.2.2.1 hG hw hrc.1 hrc.2 (C.2.2.2.2.2.2.2.2.1.2.2.2.2.2.2 _ hlk) (C.2.2.2.2.1 _ hini) hd hR, hy1, C.2.2.2.2.1 _ hinm⟩ ⟨qP.blind, q_pre C hP hD hS hp⟩ rfl hn hl hst (lv_room hro) hdg hcs) C.2.2.2.2.2.2.2.2.2 hP hD hS hp kk
/-- invokevirtual of one that makes cells -/
theorem q_VG (C : Cx p s m args meth c G cc Ts own ret nL A) {y : MethodName} {bytes : ByteArray} {maxL n index mc ms : Nat} {retY : Option FieldType} {wsY wsY' : List Cond} {rmY : Room} {As : List Value} {wc wr : va_W} {B : Option Value → va_W → Prop} {b ci q0 : Nat} {fs : List Value} {rc : vw_C}
    (hM : QG l G y wsY rmY mc ms (.ref b :: As) wc B) (hT : GoodIn Ts (wsV own index rc.1 y wsY)) (hw : wsY = Cond.code y bytes maxL retY :: wsY') (hrc : rmY.cells = mc ∧ rmY.slots = ms)
    (hd : y.cls = rc.1 ∧ y.cls ≠ "java/lang/invoke/MethodHandle" ∧ y.cls ≠ "java/lang/invoke/VarHandle" ∧ (parseMethodDescriptor y.desc).map (fun d => d.parameters.length) = some n) (hR : rmY.frames + 1 ≤ R.frames ∧ 8 + (maxL + 11) + rmY.locals ≤ R.locals) (hn : As.length = n)
    (hP : va_P G.1 vwCl ws H) (hD : va_D A ws) (hS : va_S A s.heap H locs) (he : ws[q0]? = some (b, .inr (ci, fs))) (hc : vwCl[ci]? = some rc) (hp : ws.Perm (wr ++ wc)) (hl : ls.size = nL) (hro : (rest.map fun v => v.category).sum ≤ 8) (hcs : cells + mc ≤ R.cells ∧ slots + ms ≤ R.slots) {st0 : List Value} (hst : st0 = As.reverse ++ .ref b :: rest) (hdg : decode cc pc = .ok (.invokevirtual index, 3))
    (kk : ∀ (r : Option Value) (w' : va_W) (H1 : Heap) (locs1 : List Loc), B r w' → va_P G.1 vwCl (wr ++ w') H1 → va_D A (wr ++ w') → va_S A s.heap H1 locs1 → W p l e R s m args below meth c H1 locs1 (cells + mc) (slots + ms) Q (F0 m (pc + 3) ls (r.toList ++ rest))) : W p l e R s m args below meth c H locs cells slots Q (F0 m pc ls st0) :=
  q_callG (va_runV (As := As) (rest := rest) ⟨C.1, C.2.1, C.2.2.1, C.2.2.2.1, C.2.2.2.2.1⟩ (hM H.size) (cwV n C.2.2.2.2.1 hT hw hrc.1 hrc.2 hd hR) ⟨qP.blind, va_recv C.2.2.2.2.2.2.2.1 hP hc he, q_pre C hP hD hS hp⟩ rfl hn hl hst (lv_room hro) hdg hcs) C.2.2.2.2.2.2.2.2.2 hP hD hS hp kk
/-- a new row of ints, longs, booleans, bytes -/
theorem q_newI (C : Cx p s m args meth c G cc Ts own ret nL A) {atype : ArrayType} {ty : FieldType} {t : Nat} {cA0 : ClassId} (hw : Cond.arrayClass ty ∈ Ts) (hty : newarray.typeOf atype = ty) (ht : (gT G)[t]? = some (cA0, ty)) (hra : ∀ cA : ClassId, s.vm.findClass ("[" ++ ty.toString) = some cA → cA = cA0) (hP : va_P G.1 vwCl ws H) (hD : va_D A ws) (hS : va_S A s.heap H locs)
    {n : Int32} {N : Nat} {a0 : vp_A} (ha : ∀ cA : ClassId, vp_cell cA a0 = arrV cA N (fun _ => defaultValue ty)) (hn : ¬ n < 0) (hN : n.toNatClampNeg = N) (hbytes : N * componentBytes ty ≤ 536870912) (hcells : cells + 1 ≤ R.cells) (hslots : slots + N ≤ R.slots) (hdg : decode cc pc = .ok (.newarray atype, 2))
    (kk : ∀ (q : Nat) (H1 : Heap), va_P G.1 vwCl (ws ++ [(q, .inl (cA0, a0))]) H1 → va_D A (ws ++ [(q, .inl (cA0, a0))]) → va_S A s.heap H1 locs → W p l e R s m args below meth c H1 locs (cells + 1) (slots + N) Q (F0 m (pc + 2) ls (.ref q :: rest))) : W p l e R s m args below meth c H locs cells slots Q (F0 m pc ls (.int n :: rest)) := by
  subst hty
  refine va_newaK C.1 C.2.1 (C.2.2.2.2.1 _ hw) rfl hdg rfl hn hN hbytes hcells hslots rfl fun H1 cA e1 z1 o1 hAr hNm => ?_
  have hcA := hra cA hNm
  subst hcA
  have hk : ∀ (k : Nat) (x : Nat × va_E), ws[k]? = some x → H1[x.1]? = H[x.1]? := fun k x hx => o1 x.1 ((hP k x hx).lt)
  refine kk H.size H1 ((hP.kept hk).app (fun k x hx => ?_)) (hD.push hP rfl (C.2.2.2.2.2.2.2.2.2 _ hS.1)) ⟨Nat.le_trans hS.1 (by omega), fun x h1 h2 => (o1 x (Nat.lt_of_lt_of_le h1 hS.1)).trans (hS.2.1 x h1 h2), hS.2.2⟩
  have hz : k < 1 := (List.getElem?_eq_some_iff.mp hx).1
  rw [show k = 0 by omega] at hx
  cases hx
  show H1[H.size]? = some (vp_cell _ _)
  rw [ha]
  exact e1
theorem q_new (C : Cx p s m args meth c G cc Ts own ret nL A) {Cn : String} {T : u_T} {N ci index : Nat} (hin : ∀ w ∈ u_ws Cn T N, w ∈ Ts) {ty : Nat → FieldType} (hty : ∀ k, k < N → parseFieldDescriptor (T k).2.2.1 = some (ty k)) (hcl : Cond.classLink own index Cn ∈ Ts) (hinst : Cond.instantiable Cn N ∈ Ts) (hini : Cond.initialized Cn ∈ Ts) (hP : va_P G.1 vwCl ws H) (hD : va_D A ws) (hS : va_S A s.heap H locs) (hc : vwCl[ci]? = some (Cn, T, N)) {fs : List Value} (hfs : ∀ j, j < N → defaultValue (ty j) = vp_V fs j) (hcells : cells + 1 ≤ R.cells) (hslots : slots + N ≤ R.slots) (hdg : decode cc pc = .ok (.new index, 3))
    (kk : ∀ (q : Nat) (H1 : Heap), va_P G.1 vwCl (ws ++ [(q, .inr (ci, fs))]) H1 → va_D A (ws ++ [(q, .inr (ci, fs))]) → va_S A s.heap H1 locs → W p l e R s m args below meth c H1 locs (cells + 1) (slots + N) Q (F0 m (pc + 3) ls (.ref q :: rest))) : W p l e R s m args below meth c H locs cells slots Q (F0 m pc ls rest) :=
  va_new C.1 C.2.1 C.2.2.2.2.1 hin ty hty C.2.2.2.1 (C.2.2.2.2.1 _ hcl) (C.2.2.2.2.1 _ hinst) (C.2.2.2.2.1 _ hini) C.2.2.2.2.2.2.2.1 hP hD hS C.2.2.2.2.2.2.2.2.2 hc hfs hcells hslots hdg kk
theorem q_putF (C : Cx p s m args meth c G cc Ts own ret nL A) (hP : va_P G.1 vwCl ws H) (hD : va_D A ws) (hS : va_S A s.heap H locs) {q0 ci index : Nat} {fs : List Value} (he : ws[q0]? = some (a, .inr (ci, fs))) {Cn : String} {T : u_T} {N : Nat} (hc : vwCl[ci]? = some (Cn, T, N)) (hin : ∀ w ∈ u_ws Cn T N, w ∈ Ts) {ty0 : Nat → FieldType} (hty : ∀ k, k < N → parseFieldDescriptor (T k).2.2.1 = some (ty0 k)) (hnm : ∀ a, a < N → ∀ b, b < N → a ≠ b → (T a).2.1 ≠ (T b).2.1) (k : Nat) (hk : k < N) (hlink : Cond.fieldLink own index (T k).1 (T k).2.1 (T k).2.2.1 ∈ Ts) (hfin : (T k).2.2.2 = true) (hmn : meth.name = "<init>") (hdecl : (T k).1 = own) {v : Value} (hn : narrow (ty0 k) v = v) (hfit : fits (ty0 k) v = true) (hl : k < fs.length) {ws' : va_W} (hs : ws.set q0 (a, .inr (ci, fs.set k v)) = ws') (hdg : decode cc pc = .ok (.putfield index, 3))
    (kk : ∀ (H1 : Heap) (locs1 : List Loc), va_P G.1 vwCl ws' H1 → va_S A s.heap H1 locs1 → W p l e R s m args below meth c H1 locs1 cells slots Q (F0 m (pc + 3) ls rest)) : W p l e R s m args below meth c H locs cells slots Q (F0 m pc ls (v :: .ref a :: rest)) := by
  subst hs
  exact va_putF C.1 C.2.1 C.2.2.2.2.1 hin ty0 hty hnm C.2.2.2.1 C.2.2.2.2.2.2.2.1 hP hD hS q0 he hc k hk (C.2.2.2.2.1 _ hlink) (fun _ h9 => h9) hfin hmn hdecl (hty k hk) hn hfit hl hdg (fun H1 locs1 h1 _ h3 => kk H1 locs1 h1 h3)
/-- a new row of nets -/
theorem q_newQ (C : Cx p s m args meth c G cc Ts own ret nL A) {index : Nat} (hcl : Cond.classLink own index "CombinatorRing$Net" ∈ Ts) (hP : va_P G.1 vwCl ws H) (hD : va_D A ws) (hS : va_S A s.heap H locs) {n : Int32} {N : Nat} (hn : ¬ n < 0) (hN : n.toNatClampNeg = N) (hbytes : N * 4 ≤ 536870912) (hcells : cells + 1 ≤ R.cells) (hslots : slots + N ≤ R.slots) (hdg : decode cc pc = .ok (.anewarray index, 3))
    (kk : ∀ (q : Nat) (H1 : Heap), va_P G.1 vwCl (ws ++ [(q, .inl (G.2.1 4, N, .inr (.inr (.inr (.inr (fun _ => none))))))]) H1 → va_D A (ws ++ [(q, .inl (G.2.1 4, N, .inr (.inr (.inr (.inr (fun _ => none))))))]) → va_S A s.heap H1 locs → W p l e R s m args below meth c H1 locs (cells + 1) (slots + N) Q (F0 m (pc + 3) ls (.ref q :: rest))) : W p l e R s m args below meth c H locs cells slots Q (F0 m pc ls (.int n :: rest)) := by
  refine va_newq C.1 C.2.1 C.2.2.2.1 (C.2.2.2.2.1 _ hcl) C.2.2.2.2.2.2.2.2.1.2.1.2.2.2 C.2.2.2.2.2.2.2.1 hP hD hS C.2.2.2.2.2.2.2.2.2 hn hN hbytes hcells hslots hdg (fun q cA H1 hK1 h1 h2 h3 => ?_)
  obtain ⟨_, _, _, _, _, z1⟩ := (hK1.2 5 (cA, .object "CombinatorRing$Net") rfl).2
  obtain ⟨_, _, _, _, _, z2⟩ := (C.2.2.2.2.2.2.2.1.2 4 (G.2.1 4, .object "CombinatorRing$Net") rfl).2
  have e0 : cA = G.2.1 4 := Option.some.inj (z1.symm.trans z2)
  subst e0
  exact kk q H1 h1 h2 h3
theorem q_ra0 (hK : gK G s) (cA : ClassId) (h : s.vm.findClass ("[" ++ FieldType.int.toString) = some cA) : cA = G.2.1 0 := Option.some.inj (h.symm.trans (hK.2 0 (G.2.1 0, .int) rfl).2)
theorem q_ra1 (hK : gK G s) (cA : ClassId) (h : s.vm.findClass ("[" ++ FieldType.long.toString) = some cA) : cA = G.2.1 1 := Option.some.inj (h.symm.trans (hK.2 1 (G.2.1 1, .long) rfl).2)
theorem q_ra2 (hK : gK G s) (cA : ClassId) (h : s.vm.findClass ("[" ++ FieldType.boolean.toString) = some cA) : cA = G.2.1 2 := Option.some.inj (h.symm.trans (hK.2 2 (G.2.1 2, .boolean) rfl).2)
theorem q_ra3 (hK : gK G s) (cA : ClassId) (h : s.vm.findClass ("[" ++ FieldType.byte.toString) = some cA) : cA = G.2.1 3 := Option.some.inj (h.symm.trans (hK.2 3 (G.2.1 3, .byte) rfl).2)
/-- ends -/
theorem q_Gv (C : Cx p s m args meth c G cc Ts own ret nL A) {B : Option Value → va_W → Prop} {w' : va_W} {mc ms : Nat} (hB : B none w') (hP : va_P G.1 vwCl w' H) (hD : va_D A w') (hS : va_S A s.heap H locs) (hc : cells ≤ mc) (hs : slots ≤ ms) (hr : ret = none) (hdg : decode cc pc = .ok (.return_, 1)) : W p l e R s m args below meth c H locs cells slots (MQ below (qG G A B) args s mc ms A) (F0 m pc ls []) :=
  W.widen hc hs (W.vret C.1 C.2.1 (C.2.2.2.2.2.1.trans hr) (fun t ht _ => ⟨⟨none, w', rfl, hB, by rw [ht]; exact hP, hD⟩, hS.F ht⟩) hS.2.2 hdg C.2.2.2.2.2.2.1)
theorem q_Gi (C : Cx p s m args meth c G cc Ts own ret nL A) {B : Option Value → va_W → Prop} {w' : va_W} {mc ms : Nat} {v : Int32} (hB : B (some (.int v)) w') (hP : va_P G.1 vwCl w' H) (hD : va_D A w') (hS : va_S A s.heap H locs) (hc : cells ≤ mc) (hs : slots ≤ ms) {ty : FieldType} (hr : ret = some ty) (hn : narrow ty (.int v) = .int v) (hdg : decode cc pc = .ok (.ireturn, 1)) : W p l e R s m args below meth c H locs cells slots (MQ below (qG G A B) args s mc ms A) (F0 m pc ls [.int v]) :=
  W.widen hc hs (W.zret C.1 C.2.1 (C.2.2.2.2.2.1.trans hr) hn (fun t ht _ => ⟨⟨_, w', rfl, hB, by rw [ht]; exact hP, hD⟩, hS.F ht⟩) hS.2.2 hdg C.2.2.2.2.2.2.1)
theorem q_oinit (C : Cx p s m args meth c G cc Ts own ret nL A) {index : Nat} (hlk : Cond.methodLink own index objectInit ∈ Ts) (hin : Cond.instanceMethod objectInit ∈ Ts) (hco : Cond.code objectInit ⟨#[0xb1]⟩ 1 none ∈ Ts) (hl : ls.size = nL) (hfr : 1 ≤ R.frames) (hlo : (rest.map fun v => v.category).sum + 12 ≤ R.locals) (hdg : decode cc pc = .ok (.invokespecial index, 3)) (kk : W p l e R s m args below meth c H locs cells slots Q (F0 m (pc + 3) ls rest)) : W p l e R s m args below meth c H locs cells slots Q (F0 m pc ls (.ref a :: rest)) := by
  refine W.objInit C.1 C.2.1 C.2.2.2.1 (C.2.2.2.2.1 _ hlk) (C.2.2.2.2.1 _ hin) (C.2.2.2.2.1 _ hco) rfl (by rw [C.2.2.1]; exact hl) rfl hdg hfr ?_ kk
  show 2 * 0 + _ + 12 ≤ _
  omega
end QRG
