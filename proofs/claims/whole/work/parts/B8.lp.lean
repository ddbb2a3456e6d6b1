/-! THE CLAIM OUT OF ONE WALK OF THE LAW'S BODY. Your part is whole_start (and what it stands on); all else here is the same for every law, but numbers. -/
def R_law : String := "CombinatorRingLaw"
def lw_P (b : Addr) (xs : List Int32) (args : Array Value) (s : State) : Prop := args = #[.ref b] ∧ s.IntsAt b xs ∧ xs.length ≤ 3072 ∧ (Jvm.Cond.and given_1 narrow_1).before args s = true
def lw_Q (_ : Array Value) (s : State) (o : Outcome) (t : State) : Prop := o = .returned (some (.int 1)) ∧ Framed s o t [] 601024 7293033
def lw_Z (below : List Frame) (a : Array Value) (s : State) : State → Prop := fun t => ∃ o, t.status = .running ∧ Ended t below o ∧ lw_Q a s o t
/-- the law's own end, with 1 on the stack, nothing written that was there before, its room as the claim has it -/
theorem lw_ret {p : Program} {l : Launch} {e : Env} {s : State} {m : MethodId} {below : List Frame} {meth : Method} {c : Code} {b : Nat} (hx : p.tables.exec = Jvm.exec) (hb : c.code = code) (hr : meth.sig.returnType = ret) (hlocks : meth.locks = false) {pc : Nat} {H : Heap} {ls : Array Slot} (hdg : decode code pc = .ok (.ireturn, 1)) : W p l e room_1 s m #[Value.ref b] below meth c H [] 601024 7293033 (lw_Z below #[Value.ref b] s) (F0 m pc ls [.int 1]) := by
  intro T hT X
  obtain ⟨fs, hret, hrun, hended, hW, hframe⟩ := X.leave (v := some (.int 1)) (hlocks := hlocks) (fun h => by rw [hr] at h; cases h)
  have hmeth' : T.vm.method? m = some meth := X.method'
  refine ⟨T.setFrames fs, ?_, .returned (some (.int 1)), hrun, hended, rfl, ⟨_, rfl⟩, hW, hframe⟩
  jvm_step X.here [X.here.top, hx, hb, hdg, hmeth', hr, ret, narrow_b1]
  (try refine ⟨rfl, ?_⟩); (try refine ⟨rfl, ?_⟩)
  first | (intro acts; rw [hret _ acts rfl rfl rfl]) | rw [hret _ _ rfl rfl rfl]
  exact Steps.refl _
/-- what holds at the law's entry: the machine, the code, the tables' words (any of lw_tbl by 'hts w (by decide +kernel)'), the script of L ints xs at the cell b, what the Statement gives of the start (any of its parts by flat_of_before) -/
def lw_At (p : Program) (s : State) (m : MethodId) (meth : Method) (c : Code) (b L : Nat) (xs : Nat → Int32) : Prop :=
  p.tables.exec = Jvm.exec ∧ c.code = code ∧ meth.sig.returnType = ret ∧ c.maxLocals = 7 ∧ s.vm.findClass R_law = some m.cls ∧ (∀ w ∈ lw_tbl, w.before #[Value.ref b] s = true) ∧ va_X b L xs s s.heap ∧ b < s.heap.size ∧ meth.locks = false ∧ (Jvm.Cond.and given_1 narrow_1).before #[Value.ref b] s = true
/-! the law's loop -/
theorem and_31 (x : Int32) : ∃ j, j < 32 ∧ x &&& 31 = nI j := by
  obtain ⟨n, hn, rfl⟩ := nI_ex x
  refine ⟨n % 32, Nat.mod_lt _ (by omega), ?_⟩
  apply Int32.toBitVec_inj.mp
  rw [Int32.toBitVec_and]
  apply BitVec.eq_of_toNat_eq
  rw [BitVec.toNat_and]
  have e1 : (nI n).toBitVec.toNat = n := by
    show (BitVec.ofNat 32 n).toNat = n
    rw [BitVec.toNat_ofNat]
    exact Nat.mod_eq_of_lt hn
  have e2 : (nI (n % 32)).toBitVec.toNat = n % 32 := by
    show (BitVec.ofNat 32 (n % 32)).toNat = n % 32
    rw [BitVec.toNat_ofNat]
    exact Nat.mod_eq_of_lt (by omega)
  have e3 : (31 : Int32).toBitVec.toNat = 2 ^ 5 - 1 := by decide
  rw [e1, e2, e3, Nat.and_two_pow_sub_one_eq_mod]
theorem loop_end {L k : Nat} (hL : L ≤ 3072) (hk : 6 * k ≤ 4000) : (nI L - 6 < nI (6 * k)) ↔ L < 6 * k + 6 := by
  by_cases z : 6 ≤ L
  · rw [show nI L - 6 = nI (L - 6) from n_sub (b := 6) z, n_lt (by omega) (by omega)]
    omega
  · have h0 : (nI L - 6).toInt < 0 := by
      have : L = 0 ∨ L = 1 ∨ L = 2 ∨ L = 3 ∨ L = 4 ∨ L = 5 := by omega
      rcases this with rfl | rfl | rfl | rfl | rfl | rfl <;> decide
    rw [fa_lt, nI_toInt (by omega)]
    omega
section LOOP
variable {p : Program} {l : Launch} {e : Env} {s : State} {m : MethodId} {below : List Frame} {meth : Method} {c : Code} {G : Gx} {b L : Nat} {xs : Nat → Int32} {q : Nat → Nat} {da : Nat} {qc qh qt qn qs qo qm : Nat → Nat} {oa : Nat} {x00 : NSt}
set_option maxHeartbeats 4000000 in
set_option maxRecDepth 100000 in
theorem law_loop (C : Cx p s m #[Value.ref b] meth c G cL_law wsL_law RL ret 7 (fun q : Nat => s.heap.size ≤ q)) (hX : va_X b L xs s s.heap) (hbl : b < s.heap.size) (hL : L ≤ 3072) (h00 : n_clear (n0 0) 200 = some x00) (hfl : l.stackTraces = false) : ∀ (n k : Nat), L < 6 * k + 6 * n → 6 * k ≤ 4000 → ∀ (H : Heap) (locs : List Loc) (ls : Array Slot), LWP G (fun q : Nat => s.heap.size ≤ q) s q da qc qh qt qn qs qo qm oa H locs → lv_has ls 7 (lvL b q qm oa k) → W p l e room_1 s m #[Value.ref b] below meth c H locs (100 + 16 * k) (50000 + 2000 * k) (lw_Z below #[Value.ref b] s) (F0 m 23 ls []) := by
  intro n
  induction n with
  | zero =>
    intro k h1 h2 H locs ls hLP hl
    have hx := C.1
    have hb := C.2.1
    obtain ⟨f, V, sr, ta, sc, sh, tb, sn, ss, so, st, r, hR, hP, hD, hS⟩ := hLP
    refine lv_iload hx hb dL_law_23 (lv_at hl 4 rfl) ?_
    refine lv_aload_n hx hb dL_law_25 rfl (lv_at hl 0 rfl) ?_
    refine va_slen hx hb hX hbl (Nat.not_le.mpr hbl) hS dL_law_26 ?_
    refine lv_bipush (v := 6) hx hb dL_law_27 (by decide) ?_
    refine lv_isub hx hb dL_law_29 ?_
    refine lv_icmp_gt (tgt := 1132) hx hb dL_law_30 (by decide) (fun c1 => ?_) (fun c1 => absurd ((loop_end hL h2).mpr (by omega)) c1)
    refine lv_iconst (v := 1) hx hb dL_law_1132 (by decide) ?_
    refine va_forget (fun q hq => hS.2.2 q hq) ?_
    refine W.widen (k := 601024) (n := 7293033) (by omega) (by omega) ?_
    exact lw_ret hx hb C.2.2.2.2.2.1 C.2.2.2.2.2.2.1 dL_law_1133
  | succ n ih =>
    intro k h1 h2 H locs ls hLP hl
    have hx := C.1
    have hb := C.2.1
    obtain ⟨f, V, sr, ta, sc, sh, tb, sn, ss, so, st, r, hR, hP, hD, hS⟩ := id hLP
    refine lv_iload hx hb dL_law_23 (lv_at hl 4 rfl) ?_
    refine lv_aload_n hx hb dL_law_25 rfl (lv_at hl 0 rfl) ?_
    refine va_slen hx hb hX hbl (Nat.not_le.mpr hbl) hS dL_law_26 ?_
    refine lv_bipush (v := 6) hx hb dL_law_27 (by decide) ?_
    refine lv_isub hx hb dL_law_29 ?_
    refine lv_icmp_gt (tgt := 1132) hx hb dL_law_30 (by decide) (fun c1 => ?_) (fun c1 => ?_)
    · refine lv_iconst (v := 1) hx hb dL_law_1132 (by decide) ?_
      refine va_forget (fun q hq => hS.2.2 q hq) ?_
      refine W.widen (k := 601024) (n := 7293033) (by omega) (by omega) ?_
      exact lw_ret hx hb C.2.2.2.2.2.1 C.2.2.2.2.2.2.1 dL_law_1133
    · have hk6 : 6 * k + 6 ≤ L := Nat.not_lt.mp (fun z => c1 ((loop_end hL h2).mpr z))
      have C0 : LC p l s m meth c G (fun q : Nat => s.heap.size ≤ q) b L k (100 + 16 * k) (50000 + 2000 * k) xs x00 := ⟨C, hX, hbl, Nat.not_le.mpr hbl, hk6, hL, by omega, by omega, h00, hfl⟩
      have K : KL p l e s m below meth c (lw_Z below #[Value.ref b] s) G (fun q : Nat => s.heap.size ≤ q) b k (100 + 16 * k) (50000 + 2000 * k) q da qc qh qt qn qs qo qm oa := by
        intro H locs ls hLP hl
        refine lv_iinc (v := nI (6 * (k + 1))) (lv' := [(4, .int (nI (6 * (k + 1)))), (0, .ref b), (1, .ref (q 12)), (2, .ref (qm 42)), (3, .ref oa)]) hx hb dL_law_1126 hl (k := 4) rfl (show nI (6 * k) + nI 6 = nI (6 * (k + 1)) by rw [nI_add]; congr 1) (by decide) rfl (fun ls hl => ?_)
        refine lv_goto (tgt := 23) hx hb dL_law_1129 (by decide) ?_
        exact W.widen (by omega) (by omega) (ih (k + 1) (by omega) (by omega) H locs ls hLP (lv_sub hl [1, 2, 3, 4, 0] rfl))
      refine lv_aload_n hx hb dL_law_33 rfl (lv_at hl 0 rfl) ?_
      refine lv_iload hx hb dL_law_34 (lv_at hl 4 rfl) ?_
      refine va_sld hx hb hX hbl (Nat.not_le.mpr hbl) hS (vp_in_nI (by omega) (by omega)) dL_law_36 ?_
      refine lv_bipush (v := 31) hx hb dL_law_37 (by decide) ?_
      refine lv_iand hx hb dL_law_39 ?_
      obtain ⟨j, hj, ej⟩ := and_31 (xs (nI (6 * k)).toNatClampNeg)
      rw [ej]
      rcases (show j = 0 ∨ j = 1 ∨ j = 2 ∨ j = 3 ∨ j = 4 ∨ j = 5 ∨ j = 6 ∨ j = 7 ∨ j = 8 ∨ j = 9 ∨ j = 10 ∨ j = 11 ∨ j = 12 ∨ j = 13 ∨ j = 14 ∨ j = 15 ∨ j = 16 ∨ j = 17 ∨ j = 18 ∨ j = 19 ∨ j = 20 ∨ j = 21 ∨ j = 22 ∨ j = 23 ∨ j = 24 ∨ j = 25 ∨ j = 26 ∨ j = 27 ∨ 28 ≤ j by omega) with rfl | rfl | rfl | rfl | rfl | rfl | rfl | rfl | rfl | rfl | rfl | rfl | rfl | rfl | rfl | rfl | rfl | rfl | rfl | rfl | rfl | rfl | rfl | rfl | rfl | rfl | rfl | rfl | h28
      · exact lv_tableIn hx hb dL_law_40 (off := 128) (tgt := 168) (by decide) (by decide) (by decide) (by decide) (law_feed C0 hLP hl K)
      · exact lv_tableIn hx hb dL_law_40 (off := 201) (tgt := 241) (by decide) (by decide) (by decide) (by decide) (law_net C0 hLP hl K)
      · exact lv_tableIn hx hb dL_law_40 (off := 226) (tgt := 266) (by decide) (by decide) (by decide) (by decide) (law_count C0 hLP hl K)
      · exact lv_tableIn hx hb dL_law_40 (off := 251) (tgt := 291) (by decide) (by decide) (by decide) (by decide) (law_rule C0 hLP hl K)
      · exact lv_tableIn hx hb dL_law_40 (off := 276) (tgt := 316) (by decide) (by decide) (by decide) (by decide) (law_kind C0 hLP hl K)
      · exact lv_tableIn hx hb dL_law_40 (off := 301) (tgt := 341) (by decide) (by decide) (by decide) (by decide) (law_link C0 hLP hl K)
      · exact lv_tableIn hx hb dL_law_40 (off := 338) (tgt := 378) (by decide) (by decide) (by decide) (by decide) (law_root C0 hLP hl K)
      · exact lv_tableIn hx hb dL_law_40 (off := 363) (tgt := 403) (by decide) (by decide) (by decide) (by decide) (law_rootAt C0 hLP hl K)
      · exact lv_tableIn hx hb dL_law_40 (off := 388) (tgt := 428) (by decide) (by decide) (by decide) (by decide) (law_pair C0 hLP hl K)
      · exact lv_tableIn hx hb dL_law_40 (off := 425) (tgt := 465) (by decide) (by decide) (by decide) (by decide) (law_next C0 hLP hl K)
      · exact lv_tableIn hx hb dL_law_40 (off := 450) (tgt := 490) (by decide) (by decide) (by decide) (by decide) (law_number C0 hLP hl K)
      · exact lv_tableIn hx hb dL_law_40 (off := 506) (tgt := 546) (by decide) (by decide) (by decide) (by decide) (law_list C0 hLP hl K)
      · exact lv_tableIn hx hb dL_law_40 (off := 574) (tgt := 614) (by decide) (by decide) (by decide) (by decide) (law_seen C0 hLP hl K)
      · exact lv_tableIn hx hb dL_law_40 (off := 587) (tgt := 627) (by decide) (by decide) (by decide) (by decide) (law_met C0 hLP hl K)
      · exact lv_tableIn hx hb dL_law_40 (off := 624) (tgt := 664) (by decide) (by decide) (by decide) (by decide) (law_run C0 hLP hl K)
      · exact lv_tableIn hx hb dL_law_40 (off := 673) (tgt := 713) (by decide) (by decide) (by decide) (by decide) (law_round C0 hLP hl K)
      · exact lv_tableIn hx hb dL_law_40 (off := 686) (tgt := 726) (by decide) (by decide) (by decide) (by decide) (law_reduce C0 hLP hl K)
      · exact lv_tableIn hx hb dL_law_40 (off := 711) (tgt := 751) (by decide) (by decide) (by decide) (by decide) (law_tried C0 hLP hl K)
      · exact lv_tableIn hx hb dL_law_40 (off := 772) (tgt := 812) (by decide) (by decide) (by decide) (by decide) (law_rounds C0 hLP hl K)
      · exact lv_tableIn hx hb dL_law_40 (off := 785) (tgt := 825) (by decide) (by decide) (by decide) (by decide) (law_alike C0 hLP hl K)
      · exact lv_tableIn hx hb dL_law_40 (off := 846) (tgt := 886) (by decide) (by decide) (by decide) (by decide) (law_likeImage C0 hLP hl K)
      · exact lv_tableIn hx hb dL_law_40 (off := 871) (tgt := 911) (by decide) (by decide) (by decide) (by decide) (law_put C0 hLP hl K)
      · exact lv_tableIn hx hb dL_law_40 (off := 908) (tgt := 948) (by decide) (by decide) (by decide) (by decide) (law_split C0 hLP hl K)
      · exact lv_tableIn hx hb dL_law_40 (off := 933) (tgt := 973) (by decide) (by decide) (by decide) (by decide) (law_twice C0 hLP hl K)
      · exact lv_tableIn hx hb dL_law_40 (off := 958) (tgt := 998) (by decide) (by decide) (by decide) (by decide) (law_drop C0 hLP hl K)
      · exact lv_tableIn hx hb dL_law_40 (off := 983) (tgt := 1023) (by decide) (by decide) (by decide) (by decide) (law_join C0 hLP hl K)
      · exact lv_tableIn hx hb dL_law_40 (off := 1020) (tgt := 1060) (by decide) (by decide) (by decide) (by decide) (law_undo C0 hLP hl K)
      · exact lv_tableIn hx hb dL_law_40 (off := 1033) (tgt := 1073) (by decide) (by decide) (by decide) (by decide) (law_image C0 hLP hl K)
      · exact lv_tableOut hx hb dL_law_40 (tgt := 1126) (Or.inr (by rw [nI_toInt (by omega)]; omega)) (by decide) (W.widen (by omega) (by omega) (K H locs ls hLP hl))
end LOOP
