/-! what the law's start gives -/
theorem nestW_in : ∀ w ∈ nestW, w ∈ lw_tbl := mem_r _ [125, 162, 164, 167, 169, 171, 173, 175, 177, 179, 181, 183, 217, 224, 269, 274, 276, 279] (by decide +kernel)
theorem nestW_use {s : State} {a : Array Value} (h : ∀ w ∈ nestW, w.before a s = true) : ∀ w ∈ nestW, va_Nw w s := by
  intro w hw
  have h1 := h w hw
  simp only [nestW, List.mem_cons, List.not_mem_nil, or_false] at hw
  rcases hw with rfl | rfl | rfl | rfl | rfl | rfl | rfl | rfl | rfl | rfl | rfl | rfl | rfl | rfl | rfl | rfl | rfl | rfl <;> exact h1
def tmS : Nat → Term := fun i => match i with
  | 0 => .string RX3 160
  | 1 => .string RX3 153
  | _ => .string RX4 158
abbrev fcS : List Cond := flatC (Jvm.Cond.and given_1 narrow_1)
theorem tmS_ex : ∀ i : Nat, i < 3 → Cond.exactly (tmS i) "java/lang/String" ∈ fcS := by decide +kernel
theorem tmS_co : ∀ i : Nat, i < 3 → Cond.eq (.field (tmS i) "java/lang/String" "coder" "B") (.int 0) ∈ fcS := by decide +kernel
theorem tmS_ar : ∀ i : Nat, i < 3 → Cond.arrayOf (.field (tmS i) "java/lang/String" "value" "[B") .byte ∈ fcS := by decide +kernel
theorem tmS_le : ∀ i : Nat, i < 3 → Cond.eq (.length (.field (tmS i) "java/lang/String" "value" "[B")) (.int (Int32.ofNat (sLen.getD i 0))) ∈ fcS := by decide +kernel
theorem tmS_el : ∀ i : Nat, i < 3 → ∀ j : Nat, j < sLen.getD i 0 → Cond.eq (.elem (.field (tmS i) "java/lang/String" "value" "[B") (.int (Int32.ofNat j))) (.int ((sByt.getD i []).getD j 0)) ∈ fcS := by decide +kernel
theorem tmS_ne : ∀ i : Nat, i < 3 → ∀ j : Nat, j < 3 → i ≠ j → Cond.not (Cond.eq (tmS i) (tmS j)) ∈ fcS ∨ Cond.not (Cond.eq (tmS j) (tmS i)) ∈ fcS := by decide +kernel
theorem tmS_cs : Cond.eq (.static "java/lang/String" "COMPACT_STRINGS" "Z") (.int 1) ∈ fcS := by decide +kernel
theorem tmS_fo : Cond.isRef (.static "jdk/internal/util/Preconditions" "SIOOBE_FORMATTER" "Ljava/util/function/BiFunction;") ∈ fcS := by decide +kernel
theorem tmS_us : Cond.isRef (.static Bundle.tN "UNASSIGNED_STACK" Bundle.steD) ∈ fcS := by decide +kernel
theorem tmS_ss : Cond.isRef (.static Bundle.tN "SUPPRESSED_SENTINEL" Bundle.listD) ∈ fcS := by decide +kernel
theorem arr_ex {ty : FieldType} {args : Array Value} {s : State} (h : (Cond.arrayClass ty).before args s = true) : ∃ cA : ClassId, ArrOfT s cA ty ∧ s.vm.findClass ("[" ++ ty.toString) = some cA := by
  obtain ⟨cA, kA, comp, h1, h2, h3⟩ := Cond.arrayClass_spec h
  exact ⟨cA, fun n z => ⟨fun k h => (by cases h), kA, h2, comp, h3⟩, h1⟩
set_option maxHeartbeats 1000000 in
theorem start_ok {s : State} {b : Nat} (hts : ∀ w ∈ lw_tbl, w.before #[Value.ref b] s = true) (hgv : (Jvm.Cond.and given_1 narrow_1).before #[Value.ref b] s = true) {A : Nat → Prop} (hA : ∀ a : Nat, a < s.heap.size → ¬ A a) : ∃ G : Gx, gK G s ∧ gX G A s s.heap := by
  have hs := flat_of_before _ hgv
  obtain ⟨c0, i0', k0⟩ := u_known (C := RX0) (T := TX0) (N := 15) (n := 15) hts wsX00_in (hts _ (List.mem_of_getElem? (i := 118) (by decide +kernel)))
  obtain ⟨c1, i1', k1⟩ := u_known (C := RX1) (T := TX1) (N := 2) (n := 2) hts wsX10_in (hts _ (List.mem_of_getElem? (i := 124) (by decide +kernel)))
  obtain ⟨c2, i2', k2⟩ := u_known (C := RX2) (T := TX2) (N := 8) (n := 8) hts wsX20_in (hts _ (List.mem_of_getElem? (i := 268) (by decide +kernel)))
  obtain ⟨c3, i3', k3⟩ := u_known (C := RX3) (T := TX3) (N := 14) (n := 14) hts wsX30_in (hts _ (List.mem_of_getElem? (i := 216) (by decide +kernel)))
  obtain ⟨c4, i4', k4⟩ := u_known (C := RX4) (T := TX4) (N := 12) (n := 12) hts wsX40_in (hts _ (List.mem_of_getElem? (i := 110) (by decide +kernel)))
  obtain ⟨c5, i5', k5⟩ := u_known (C := RX5) (T := TX5) (N := 42) (n := 42) hts wsX50_in (hts _ (List.mem_of_getElem? (i := 981) (by decide +kernel)))
  obtain ⟨a0, p0, q0⟩ := arr_ex (ty := .int) (hts _ (List.mem_of_getElem? (i := 136) (by decide +kernel)))
  obtain ⟨a1, p1, q1⟩ := arr_ex (ty := .long) (hts _ (List.mem_of_getElem? (i := 137) (by decide +kernel)))
  obtain ⟨a2, p2, q2⟩ := arr_ex (ty := .boolean) (hts _ (List.mem_of_getElem? (i := 339) (by decide +kernel)))
  obtain ⟨a3, p3, q3⟩ := arr_ex (ty := .byte) (hts _ (List.mem_of_getElem? (i := 603) (by decide +kernel)))
  have hao : (Cond.arrayOver (.object "CombinatorRing$Net")).before #[Value.ref b] s = true := hts _ (List.mem_of_getElem? (i := 301) (by decide +kernel))
  obtain ⟨comp, a4, k9, z1, z2, z3, z4, z5⟩ := Cond.arrayOver_spec hao
  obtain ⟨adK, adV, hS, hE⟩ := vk_Sof (args := #[Value.ref b]) (s := s) (N := 3) (tm := tmS) (len := sLen) (byt := sByt) (A := A) (by decide) (fun i hi => hs _ (tmS_ex i hi)) (fun i hi => hs _ (tmS_co i hi)) (fun i hi => hs _ (tmS_ar i hi)) (fun i hi => hs _ (tmS_le i hi)) (fun i hi j hj => hs _ (tmS_el i hi j hj)) (fun i j hi hj hij => (tmS_ne i hi j hj hij).elim (fun h => Or.inl (hs _ h)) (fun h => Or.inr (hs _ h))) hA
  refine ⟨((fun k => if k = 0 then c0 else if k = 1 then c1 else if k = 2 then c2 else if k = 3 then c3 else if k = 4 then c4 else c5, fun k => if k = 0 then i0' else if k = 1 then i1' else if k = 2 then i2' else if k = 3 then i3' else if k = 4 then i4' else i5'), (fun k => if k = 0 then a0 else if k = 1 then a1 else if k = 2 then a2 else if k = 3 then a3 else a4), adK, adV), ⟨?_, ?_⟩, ?_⟩
  · intro k q hq
    match k, hq with
    | 0, hq => cases hq; exact k0
    | 1, hq => cases hq; exact k1
    | 2, hq => cases hq; exact k2
    | 3, hq => cases hq; exact k3
    | 4, hq => cases hq; exact k4
    | 5, hq => cases hq; exact k5
    | k + 6, hq => simp [vwCl] at hq
  · intro k q hq
    match k, hq with
    | 0, hq => cases hq; exact ⟨p0, q0⟩
    | 1, hq => cases hq; exact ⟨p1, q1⟩
    | 2, hq => cases hq; exact ⟨p2, q2⟩
    | 3, hq => cases hq; exact ⟨p3, q3⟩
    | 4, hq => cases hq; exact ⟨fun n z => ⟨fun k h => (by cases h), k9, z3, comp, z4⟩, k9, comp, z3, z4, z1, z5⟩
    | k + 5, hq => simp [gT] at hq
  · exact ⟨hS, ⟨vk_R.of (hts _ (List.mem_of_getElem? (i := 377) (by decide +kernel))) (hE 0 (by decide)), vk_R.of (hts _ (List.mem_of_getElem? (i := 433) (by decide +kernel))) (hE 1 (by decide)), vk_R.of (hts _ (List.mem_of_getElem? (i := 930) (by decide +kernel))) (hE 2 (by decide)), va_AO.of hao⟩, va_Zof (hts _ (List.mem_of_getElem? (i := 387) (by decide +kernel))) (hts _ (List.mem_of_getElem? (i := 98) (by decide +kernel))) (va_eqi (hs _ tmS_cs)) hA, va_Zqof (hts _ (List.mem_of_getElem? (i := 403) (by decide +kernel))) (hts _ (List.mem_of_getElem? (i := 100) (by decide +kernel))) (hs _ tmS_fo) hA, vx_Zqof (hts _ (List.mem_of_getElem? (i := 918) (by decide +kernel))) (hts _ (List.mem_of_getElem? (i := 105) (by decide +kernel))) (hs _ tmS_us) hA, vx_Zqof (hts _ (List.mem_of_getElem? (i := 920) (by decide +kernel))) (hts _ (List.mem_of_getElem? (i := 105) (by decide +kernel))) (hs _ tmS_ss) hA, nestW_use (fun w hw => hts w (nestW_in w hw))⟩
