/-! names that stand once, twice: the class -/
def EE (r so fi gi : Nat → Nat) (nc i : Nat) (p : Nat) : Prop := nP r p ∨ (1000 ≤ p ∧ p < 1000 + sgc so i) ∨ (∃ j, i ≤ j ∧ j < nc ∧ (p = 1016 + fi j ∨ (so j = 2 ∧ p = 1016 + gi j)))
theorem CM_67 {r t : Nat → Nat} {sn sn' : NSt} (c : CM r sn) (ht : ∀ j, j < 630 → j ≠ 6 → j ≠ 7 → (j < 14 ∨ 30 ≤ j) → t j = r j) (h5 : r 5 ≤ 300) (e12 : ni sn' 12 = nI (t 6)) (e13 : ni sn' 13 = nI (t 7)) (eo : ∀ k, k ≠ 12 → k ≠ 13 → ni sn' k = ni sn k) (ea : ∀ k, k ≠ 1 → na sn' k = na sn k) : CM t sn' := by
  obtain ⟨⟨c6, c7, c8, c9⟩, ⟨c11, c10, c12, c13⟩, c3, c0, c2⟩ := c
  refine ⟨⟨?_, ?_, ?_, ?_⟩, ⟨?_, ?_, e12, e13⟩, fun k hk => ?_, fun m hm => ?_, fun k hk => ?_⟩
  · rw [eo 6 (by omega) (by omega), ht 0 (by omega) (by omega) (by omega) (by omega)]; exact c6
  · rw [eo 7 (by omega) (by omega), ht 1 (by omega) (by omega) (by omega) (by omega)]; exact c7
  · rw [eo 8 (by omega) (by omega), ht 2 (by omega) (by omega) (by omega) (by omega)]; exact c8
  · rw [eo 9 (by omega) (by omega), ht 3 (by omega) (by omega) (by omega) (by omega)]; exact c9
  · rw [eo 11 (by omega) (by omega), ht 4 (by omega) (by omega) (by omega) (by omega)]; exact c11
  · rw [eo 10 (by omega) (by omega), ht 5 (by omega) (by omega) (by omega) (by omega)]; exact c10
  · rw [ea 3 (by omega), ht _ (by omega) (by omega) (by omega) (by omega)]; exact c3 k hk
  · rw [ea 0 (by omega), ht _ (by omega) (by omega) (by omega) (by omega)]; exact c0 m hm
  · rw [ht 5 (by omega) (by omega) (by omega) (by omega)] at hk
    rw [ea 2 (by omega), ht _ (by omega) (by omega) (by omega) (by omega)]; exact c2 k hk
theorem cXr {i : Nat} {X : Nat → Prop} {q : Nat} : cX (List.range i) X q ↔ (X q ∧ ∀ j, j < i → q ≠ wa j ∧ q ≠ wb j) := by
  rw [cX_iff]
  constructor
  · exact fun z => ⟨z.1, fun j hj => z.2 j (List.mem_range.mpr hj)⟩
  · exact fun z => ⟨z.1, fun j hj => z.2 j (List.mem_range.mp hj)⟩
theorem X0_okl {r so : Nat → Nat} {nc i : Nat} (hs : sgc so nc ≤ 16) (hi : i ≤ nc) : okl (List.range i) (X0 r so nc nc) := okl_of _ List.nodup_range (fun j hj => by
  have := List.mem_range.mp hj
  exact ⟨(X0_wa hs).mpr (by omega), (X0_wb hs).mpr ⟨by omega, Or.inr (by omega)⟩⟩)
/-- one pair of wires taken out by both: links -/
theorem ct_two {X E : Nat → Prop} {M L ρ : Nat → Nat} (hm : MT X M) (hL : MT E L) (hE : ∀ p, E p → X (ρ p) ∧ M (ρ p) = ρ (L p)) (inj : ∀ p q, ρ p = ρ q → p = q) {a b : Nat} (ha : E a) (hb : E b) (hab : a ≠ b) : (∀ p, Em E a b p → ctr M (ρ a) (ρ b) (ρ p) = ρ (ctr L a b p)) ∧ lp M (ρ a) (ρ b) = lp L a b := by
  have ab : ρ a ≠ ρ b := fun z => hab (inj _ _ z)
  constructor
  · rintro p ⟨hp, pa, pb⟩
    rw [ctr_at hm (hE a ha).1 (hE b hb).1 ab (hE p hp).1 (fun z => pa (inj _ _ z)) (fun z => pb (inj _ _ z)), ctr_at hL ha hb hab hp pa pb, (hE p hp).2, (hE a ha).2, (hE b hb).2]
    by_cases q1 : L p = a
    · rw [if_pos q1, if_pos (by rw [q1])]
    · rw [if_neg q1, if_neg (fun z => q1 (inj _ _ z))]
      by_cases q2 : L p = b
      · rw [if_pos q2, if_pos (by rw [q2])]
      · rw [if_neg q2, if_neg (fun z => q2 (inj _ _ z))]
  · unfold lp
    rw [(hE a ha).2]
    by_cases q : L a = b
    · rw [if_pos q, if_pos (by rw [q])]
    · rw [if_neg q, if_neg (fun z => q (inj _ _ z))]
def tR (r so : Nat → Nat) (L0 : Nat → Nat) (i : Nat) : Nat → Nat := ur (ur r 6 (sgc so i)) 7 (r 7 + cC (List.range i) L0)
theorem tR_o {r so L0 : Nat → Nat} {i j : Nat} (h6 : j ≠ 6) (h7 : j ≠ 7) : tR r so L0 i j = r j := by
  unfold tR
  rw [ur_n h7, ur_n h6]
theorem tR_6 {r so L0 : Nat → Nat} {i : Nat} : tR r so L0 i 6 = sgc so i := by
  unfold tR
  rw [ur_n (by omega), ur_s]
theorem tR_7 {r so L0 : Nat → Nat} {i : Nat} : tR r so L0 i 7 = r 7 + cC (List.range i) L0 := ur_s
theorem splice_both {E : Nat → Prop} {L K : Nat → Nat} {sn : NSt} (h : CN E L K sn) {a b : Nat} (ha : E a) (hb : E b) (hab : a ≠ b) (nha : ¬ hd a) (nb : ¬ hd b) : ∃ sn', n_splice sn (nI a) (nI b) = some sn' ∧ CN (Em E a b) (ctr L a b) K sn' ∧ nl sn' = nl sn ∧ ni sn' 13 = ni sn 13 + nI (lp L a b) ∧ (∀ k, k ≠ 13 → ni sn' k = ni sn k) ∧ (∀ k, k ≠ 1 → na sn' k = na sn k) ∧ (∀ q, ¬ E q → na sn' 1 q = na sn 1 q) := by
  obtain ⟨p1, p2⟩ := n_splice_ok h ha hb hab nha nb
  unfold ctr lp
  by_cases q : L a = b
  · obtain ⟨f1, f2⟩ := p1 q
    rw [if_pos q, if_pos q]
    exact ⟨_, f1, f2, rfl, rfl, fun k hk => if_neg hk, fun _ _ => rfl, fun _ _ => rfl⟩
  · obtain ⟨s1, f1, ⟨f2, f3⟩, f4⟩ := p2 q
    rw [if_neg q, if_neg q]
    refine ⟨s1, f1, f4, f2.gl, ?_, fun k _ => f2.gi k, fun k hk => f2.ga hk, fun p hp => f3 p (fun z => hp ?_) (fun z => hp ?_)⟩
    · rw [f2.gi, show nI 0 = (0 : Int32) from rfl, Int32.add_zero]
    · rw [z]; exact (h.2.1.1 a ha).1
    · rw [z]; exact (h.2.1.1 b hb).1
theorem names_loop {r so fi gi ρ L0 : Nat → Nat} {nc : Nat} {tt : OSt} {sa : Nat → Int32} (hn : nc ≤ 250) (hs16 : sgc so nc ≤ 16) (w5 : r 5 ≤ 300) (hm : MT (X0 r so nc nc) L0) (hρ : ∀ p, p < 1016 → ρ p = p) (inj : ∀ p q, ρ p = ρ q → p = q) (h11 : tt.1 11 = nI nc) (hd9 : ∀ i, i < nc → tt.2 9 i = nI (1016 + fi i) ∧ ρ (1016 + fi i) = wa i ∧ fi i < 250 ∧ ((so i = 1 ∧ tt.2 10 i = -1) ∨ (so i = 2 ∧ tt.2 10 i = nI (1016 + gi i) ∧ gi i < 250 ∧ ρ (1016 + gi i) = wb i))) :
    ∀ (fuel i : Nat) (sn : NSt) (E : Nat → Prop) (L : Nat → Nat), i ≤ nc → nc - i < fuel → nl sn = 1266 → CM (tR r so L0 i) sn → CN E L (Kr r) sn → RT E sn → (∀ p, E p ↔ EE r so fi gi nc i p) → (∀ p, E p → cL (List.range i) L0 (ρ p) = ρ (L p)) → (∀ j, i ≤ j → j < nc → so j = 1 → cL (List.range i) L0 (wb j) = 1000 + sgc so j ∧ cL (List.range i) L0 (1000 + sgc so j) = wb j) →
    ∃ (sn' : NSt) (L' : Nat → Nat), t_endNames_50 fuel tt 500 sa sn (nI i) = some sn' ∧ nl sn' = 1266 ∧ CM (tR r so L0 nc) sn' ∧ CN (EE r so fi gi nc nc) L' (Kr r) sn' ∧ RT (EE r so fi gi nc nc) sn' ∧ (∀ p, EE r so fi gi nc nc p → cL (List.range nc) L0 p = L' p) := by
  intro fuel
  induction fuel with
  | zero => intro i _ _ _ _ h; omega
  | succ n ih =>
    intro i sn E L hi hf hnl hc hN hT hE hA hB
    by_cases q : i = nc
    · have lo : ∀ p, E p → p < 1016 := fun p hp => by
        rcases (hE p).mp hp with z | z | ⟨j, z1, z2, _⟩
        · have := z.1; omega
        · rw [q] at z; omega
        · omega
      rw [q] at hc hE hA
      refine ⟨sn, L, ?_, hnl, hc, hN.cong (fun p => (hE p).symm) (fun _ _ => rfl), hT.cong (fun p => (hE p).symm), fun p hp => ?_⟩
      · rw [t_endNames_50, h11, if_pos (nI_le (by omega) (by omega))]
      · have hp' := (hE p).mpr hp
        have := hA p hp'
        rw [hρ p (lo p hp'), hρ (L p) (lo _ (hN.2.1.1 p hp').1)] at this
        exact this
    have ilt : i < nc := by omega
    have m0 := sgc_mono so (i := i) (n := nc) (by omega)
    have m1 := sgc_mono so (i := i + 1) (n := nc) (by omega)
    have okr : okl (List.range i) (X0 r so nc nc) := X0_okl hs16 hi
    have mi := MT.cl (List.range i) hm okr
    have hL := hN.2.1.1
    obtain ⟨d1, d2, d3, d4⟩ := hd9 i ilt
    have waX : cX (List.range i) (X0 r so nc nc) (wa i) := cXr.mpr ⟨(X0_wa hs16).mpr ilt, fun j hj => by unfold wa wb; omega⟩
    have wbX : cX (List.range i) (X0 r so nc nc) (wb i) := cXr.mpr ⟨(X0_wb hs16).mpr ⟨ilt, Or.inr ilt⟩, fun j hj => by unfold wa wb; omega⟩
    have wjX : ∀ j, i ≤ j → j < nc → cX (List.range i) (X0 r so nc nc) (wb j) := fun j h1 h2 => cXr.mpr ⟨(X0_wb hs16).mpr ⟨h2, Or.inr h2⟩, fun k hk => by unfold wa wb; omega⟩
    have rtX : ∀ k, k < sgc so nc → cX (List.range i) (X0 r so nc nc) (1000 + k) := fun k hk => cXr.mpr ⟨(X0_lo (by omega)).mpr (Or.inr (by omega)), fun j hj => by unfold wa wb; omega⟩
    have hEX : ∀ p, E p → cX (List.range i) (X0 r so nc nc) (ρ p) := fun p hp => by
      refine cXr.mpr ?_
      rcases (hE p).mp hp with z | z | ⟨j, z1, z2, z3⟩
      · have z9 := z.1
        rw [hρ p (by omega)]
        exact ⟨Or.inl z, fun j hj => by unfold wa wb; omega⟩
      · rw [hρ p (by omega)]
        exact ⟨(X0_lo (by omega)).mpr (Or.inr (by omega)), fun j hj => by unfold wa wb; omega⟩
      · obtain ⟨y1, y2, y3, y4⟩ := hd9 j z2
        rcases z3 with z3 | ⟨z3, z4⟩
        · rw [z3, y2]
          exact ⟨(X0_wa hs16).mpr z2, fun k hk => by unfold wa wb; omega⟩
        · rcases y4 with ⟨x1, _⟩ | ⟨_, _, _, x4⟩
          · omega
          · rw [z4, x4]
            exact ⟨(X0_wb hs16).mpr ⟨z2, Or.inr z2⟩, fun k hk => by unfold wa wb; omega⟩
    have sgk : ∀ j, j < nc → so j = 1 → sgc so j < sgc so nc := fun j h1 h2 => by
      have := sgc_mono so (i := j + 1) (n := nc) (by omega)
      rw [sgc_s1 h2] at this
      omega
    have hB' : ∀ j, i + 1 ≤ j → j < nc → so j = 1 → cL (List.range (i + 1)) L0 (wb j) = 1000 + sgc so j ∧ cL (List.range (i + 1)) L0 (1000 + sgc so j) = wb j := fun j h1 h2 h3 => by
      obtain ⟨b1, b2⟩ := hB j (by omega) h2 h3
      have kk := sgk j h2 h3
      rw [List.range_succ, cL_app, ctr_at mi waX wbX (ab_ne i) (wjX j (by omega) h2) (by unfold wa wb; omega) (by unfold wb; omega), ctr_at mi waX wbX (ab_ne i) (rtX _ kk) (by unfold wa; omega) (by unfold wb; omega), b1, b2]
      rw [if_neg (show ¬ 1000 + sgc so j = wa i by unfold wa; omega), if_neg (show ¬ 1000 + sgc so j = wb i by unfold wb; omega), if_neg (show ¬ wb j = wa i by unfold wa wb; omega), if_neg (show ¬ wb j = wb i by unfold wb; omega)]
      exact ⟨rfl, rfl⟩
    have fa : E (1016 + fi i) := (hE _).mpr (Or.inr (Or.inr ⟨i, Nat.le_refl _, ilt, Or.inl rfl⟩))
    have Ma : cL (List.range i) L0 (wa i) = ρ (L (1016 + fi i)) := by rw [← d2]; exact hA _ fa
    have nha : ¬ hd (1016 + fi i) := fun z => by have := z.1; omega
    have fne : ∀ j, j < nc → j ≠ i → fi j ≠ fi i := fun j h1 h2 z => by
      have y := (hd9 j h1).2.1
      rw [z, d2] at y
      unfold wa at y
      omega
    rcases d4 with ⟨s1, t10⟩ | ⟨s2, t10, g3, g4⟩
    · -- a root
      have es := sgc_s1 s1
      obtain ⟨k, hk⟩ : ∃ k, k = sgc so i := ⟨_, rfl⟩
      obtain ⟨a, haa⟩ : ∃ a, a = 1016 + fi i := ⟨_, rfl⟩
      rw [← haa] at fa Ma nha d1 d2
      obtain ⟨b1, b2⟩ := hB i (Nat.le_refl _) ilt s1
      rw [← hk] at b1 b2
      obtain ⟨l1, l2, l3⟩ := hL a fa
      have e12 : ni sn 12 = nI k := by rw [hc.2.1.2.2.1, tR_6, hk]
      have nk : ¬ E (1000 + k) := fun z => by
        rcases (hE _).mp z with z | z | ⟨j, z1, z2, z3⟩
        · have := z.1; omega
        · omega
        · rcases z3 with z3 | ⟨_, z3⟩ <;> omega
      have N2 : CN E L (Kr r) (nsI sn 12 (nI k + 1)) := hN
      have N3 := N2.drop fa (fun z => nha z.1)
      have lalt : L a < 1266 := by have := (hN.2.1.2.1 _ l1).1; omega
      obtain ⟨s3, f1, ⟨f2, f3⟩, f4⟩ := n_connect_ok N3 (a := 1000 + k) (b := L a) (fun z => nk z.1) (fun z => z.2.2 rfl) (fun z => nk (z ▸ l1)) (show 1000 + k < nl sn by omega) (show L a < nl sn by omega) (fun z => by omega) (fun z => hN.2.1.2.2.1 _ l1 z)
      have e : t_endNames_50 (n + 1) tt 500 sa sn (nI i) = t_endNames_50 n tt 500 sa s3 (nI (i + 1)) := by
        rw [t_endNames_50, h11, if_neg (nI_ge (by omega) (by omega)), gd_nI (by omega) (by omega), nc_ (by omega), t10, if_pos rfl, gd_nI (by omega) (by omega), d1, n_at_ok hN fa, bd_s]
        unfold n_makeRoot
        rw [e12, if_pos (show nI k < (16 : Int32) from nI_lt (b := 16) (by omega) (by omega)), nm_eq, i1000, nI_add, f1, bd_s, bd_s, nI_1]
      have E' : ∀ p, EE r so fi gi nc (i + 1) p ↔ E2 (Em E a (L a)) (1000 + k) (L a) p := fun p => by
        have pE := hE p
        unfold E2 Em
        constructor
        · rintro (z | z | ⟨j, z1, z2, z3⟩)
          · by_cases y : p = L a
            · exact Or.inr (Or.inr y)
            · have := z.1
              exact Or.inl ⟨pE.mpr (Or.inl z), by omega, y⟩
          · rw [es] at z
            by_cases y : p = L a
            · exact Or.inr (Or.inr y)
            · by_cases y2 : p = 1000 + k
              · exact Or.inr (Or.inl y2)
              · exact Or.inl ⟨pE.mpr (Or.inr (Or.inl (by omega))), by omega, y⟩
          · by_cases y : p = L a
            · exact Or.inr (Or.inr y)
            · refine Or.inl ⟨pE.mpr (Or.inr (Or.inr ⟨j, by omega, z2, z3⟩)), fun w => ?_, y⟩
              have hj := hd9 j z2
              rcases z3 with z3 | ⟨z3, z4⟩
              · have := fne j z2 (by omega); omega
              · rcases hj.2.2.2 with ⟨x1, _⟩ | ⟨_, _, _, x4⟩
                · omega
                · rw [← z4, w, d2] at x4
                  unfold wa wb at x4
                  omega
        · have back : E p → p ≠ a → EE r so fi gi nc (i + 1) p := fun z y => by
            rcases pE.mp z with z | z | ⟨j, z1, z2, z3⟩
            · exact Or.inl z
            · exact Or.inr (Or.inl (by rw [es]; omega))
            · by_cases y2 : j = i
              · rw [y2] at z3
                rcases z3 with z3 | ⟨z3, _⟩
                · omega
                · omega
              · exact Or.inr (Or.inr ⟨j, by omega, z2, z3⟩)
          rintro (⟨z1, z2, z3⟩ | z | z)
          · exact back z1 z2
          · exact Or.inr (Or.inl (by rw [es]; omega))
          · rw [z] at back ⊢
            rw [z] at pE
            rcases (hE (L a)).mp l1 with w | w | ⟨j, w1, w2, w3⟩
            · exact Or.inl w
            · exact Or.inr (Or.inl (by rw [es]; omega))
            · by_cases y2 : j = i
              · rw [y2] at w3
                rcases w3 with w3 | ⟨w3, _⟩
                · exact absurd (w3.trans haa.symm) l3
                · omega
              · exact Or.inr (Or.inr ⟨j, by omega, w2, w3⟩)
      have lp0 : lp (cL (List.range i) L0) (wa i) (wb i) = 0 := by
        unfold lp
        rw [if_neg]
        intro z
        have := (sym_at mi waX wbX).mp z
        rw [b1] at this
        unfold wa at this
        omega
      suffices hs : CM (tR r so L0 (i + 1)) s3 ∧ RT (EE r so fi gi nc (i + 1)) s3 ∧ (∀ p, EE r so fi gi nc (i + 1) p → cL (List.range (i + 1)) L0 (ρ p) = ρ (lk2 L (1000 + k) (L a) p)) by
        obtain ⟨sn', L', o1, o2, o3, o4, o5, o6⟩ := ih (i + 1) s3 (EE r so fi gi nc (i + 1)) (lk2 L (1000 + k) (L a)) (by omega) (by omega) (by rw [f2.gl]; exact hnl) hs.1 (f4.cong E' (fun _ _ => rfl)) hs.2.1 (fun _ => Iff.rfl) hs.2.2 hB'
        exact ⟨sn', L', by rw [e]; exact o1, o2, o3, o4, o5, o6⟩
      refine ⟨?_, ?_, ?_⟩
      · refine CM_67 hc (fun j _ h6 h7 _ => by rw [tR_o h6 h7, tR_o h6 h7]) (by rw [tR_o (by omega) (by omega)]; exact w5) ?_ ?_ (fun j h12 h13 => ?_) (fun j h1 => ?_)
        · rw [f2.gi, tR_6, es, ← hk, ← nI_1]; rfl
        · rw [f2.gi, tR_7, List.range_succ, cC_app, lp0, Nat.add_zero]
          exact hc.2.1.2.2.2
        · rw [f2.gi]; exact if_neg h12
        · rw [f2.ga h1]; rfl
      · intro m hm16 hx
        have hx' : ¬ E2 (Em E a (L a)) (1000 + k) (L a) (1000 + m) := fun z => hx ((E' _).mpr z)
        have n1 : 1000 + m ≠ 1000 + k := fun z => hx' (Or.inr (Or.inl z))
        have n2 : 1000 + m ≠ L a := fun z => hx' (Or.inr (Or.inr z))
        rw [f3 _ n1 n2]
        exact hT m hm16 (fun z => hx' (Or.inl ⟨z, by omega, n2⟩))
      · intro p hp
        have X2 : cX (List.range i) (X0 r so nc nc) (1000 + k) := rtX k (by omega)
        rw [List.range_succ, cL_app]
        by_cases y : p = L a
        · rw [y, lk2_b, ctr_at mi waX wbX (ab_ne i) (hEX _ l1) ?_ ?_, hA _ l1, l2, d2, if_pos rfl, b1, hρ _ (by omega)]
          · rw [← d2]; exact fun z => l3 (inj _ _ z)
          · intro z
            have y1 := hA _ l1
            rw [z, l2, d2, b1] at y1
            unfold wa at y1
            omega
        · by_cases y2 : p = 1000 + k
          · rw [y2, lk2_a _ (show 1000 + k ≠ L a from fun z => nk (z ▸ l1)), hρ (1000 + k) (by omega), ctr_at mi waX wbX (ab_ne i) X2 (by unfold wa; omega) (by unfold wb; omega), b2, if_neg (Ne.symm (ab_ne i)), if_pos rfl, Ma]
          · rw [lk2_o _ y2 y]
            have hp' : E p ∧ p ≠ a := by
              rcases (E' p).mp hp with z | z | z
              · exact ⟨z.1, z.2.1⟩
              · exact absurd z y2
              · exact absurd z y
            have na1 : ρ p ≠ wa i := by rw [← d2]; exact fun z => hp'.2 (inj _ _ z)
            have nb1 : ρ p ≠ wb i := fun z => by
              have y1 := hA _ hp'.1
              rw [z, b1, ← hρ (1000 + k) (by omega)] at y1
              exact nk (inj _ _ y1 ▸ (hL p hp'.1).1)
            rw [ctr_at mi waX wbX (ab_ne i) (hEX _ hp'.1) na1 nb1, hA _ hp'.1, if_neg, if_neg]
            · intro z
              have y1 := (sym_at mi (hEX _ hp'.1) wbX).mp (by rw [hA _ hp'.1]; exact z)
              rw [b1, ← hρ (1000 + k) (by omega)] at y1
              exact y2 (inj _ _ y1).symm
            · rw [← d2]
              intro z
              apply y
              rw [← inj _ _ z, (hL p hp'.1).2.1]
    · -- both ends
      have es := sgc_s2 s2
      obtain ⟨a, haa⟩ : ∃ a, a = 1016 + fi i := ⟨_, rfl⟩
      obtain ⟨b, hbb⟩ : ∃ b, b = 1016 + gi i := ⟨_, rfl⟩
      have fb : E (1016 + gi i) := (hE _).mpr (Or.inr (Or.inr ⟨i, Nat.le_refl _, ilt, Or.inr ⟨s2, rfl⟩⟩))
      have nhb : ¬ hd (1016 + gi i) := fun z => by have := z.1; omega
      rw [← haa] at fa Ma nha d1 d2
      rw [← hbb] at fb nhb t10 g4
      have hab : a ≠ b := fun z => ab_ne i (by rw [← d2, ← g4, z])
      obtain ⟨s3, f1, f2, f3, f4, f5, f6, f7⟩ := splice_both hN fa fb hab nha nhb
      obtain ⟨c1, c2⟩ := ct_two mi hL (fun p hp => ⟨hEX p hp, hA p hp⟩) inj fa fb hab
      rw [d2, g4] at c1 c2
      have e : t_endNames_50 (n + 1) tt 500 sa sn (nI i) = t_endNames_50 n tt 500 sa s3 (nI (i + 1)) := by
        rw [t_endNames_50, h11, if_neg (nI_ge (by omega) (by omega)), gd_nI (by omega) (by omega), nc_ (by omega), t10, if_neg (ne_m1 (by omega)), gd_nI (by omega) (by omega), gd_nI (by omega) (by omega), d1, f1, bd_s, nI_1]
      have E' : ∀ p, EE r so fi gi nc (i + 1) p ↔ Em E a b p := fun p => by
        have pE := hE p
        unfold Em
        constructor
        · rintro (z | z | ⟨j, z1, z2, z3⟩)
          · have := z.1
            exact ⟨pE.mpr (Or.inl z), by omega, by omega⟩
          · rw [es] at z
            exact ⟨pE.mpr (Or.inr (Or.inl z)), by omega, by omega⟩
          · have hj := hd9 j z2
            refine ⟨pE.mpr (Or.inr (Or.inr ⟨j, by omega, z2, z3⟩)), fun w => ?_, fun w => ?_⟩
            · rcases z3 with z3 | ⟨z3, z4⟩
              · have := fne j z2 (by omega); omega
              · rcases hj.2.2.2 with ⟨x1, _⟩ | ⟨_, _, _, x4⟩
                · omega
                · rw [← z4, w, d2] at x4
                  unfold wa wb at x4
                  omega
            · rcases z3 with z3 | ⟨z3, z4⟩
              · have x4 := hj.2.1
                rw [← z3, w, g4] at x4
                unfold wa wb at x4
                omega
              · rcases hj.2.2.2 with ⟨x1, _⟩ | ⟨_, _, _, x4⟩
                · omega
                · rw [← z4, w, g4] at x4
                  unfold wb at x4
                  omega
        · rintro ⟨z, y1, y2⟩
          rcases pE.mp z with z | z | ⟨j, z1, z2, z3⟩
          · exact Or.inl z
          · exact Or.inr (Or.inl (by rw [es]; exact z))
          · by_cases y3 : j = i
            · rw [y3] at z3
              rcases z3 with z3 | ⟨_, z3⟩
              · exact absurd (z3.trans haa.symm) y1
              · exact absurd (z3.trans hbb.symm) y2
            · exact Or.inr (Or.inr ⟨j, by omega, z2, z3⟩)
      suffices hs : CM (tR r so L0 (i + 1)) s3 ∧ RT (EE r so fi gi nc (i + 1)) s3 ∧ (∀ p, EE r so fi gi nc (i + 1) p → cL (List.range (i + 1)) L0 (ρ p) = ρ (ctr L a b p)) by
        obtain ⟨sn', L', o1, o2, o3, o4, o5, o6⟩ := ih (i + 1) s3 (EE r so fi gi nc (i + 1)) (ctr L a b) (by omega) (by omega) (by rw [f3]; exact hnl) hs.1 (f2.cong E' (fun _ _ => rfl)) hs.2.1 (fun _ => Iff.rfl) hs.2.2 hB'
        exact ⟨sn', L', by rw [e]; exact o1, o2, o3, o4, o5, o6⟩
      refine ⟨?_, ?_, ?_⟩
      · refine CM_67 hc (fun j _ h6 h7 _ => by rw [tR_o h6 h7, tR_o h6 h7]) (by rw [tR_o (by omega) (by omega)]; exact w5) ?_ ?_ (fun j h12 h13 => f5 j h13) f6
        · rw [f5 12 (by omega), tR_6, es]
          have := hc.2.1.2.2.1
          rw [tR_6] at this
          exact this
        · rw [f4, tR_7, List.range_succ, cC_app, c2, hc.2.1.2.2.2, tR_7, nI_add, Nat.add_assoc]
      · intro m hm16 hx
        have hx' : ¬ E (1000 + m) := fun z => hx ((E' _).mpr ⟨z, by omega, by omega⟩)
        rw [f7 _ hx']
        exact hT m hm16 hx'
      · intro p hp
        rw [List.range_succ, cL_app]
        exact c1 p ((E' p).mp hp)
