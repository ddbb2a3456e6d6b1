/-! the end of names, whole -/
theorem WM_out {r t : Nat → Nat} (h : ∀ j, j < 630 → (j < 6 ∨ 30 ≤ j) → t j = r j) (hw : WM r) : WM t := by
  obtain ⟨⟨h0, h1, h2⟩, h3, h4, h5⟩ := hw
  have h50 : r 5 ≤ 300 := by omega
  refine ⟨⟨by rw [h 0 (by omega) (by omega)]; exact h0, by rw [h 4 (by omega) (by omega), h 1 (by omega) (by omega), h 5 (by omega) (by omega)]; exact h1, by rw [h 4 (by omega) (by omega), h 0 (by omega) (by omega)]; exact h2⟩, ?_, ?_, ?_⟩
  · intro n hn
    rw [h (30 + n) (by omega) (by omega), h 4 (by omega) (by omega)]
    exact h3 n hn
  · intro k hk
    rw [h 5 (by omega) (by omega)] at hk
    have := h4 k hk
    rw [h (330 + k) (by omega) (by omega), h 4 (by omega) (by omega), h (30 + r (330 + k)) (by omega) (by omega)]
    exact this
  · intro i k hik hk
    rw [h 5 (by omega) (by omega)] at hk
    rw [h (330 + i) (by omega) (by omega), h (330 + k) (by omega) (by omega)]
    exact h5 i k hik hk
theorem endnames_ok {B : Nat → Nat} {N : Nat} {sa : Nat → Int32} {E : Nat → Prop} {L ρ wl r : Nat → Nat} {sn : NSt} {tt st : OSt} {nc wc : Nat} {nm : Nat → List Nat} {fi gi so : Nat → Nat} {a : Nat} (h : RS B N sa E L ρ wl r sn tt st nc wc nm fi gi so) (hu : ∀ p, ¬ uA E r wc p) (hw : wc ≤ 250) (hj : ∀ j, 6 ≤ j → j < 30 → r j = rE a j) (h5 : st.1 5 = nI N) :
    (∃ (sn' : NSt) (st1 st2 : OSt) (r1 r2 : Nat → Nat), t_endNames tt 500 sa sn = some (tt, sn') ∧ m_rootsAll (sR st r) = some (1, sR st1 r1) ∧ m_joinsWires (sR st1 r1) = some (sR st2 r2) ∧ NV r2 ∧ NC r2 sn' ∧ nl sn' = 1266 ∧ st2.1 = st.1 ∧ (∀ k, k ≠ 14 → k ≠ 18 → st2.2 k = st.2 k)) ∨
    (∃ (tt' st' : OSt), t_endNames tt 500 sa sn = some (tt', sn) ∧ m_rootsAll (sR st r) = some (0, sR st' r) ∧ FLT tt' st' ∧ nl sn = 1266 ∧ RFr st st') := by
  obtain ⟨tp, bs, hnl, hwl, nms, hEw, f7, f10⟩ := h
  have hN := tp.1
  obtain ⟨⟨w, c, cn, rt⟩, e1, e2, e3, e4, e5⟩ := bs
  have nms0 := nms
  obtain ⟨⟨a1, a2, a3, a4⟩, b, cd', d, f, g⟩ := nms
  obtain ⟨s1, s2⟩ := singles_ok (sa := sa) (sn := sn) nms0 (by omega) hw r
  have lt250 := sgc_le so nc
  by_cases q16 : sgc so nc ≤ 16
  · left
    have w5 : r 5 ≤ 300 := by obtain ⟨⟨z0, z1, z2⟩, _⟩ := w; omega
    have so12 : ∀ j, j < nc → so j = 1 ∨ so j = 2 := fun j hj' => by
      rcases (d j hj').2.2.2.2 with ⟨z, _⟩ | ⟨z, _⟩
      · exact Or.inl z
      · exact Or.inr z
    have xn : ∀ p, p < 900 → (xP r p ↔ nP r p) := fun p hp => by
      unfold xP nP
      constructor
      · rintro (z | z)
        · exact z
        · omega
      · exact Or.inl
    have hE : ∀ p, E p ↔ EE r so fi gi nc 0 p := fun p => by
      constructor
      · intro hp
        by_cases p9 : p < 900
        · exact Or.inl ((xn p p9).mp (e1 p hp p9))
        · have z := hEw p hp (by omega)
          obtain ⟨i, hi, y⟩ := f (p - 1016) (by omega)
          refine Or.inr (Or.inr ⟨i, by omega, hi, ?_⟩)
          rcases y with y | ⟨y1, y2⟩
          · exact Or.inl (by omega)
          · exact Or.inr ⟨y1, by omega⟩
      · rintro (z | z | ⟨j, _, hj', z⟩)
        · refine Classical.byContradiction fun y => hu p (Or.inl ⟨z.1, (xn p z.1).mpr z, y⟩)
        · have : sgc so 0 = 0 := rfl
          omega
        · refine Classical.byContradiction fun y => hu p (Or.inr ?_)
          have dj := d j hj'
          rcases z with z | ⟨z1, z2⟩
          · have := dj.2.1
            exact ⟨by omega, by omega, y⟩
          · rcases dj.2.2.2.2 with ⟨x, _⟩ | ⟨_, _, x, _⟩
            · omega
            · exact ⟨by omega, by omega, y⟩
    have EX : ∀ p, E p → X0 r so nc 0 (ρ p) := fun p hp => by
      rcases (hE p).mp hp with z | z | ⟨j, _, hj', z⟩
      · have := z.1
        rw [e3 p (by omega)]
        exact Or.inl z
      · have : sgc so 0 = 0 := rfl
        omega
      · have dj := d j hj'
        rcases z with z | ⟨z1, z2⟩
        · rw [z, dj.2.2.1]
          exact Or.inr (Or.inr (Or.inl ⟨j, hj', rfl⟩))
        · rcases dj.2.2.2.2 with ⟨x, _⟩ | ⟨_, _, _, x⟩
          · omega
          · rw [z2, x]
            exact Or.inr (Or.inr (Or.inr ⟨j, hj', rfl, Or.inl z1⟩))
    have XE : ∀ q, X0 r so nc 0 q → ∃ p, E p ∧ q = ρ p := fun q hq => by
      rcases hq with z | z | ⟨j, hj', z⟩ | ⟨j, hj', z, y⟩
      · have := z.1
        exact ⟨q, (hE q).mpr (Or.inl z), (e3 q (by omega)).symm⟩
      · have : sgc so 0 = 0 := rfl
        omega
      · refine ⟨1016 + fi j, (hE _).mpr (Or.inr (Or.inr ⟨j, by omega, hj', Or.inl rfl⟩)), ?_⟩
        rw [(d j hj').2.2.1]
        exact z
      · have y : so j = 2 := by omega
        refine ⟨1016 + gi j, (hE _).mpr (Or.inr (Or.inr ⟨j, by omega, hj', Or.inr ⟨y, rfl⟩⟩)), ?_⟩
        rcases (d j hj').2.2.2.2 with ⟨x, _⟩ | ⟨_, _, _, x⟩
        · omega
        · rw [x]
          exact z
    have rkE : ∀ p, E p → rk r wl (ρ p) = ρ (L p) := fun p hp => e2 p hp (fun z => z)
    have mt0 : MT (X0 r so nc 0) (rk r wl) := fun q hq => by
      obtain ⟨p, hp, rfl⟩ := XE q hq
      obtain ⟨l1, l2, l3⟩ := cn.2.1.1 p hp
      rw [rkE p hp, rkE _ l1, l2]
      exact ⟨EX _ l1, rfl, fun z => l3 (e5 _ _ z)⟩
    have r14 : ∀ k, k < 16 → r (14 + k) = if k < sgc so 0 then 1 else 0 := fun k hk => by
      rw [hj _ (by omega) (by omega), rE_n (by omega), if_neg (show ¬ k < sgc so 0 from Nat.not_lt_zero _)]
    obtain ⟨st', r', wl', g1, g2, g3, g4, g5, g6, g7, g8, g9⟩ := roots_loop (nc := nc) (so := so) (by omega) q16 (nI (sgc so nc)) 20000 0 st r wl (by omega) (by omega) a2 (fun j hj' => ⟨(d j hj').2.2.2.1, so12 j hj'⟩) hwl mt0 r14
    obtain ⟨r1, hr1⟩ : ∃ u, u = ur r' 6 (sgc so nc) := ⟨_, rfl⟩
    have lk1 : lk r1 = lk r' := by rw [hr1, lk_ur (by omega)]
    have r1o : ∀ j, j < 630 → j ≠ 6 → ¬ (14 ≤ j ∧ j < 30) → r1 j = r j := fun j h1 h2 h3 => by rw [hr1, ur_n h2, g5 j h1 h3]
    have r114 : ∀ k, k < 16 → r1 (14 + k) = if k < sgc so nc then 1 else 0 := fun k hk => by rw [hr1, ur_n (by omega), g4 k hk]
    have eC : t_endNames tt 500 sa sn = bd (t_endNames_50 20000 tt 500 sa sn 0) fun x3 => some (tt, x3) := by
      unfold t_endNames
      rw [s1, bd_s, if_pos (show nI (sgc so nc) ≤ (16 : Int32) from nI_le (b := 16) q16 (by omega))]
    have eR : m_rootsAll (sR st r) = some (1, sR st' r1) := by
      unfold m_rootsAll
      simp only [nm_eq]
      rw [s2, bd_s, if_pos (show nI (sgc so nc) ≤ (16 : Int32) from nI_le (b := 16) q16 (by omega)), show m_rootsAll_53 20000 (sR st r) (nI (sgc so nc)) 0 0 = some (sR st' r') from g1, bd_s, sR_2, upd_nR, sR_A1, hr1]
    obtain ⟨L0, hL0⟩ : ∃ u, u = rk r' wl' := ⟨_, rfl⟩
    rw [← hL0] at g3 g6 g7
    have r6 : r 6 = 0 := by rw [hj 6 (by omega) (by omega), rE_n (by omega)]
    have c0 : CM (tR r so L0 0) sn := CM_67 c (fun j _ h6 h7 _ => tR_o h6 h7) w5 (by rw [tR_6, c.2.1.2.2.1, r6]; rfl) (by rw [tR_7, c.2.1.2.2.2]; rfl) (fun _ _ _ => rfl) (fun _ _ => rfl)
    have hA : ∀ p, E p → cL (List.range 0) L0 (ρ p) = ρ (L p) := fun p hp => by
      show L0 (ρ p) = _
      rw [g6 _ (EX p hp)]
      exact rkE p hp
    obtain ⟨sn', L', o1, o2, o3, o4, o5, o6⟩ := names_loop (sa := sa) (gi := gi) (tt := tt) (by omega) q16 w5 g3 e3 e5 a1 (fun i hi => by
      obtain ⟨y1, y2, y3, y4, y5⟩ := d i hi
      refine ⟨y1, y3, by omega, ?_⟩
      rcases y5 with y5 | ⟨x1, x2, x3, x4⟩
      · exact Or.inl y5
      · exact Or.inr ⟨x1, x2, by omega, x4⟩) 20000 0 sn E L (by omega) (by omega) hnl c0 cn rt hE hA (fun j h1 h2 h3 => g7 j h1 h2 h3)
    have rkl : ∀ q, q < 1100 → L0 q = lk r1 q := fun q hq => by
      rw [hL0, lk1]
      unfold rk
      rw [if_pos hq]
    have xX : ∀ q, q < 1100 → (xP r1 q ↔ X0 r so nc nc q) := fun q hq => by
      rw [X0_lo hq, ← nP_r (r' := r1) (fun j h1 h2 => r1o j (by omega) (by omega) (by omega)) q]
      unfold xP nP
      constructor
      · rintro (z | ⟨z1, z2, z3⟩)
        · exact Or.inl z
        · rw [r114 _ (by omega)] at z3
          by_cases y : q - 1000 < sgc so nc
          · exact Or.inr ⟨z1, by omega⟩
          · rw [if_neg y] at z3
            omega
      · rintro (z | z)
        · exact Or.inl z
        · refine Or.inr ⟨z.1, by omega, ?_⟩
          rw [r114 _ (by omega), if_pos (by omega)]
    have wx : WX (X0 r so nc nc) L0 wl' nc := by
      refine ⟨⟨g3, by omega⟩, fun q hq q11 => ?_, fun j hj' => ⟨(X0_wa q16).mpr hj', (X0_wb q16).mpr ⟨hj', Or.inr hj'⟩⟩, fun k _ => ?_, fun q hq q11 => ?_⟩
      · rcases hq with z | z | ⟨j, hj', z⟩ | ⟨j, hj', z, _⟩
        · have := z.1; omega
        · omega
        · exact ⟨j, hj', Or.inl z⟩
        · exact ⟨j, hj', Or.inr z⟩
      · rw [hL0]
        unfold rk
        rw [if_neg (by omega), show 1100 + k - 1100 = k by omega]
      · rcases (X0_lo q11).mp hq with z | z
        · have := z.1; omega
        · omega
    obtain ⟨st2, r2, p1, p2, p3, p4, p5, p6⟩ := joins_ok (st := st') (r := r1) wx xX (fun q _ q11 => rkl q q11) g2 (fun m hm => by rw [r1o _ (by omega) (by omega) (by omega)]; exact (w.2.1 m hm).1) (fun i hi => by
      rw [r114 i hi]
      split <;> omega) (by rw [g8]; exact a2)
    have r2o : ∀ j, j < 630 → j ≠ 6 → j ≠ 7 → (j < 14 ∨ 30 ≤ j) → r2 j = r j := fun j h1 h2 h3 h4 => by rw [p4 j h1 h3, r1o j h1 h2 (by omega)]
    have r26 : r2 6 = sgc so nc := by rw [p4 6 (by omega) (by omega), hr1, ur_s]
    have r214 : ∀ k, k < 16 → r2 (14 + k) = if k < sgc so nc then 1 else 0 := fun k hk => by rw [p4 _ (by omega) (by omega), r114 k hk]
    have xr2 : ∀ q, xP r2 q ↔ xP r1 q := xP_lo (fun j h1 h2 => p4 j (by omega) (by omega))
    have kl : ∀ m, m < 300 → Kr r2 m = Kr r m := fun m hm => r2o _ (by omega) (by omega) (by omega) (by omega)
    have xE : ∀ q, xP r2 q ↔ EE r so fi gi nc nc q := fun q => by
      by_cases q11 : q < 1100
      · rw [xr2, xX q q11, X0_lo q11]
        unfold EE
        constructor
        · rintro (z | z)
          · exact Or.inl z
          · exact Or.inr (Or.inl z)
        · rintro (z | z | ⟨j, z1, z2, _⟩)
          · exact Or.inl z
          · exact Or.inr z
          · omega
      · constructor
        · intro z
          have := xP_lt z
          omega
        · rintro (z | z | ⟨j, z1, z2, _⟩)
          · have := z.1; omega
          · omega
          · omega
    have lkL : ∀ q, EE r so fi gi nc nc q → lk r2 q = L' q := fun q hq => by
      have z := (xE q).mpr hq
      have q16' := xP_lt z
      rw [p2 q ((xX q (by omega)).mp ((xr2 q).mp z)) (by omega)]
      exact o6 q hq
    have cn2 : CN (xP r2) (lk r2) (Kr r) sn' := o4.cong xE lkL
    refine ⟨sn', st', st2, r1, r2, by rw [eC, show t_endNames_50 20000 tt 500 sa sn 0 = some sn' from o1, bd_s], eR, p1, ⟨WM_out (fun j h1 h2 => r2o j h1 (by omega) (by omega) (by omega)) w, ⟨by rw [r26]; exact q16, fun i hi => ?_⟩, cn2.2.1.1⟩, ⟨?_, ⟨cn2.1, cn2.2.1.cong (fun _ => Iff.rfl) (fun _ _ => rfl) (fun p _ h9 => kl _ (by omega)), fun m hm => by rw [kl m hm]; exact cn2.2.2 m hm⟩, by omega, o5.cong xE⟩, o2, p5.trans g8, fun k h1 h2 => (p6 k h2).trans (g9 k h1)⟩
    · rw [r214 i hi, r26]
      by_cases y : i < sgc so nc
      · rw [if_pos y]; exact ⟨Nat.le_refl _, fun _ => y⟩
      · rw [if_neg y]; exact ⟨by omega, fun z => by omega⟩
    · refine CM_67 o3 (fun j h1 h6 h7 h14 => by rw [r2o j h1 h6 h7 h14, tR_o h6 h7]) (by rw [tR_o (by omega) (by omega)]; exact w5) ?_ ?_ (fun _ _ _ => rfl) (fun _ _ => rfl)
      · rw [o3.2.1.2.2.1, tR_6, r26]
      · rw [o3.2.1.2.2.2, tR_7, p3, r1o 7 (by omega) (by omega) (by omega)]
  · right
    have fl : FLT (sI tt 7 ((-2) - nI (8 * N + 6))) (sI st 10 (nI (8 * N + 6))) := FLT.mk (by omega) (by omega)
    have n16 : ¬ nI (sgc so nc) ≤ (16 : Int32) := nI_ge (a := 16) (by omega) (by omega)
    refine ⟨_, _, ?_, ?_, fl, hnl, RFr.I st (by omega) _⟩
    · unfold t_endNames
      rw [s1, bd_s, if_neg n16, tp.2.1, i6, t_refuse_ok f7, bd_s]
    · unfold m_rootsAll
      rw [s2, bd_s, if_neg n16, i6, m_bad_ok f10 h5, bd_s]
      rfl
