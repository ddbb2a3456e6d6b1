/-! the empty net -/
def rE (a : Nat) : Nat → Nat := fun j => if j = 0 then a else 0
theorem rE_n {a j : Nat} (h : j ≠ 0) : rE a j = 0 := if_neg h
theorem clear_ok {sn : NSt} (hn : nl sn ≤ 1300) (hn2 : 1016 ≤ nl sn) {a : Nat} (ha : a ≤ 300) (L : Nat → Nat) : ∃ sn', n_clear sn (nI a) = some sn' ∧ nl sn' = nl sn ∧ ni sn' 14 = 0 ∧ nh sn' = nh sn ∧ WM (rE a) ∧ CM (rE a) sn' ∧ CN (fun _ => False) L (Kr (rE a)) sn' ∧ RT (fun _ => False) sn' := by
  obtain ⟨g1, a1, a2⟩ := fill_ok (ka := 300) (by omega) (-1) (na sn 0)
  obtain ⟨g2, b1, b2⟩ := fill_ok (ka := nl sn) (by omega) (-1) (na sn 1)
  obtain ⟨g3, c1, c2⟩ := fill_ok (ka := 6) (by omega) 0 (na sn 3)
  obtain ⟨ps, d1, d2⟩ := p_clear_ok (np sn)
  have cap : (if (0 : Int32) < (if (300 : Int32) < nI a then 300 else nI a) then (if (300 : Int32) < nI a then 300 else nI a) else 0) = nI a := by
    rw [if_neg (show ¬ (300 : Int32) < nI a from nI_nlt (a := 300) ha (by omega))]
    by_cases z : a = 0
    · rw [z]; rfl
    · rw [if_pos (show (0 : Int32) < nI a from nI_lt (a := 0) (by omega) (by omega))]
  obtain ⟨s0, hs0⟩ : ∃ u, u = nsP (nsA (nsA (nsA sn 0 g1) 1 g2) 3 g3) ps := ⟨_, rfl⟩
  have e : n_clear sn (nI a) = some (nsI (nsI (nsI (nsI (nsI (nsI (nsI (nsI (nsI s0 6 (nI a)) 7 0) 8 0) 9 0) 10 0) 11 0) 12 0) 13 0) 14 0) := by
    unfold n_clear
    simp only [nm_eq]
    rw [a1, bd_s, show j_fill_53 (nl (nsA sn 0 g1)) (na (nsA sn 0 g1) 1) (-1) = some g2 from b1, bd_s, show j_fill_53 6 (na (nsA (nsA sn 0 g1) 1 g2) 3) 0 = some g3 from c1, bd_s, show p_clear (np (nsA (nsA (nsA sn 0 g1) 1 g2) 3 g3)) = some ps from d1, bd_s, cap, ← hs0]
  have n0 : na s0 0 = g1 := by rw [hs0]; rfl
  have n1 : na s0 1 = g2 := by rw [hs0]; rfl
  have n3 : na s0 3 = g3 := by rw [hs0]; rfl
  have npp : np s0 = ps := by rw [hs0]; rfl
  have nll : nl s0 = nl sn := by rw [hs0]; rfl
  have nhh : nh s0 = nh sn := by rw [hs0]; rfl
  have kz : kI 0 = -1 := by decide
  refine ⟨_, e, nll, rfl, nhh, ⟨⟨ha, rfl, Nat.zero_le _⟩, fun n hn => ⟨?_, fun z => ?_⟩, fun k hk => absurd hk (Nat.not_lt_zero _), fun k j _ hj => absurd hj (Nat.not_lt_zero _)⟩, ⟨⟨rfl, rfl, rfl, rfl⟩, ⟨rfl, rfl, rfl, rfl⟩, fun k hk => ?_, fun m hm => ?_, fun k hk => absurd hk (Nat.not_lt_zero _)⟩, ⟨?_, ⟨fun p hp => hp.elim, fun p hp => hp.elim, fun p hp => hp.elim, ?_⟩, fun m hm => ⟨?_, ?_⟩⟩, fun i hi _ => ?_⟩
  · rw [rE_n (by omega)]; omega
  · rw [rE_n (by omega)] at z; omega
  · show na s0 3 k = _
    rw [n3, c2 k hk, rE_n (by omega)]
    rfl
  · show na s0 0 m = _
    rw [n0, a2 m hm, rE_n (by omega), kz]
  · show nl s0 ≤ 1300
    rw [nll]; exact hn
  · show PB (np s0) _ _
    rw [npp]
    exact d2.cong (fun x _ => ⟨fun z => z.elim, fun z => z.2.1⟩) (fun x _ => ⟨fun z => z.elim, fun z => z.2.1⟩)
  · show na s0 0 m = _
    rw [n0, a2 m hm]
    unfold Kr
    rw [rE_n (by omega), kz]
  · unfold Kr
    rw [rE_n (by omega)]
    omega
  · show na s0 1 (1000 + i) = _
    rw [n1, b2 _ (by omega)]
    rfl
theorem empties_ok {st : OSt} {a : Nat} (r : Nat → Nat) : ∃ r', m_empties (sR st r) (nI a) = some (sR st r') ∧ ∀ j, j < 1646 → r' j = rE a j := by
  have key : ∀ (fuel i : Nat) (r : Nat → Nat), i ≤ 1646 → 1646 - i < fuel → (∀ j, j < i → r j = 0) → ∃ r', m_empties_2 fuel (sR st r) (nI a) (nI i) = some (sR st r') ∧ ∀ j, j < 1646 → r' j = 0 := by
    intro fuel
    induction fuel with
    | zero => intro i r _ h; omega
    | succ n ih =>
      intro i r hi hf h0
      rw [m_empties_2]
      by_cases q : i = 1646
      · rw [if_pos (show (1646 : Int32) ≤ nI i from nI_le (a := 1646) (by omega) (by omega))]
        exact ⟨r, rfl, fun j hj => h0 j (by omega)⟩
      · rw [if_neg (show ¬ (1646 : Int32) ≤ nI i from nI_ge (b := 1646) (by omega) (by omega)), gd_nI (by omega) (by omega), nm_eq, nc (by omega), show (0 : Int32) = nI 0 from rfl, sR_2, upd_nR, sR_A1, show nI i + 1 = nI (i + 1) from nI_add i 1]
        refine ih (i + 1) _ (by omega) (by omega) (fun j hj => ?_)
        rw [ur_at]
        split
        · rfl
        · exact h0 j (by omega)
  obtain ⟨r1, h1, h2⟩ := key 20000 0 r (by omega) (by omega) (fun j hj => absurd hj (by omega))
  refine ⟨ur r1 0 a, ?_, fun j hj => ?_⟩
  · unfold m_empties
    rw [show m_empties_2 20000 (sR st r) (nI a) 0 = some (sR st r1) from h1, bd_s, nm_eq, sR_2, upd_nR, sR_A1]
  · rw [ur_at]
    unfold rE
    by_cases z : j = 0
    · rw [if_pos z, if_pos z]
    · rw [if_neg z, if_neg z]; exact h2 j hj
/-- the start: nothing read, nothing made -/
theorem BS_start {sn : NSt} {a : Nat} {L ρ wl r : Nat → Nat} (hr : ∀ j, j < 1646 → r j = rE a j) (hw : WM (rE a)) (hc : CM (rE a) sn) (hn : CN (fun _ => False) L (Kr (rE a)) sn) (ht : RT (fun _ => False) sn) (h1 : ∀ p, p < 1016 → ρ p = p) (h2 : ∀ p, 1016 ≤ p → 1100 ≤ ρ p) (h3 : ∀ p q, ρ p = ρ q → p = q) : BS (fun _ => False) Q0 L ρ wl r sn := by
  have lo : ∀ j, j < 630 → r j = rE a j := fun j hj => hr j (by omega)
  have kl : ∀ m, m < 300 → Kr r m = Kr (rE a) m := fun m hm => lo _ (by omega)
  exact ⟨⟨WM_lo lo hw, CM_lo lo (by rw [rE_n (by omega)]; omega) hc, ⟨hn.1, hn.2.1.cong (fun _ => Iff.rfl) (fun _ _ => rfl) (fun p z => z.elim), fun m hm => by rw [kl m hm]; exact hn.2.2 m hm⟩, ht⟩, fun p z => z.elim, fun p z => z.elim, h1, h2, h3⟩
