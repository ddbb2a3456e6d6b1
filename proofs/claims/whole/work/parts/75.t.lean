/-! two ends tied by both; a tie never fails -/
theorem p_add_any (ps : PSt) (a b : Int32) : ∃ ps', p_add ps a b = some ps' := by
  unfold p_add
  by_cases a0 : a < 0
  · exact ⟨_, if_pos a0⟩
  · rw [if_neg a0]
    obtain ⟨k, hk, rfl⟩ := ge_j a0
    by_cases k3 : k < 300
    · rw [if_pos (show nI k < (300 : Int32) from nI_lt (b := 300) k3 (by omega)), nm_eq, p_ix (by omega), gd_nI (by omega) (by omega), gd_nI (by omega) (by omega)]
      split
      · exact ⟨_, rfl⟩
      · rw [gd_nI (by omega) (by omega), gd_nI (by omega) (by omega)]
        exact ⟨_, rfl⟩
    · rw [if_neg (show ¬ nI k < (300 : Int32) from nI_nlt (b := 300) (by omega) (by omega))]
      exact ⟨_, rfl⟩
theorem n_tie_any {sn : NSt} (hn : nl sn = 1266) (a b : Int32) : ∃ sn', n_tie sn a b = some sn' ∧ nl sn' = 1266 := by
  by_cases a0 : a < 0
  · refine ⟨sn, ?_, hn⟩
    unfold n_tie
    rw [if_pos a0]
  by_cases b0 : b < 0
  · refine ⟨sn, ?_, hn⟩
    unfold n_tie
    rw [if_neg a0, if_pos b0]
  obtain ⟨i, hi, rfl⟩ := ge_j a0
  obtain ⟨j, hj, rfl⟩ := ge_j b0
  by_cases a1 : 1266 ≤ i
  · refine ⟨sn, ?_, hn⟩
    unfold n_tie
    rw [if_neg a0, if_neg b0, hn, if_pos (nI_le a1 (by omega))]
  by_cases b1 : 1266 ≤ j
  · refine ⟨sn, ?_, hn⟩
    unfold n_tie
    rw [if_neg a0, if_neg b0, hn, if_neg (nI_ge (by omega) (by omega)), if_pos (nI_le b1 (by omega))]
  · exact ⟨_, n_tie_ok (by omega) (by omega) (by omega), hn⟩
theorem n_isHead_any (a : Int32) : n_isHead a = some 0 ∨ (∃ i, i < 900 ∧ a = nI i ∧ n_isHead a = some 1) := by
  by_cases a0 : a < 0
  · left
    unfold n_isHead
    rw [if_pos a0]
  obtain ⟨i, hi, rfl⟩ := ge_j a0
  rw [n_isHead_ok hi]
  by_cases q : i < 900 ∧ i % 3 = 0
  · exact Or.inr ⟨i, q.1, rfl, by rw [if_pos q]⟩
  · exact Or.inl (by rw [if_neg q])
theorem n_connect_any {sn : NSt} (hn : nl sn = 1266) (a b : Int32) : ∃ sn', n_connect sn a b = some sn' ∧ nl sn' = 1266 := by
  obtain ⟨s1, x1, x2⟩ := n_tie_any hn a b
  unfold n_connect
  rw [x1, bd_s]
  rcases n_isHead_any a with q | ⟨i, hi, rfl, q⟩
  · rw [q, bd_s, if_pos rfl]
    exact ⟨_, rfl, x2⟩
  rw [q, bd_s, if_neg (show ¬ (1 : Int32) = 0 by decide)]
  rcases n_isHead_any b with q | ⟨j, hj, rfl, q⟩
  · rw [q, bd_s, if_pos rfl]
    exact ⟨_, rfl, x2⟩
  rw [q, bd_s, if_neg (show ¬ (1 : Int32) = 0 by decide), i3, n_div (by omega) (by omega) (by omega), n_div (by omega) (by omega) (by omega), gd_nI (by omega) (by omega), gd_nI (by omega) (by omega)]
  split
  · obtain ⟨ps, hp⟩ := p_add_any (np s1) ((if nI j < nI i then nI j else nI i) / nI 3) 1
    rw [hp, bd_s]
    exact ⟨_, rfl, x2⟩
  · obtain ⟨ps, hp⟩ := p_add_any (np s1) ((if nI j < nI i then nI j else nI i) / nI 3) 0
    rw [hp, bd_s]
    exact ⟨_, rfl, x2⟩
theorem NMs.rho {ρ : Nat → Nat} {tt st : OSt} {nc wc : Nat} {nm : Nat → List Nat} {fi gi so : Nat → Nat} (h : NMs ρ tt st nc wc nm fi gi so) (hw : wc ≤ 250) {p : Nat} (h1 : 1016 ≤ p) (h2 : p < 1016 + wc) : 1100 ≤ ρ p ∧ ρ p < 1600 := by
  obtain ⟨⟨a1, a2, a3, a4⟩, b, c, d, f, g⟩ := h
  obtain ⟨j, rfl⟩ : ∃ j, p = 1016 + j := ⟨p - 1016, by omega⟩
  obtain ⟨i, hi, hh⟩ := f j (by omega)
  obtain ⟨c1, c2, c3, c4, c5⟩ := d i hi
  rcases hh with hh | ⟨hs, hh⟩
  · rw [hh, c3]; omega
  · rcases c5 with ⟨y, _⟩ | ⟨_, _, _, y⟩
    · omega
    · rw [hh, y]; omega
theorem tie_step {B : Nat → Nat} {N : Nat} {sa : Nat → Int32} {E : Nat → Prop} {L ρ wl r : Nat → Nat} {sn : NSt} {tt st : OSt} {nc wc : Nat} {nm : Nat → List Nat} {fi gi so : Nat → Nat} (h : RS B N sa E L ρ wl r sn tt st nc wc nm fi gi so) (hw : wc ≤ 250) {a b u v : Nat} (ha : uA E r wc a) (hb : uA E r wc b) (hab : a ≠ b) (huv : (u = a ∧ v = b) ∨ (u = b ∧ v = a)) :
    ∃ (sn' : NSt) (st' : OSt) (wl' r' : Nat → Nat), n_connect sn (nI a) (nI b) = some sn' ∧ m_ties (sR st r) (nI (ρ u)) (nI (ρ v)) = some (sR st' r') ∧ RS B N sa (E2 E a b) (lk2 L a b) ρ wl' r' sn' tt st' nc wc nm fi gi so ∧ st'.1 = st.1 ∧ RFr st st' ∧ (∀ p, uA (E2 E a b) r' wc p ↔ (uA E r wc p ∧ p ≠ a ∧ p ≠ b)) ∧ (∀ j, j < 630 → r' j = r j) := by
  obtain ⟨tp, bs, hnl, hwl, nms, hEw, f7, f10⟩ := h
  have in1 : ∀ p, uA E r wc p → ¬ E p ∧ p < 1266 ∧ (p < 900 → xP r p) ∧ (ρ p < 1016 ∨ (1100 ≤ ρ p ∧ ρ p < 1600)) ∧ (900 ≤ p → 1016 ≤ p ∧ p < 1016 + wc) := by
    rintro p (⟨z1, z2, z3⟩ | ⟨z1, z2, z3⟩)
    · exact ⟨z3, by omega, fun _ => z2, Or.inl (by rw [bs.2.2.2.1 p (by omega)]; omega), fun _ => by omega⟩
    · exact ⟨z3, by omega, fun _ => by omega, Or.inr (nms.rho hw z1 z2), fun _ => ⟨z1, z2⟩⟩
  obtain ⟨a1, a2, a3, a4, a5⟩ := in1 a ha
  obtain ⟨b1, b2, b3, b4, b5⟩ := in1 b hb
  obtain ⟨sn', c1, c2, c3, c4, c5, c6⟩ := bs.early a1 b1 hab (by omega) (by omega) a3 b3
  have uv4 : (ρ u < 1016 ∨ (1100 ≤ ρ u ∧ ρ u < 1600)) ∧ (ρ v < 1016 ∨ (1100 ≤ ρ v ∧ ρ v < 1600)) := by
    rcases huv with ⟨rfl, rfl⟩ | ⟨rfl, rfl⟩
    · exact ⟨a4, b4⟩
    · exact ⟨b4, a4⟩
  obtain ⟨st', d1, d2, d3, d4⟩ := m_ties_ok (r := r) hwl uv4.1 uv4.2
  have Eu : E2 E a b u ∧ lk2 L a b u = v := by
    rcases huv with ⟨rfl, rfl⟩ | ⟨rfl, rfl⟩
    · exact ⟨Or.inr (Or.inl rfl), lk2_a L hab⟩
    · exact ⟨Or.inr (Or.inr rfl), lk2_b L _ _⟩
  have c4' : BS (E2 E a b) (fun p => Q0 p ∨ p = u ∨ p = v) (lk2 L a b) ρ wl r sn' := by
    refine c4.q (fun p _ z => ?_)
    rcases huv with ⟨rfl, rfl⟩ | ⟨rfl, rfl⟩
    · exact z
    · rcases z with z | z | z
      · exact Or.inl z
      · exact Or.inr (Or.inr z)
      · exact Or.inr (Or.inl z)
  obtain ⟨g1, g2, g3⟩ := c4'.tieW Eu.1 Eu.2
  refine ⟨sn', st', _, _, c1, d1, ⟨?_, g1, c3.1.trans hnl, d2, ?_, ?_, f7, ?_⟩, d3, ⟨fun k _ _ _ _ _ _ _ _ _ => by rw [d3], fun k _ _ _ h4 _ => d4 k h4⟩, fun p => ?_, g3⟩
  · unfold TP
    rw [d3, d4 2 (by decide)]
    exact tp
  · unfold NMs
    rw [d3, d4 12 (by decide), d4 13 (by decide)]
    exact nms
  · rintro p (z | z | z) h1
    · exact hEw p z h1
    · rw [z] at h1 ⊢; exact a5 h1
    · rw [z] at h1 ⊢; exact b5 h1
  · rw [d3]; exact f10
  · unfold uA
    rw [uN_lo g2 p, c6 p]
    unfold E2
    constructor
    · rintro (⟨z1, z2, z3⟩ | ⟨z1, z2, z3⟩)
      · exact ⟨Or.inl z1, z2, z3⟩
      · exact ⟨Or.inr ⟨z1, z2, fun w => z3 (Or.inl w)⟩, fun w => z3 (Or.inr (Or.inl w)), fun w => z3 (Or.inr (Or.inr w))⟩
    · rintro ⟨z1 | ⟨z1, z2, z3⟩, z4, z5⟩
      · exact Or.inl ⟨z1, z4, z5⟩
      · exact Or.inr ⟨z1, z2, by rintro (w | w | w); exact z3 w; exact z4 w; exact z5 w⟩
