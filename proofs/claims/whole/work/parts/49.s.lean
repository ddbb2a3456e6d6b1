/-! alike nodes: the reference's strips, by how the four places hang together -/
theorem lk_aL (r : Nat → Nat) (a b : Nat) : lk (aL r a b) = lk2 (lk r) a b := funext fun p => aL_l r a b p
theorem lk_u7 (r : Nat → Nat) (v : Nat) : lk (ur r 7 v) = lk r := funext fun p => by
  unfold lk
  exact ur_n (by omega)
theorem lk2_far (L : Nat → Nat) {x y z p : Nat} (h : p ≠ x) : lk2 (lk2 L x y) y z p = lk2 L y z p := by
  by_cases a : p = z
  · subst a; rw [lk2_b, lk2_b]
  · by_cases b : p = y
    · subst b; rw [lk2_a _ a, lk2_a _ a]
    · rw [lk2_o _ b a, lk2_o _ b a, lk2_o _ h b]
def sC (r : Nat → Nat) (o : Nat → Nat) (r' : Nat → Nat) : Prop :=
  (∀ j, j < 630 → j ≠ 7 → r' j = r j) ∧ r' 7 = r 7 + lp (lk r) (o 0) (o 2) + lp (ctr (lk r) (o 0) (o 2)) (o 1) (o 3) ∧ ∀ p, (∀ k, k < 4 → p ≠ o k) → lk r' p = ctr (ctr (lk r) (o 0) (o 2)) (o 1) (o 3) p

theorem strip_1 {st : OSt} {r o : Nat → Nat} (hO : ∀ k, k < 4 → st.2 20 k = nI (o k)) (hW : ∀ k, k < 4 → st.2 21 k = nI (lk r (o k))) (hb : ∀ k, k < 4 → o k < 1016 ∧ lk r (o k) < 1016) (dis : ∀ i j, i < 4 → j < 4 → i ≠ j → o i ≠ o j) (x0 : ∀ j, j < 4 → lk r (o 0) ≠ o j) (x1 : ∀ j, j < 4 → lk r (o 1) ≠ o j) (x2 : ∀ j, j < 4 → lk r (o 2) ≠ o j) (x3 : ∀ j, j < 4 → lk r (o 3) ≠ o j) : ∃ P' r', m_strips (sR st r) = some (sP st P' r') ∧ sC r o r' := by
  have h0 : oI (st.2 20) (nI (lk r (o 0))) = -1 := oI_e (fun j hj e => by
    rw [hO j hj, nI_eq (by have := hb j hj; omega) (by have := hb 0 (by omega); omega)] at e
    exact x0 j hj e.symm)
  have h1 : oI (st.2 20) (nI (lk r (o 1))) = -1 := oI_e (fun j hj e => by
    rw [hO j hj, nI_eq (by have := hb j hj; omega) (by have := hb 1 (by omega); omega)] at e
    exact x1 j hj e.symm)
  have h2 : oI (st.2 20) (nI (lk r (o 2))) = -1 := oI_e (fun j hj e => by
    rw [hO j hj, nI_eq (by have := hb j hj; omega) (by have := hb 2 (by omega); omega)] at e
    exact x2 j hj e.symm)
  have h3 : oI (st.2 20) (nI (lk r (o 3))) = -1 := oI_e (fun j hj e => by
    rw [hO j hj, nI_eq (by have := hb j hj; omega) (by have := hb 3 (by omega); omega)] at e
    exact x3 j hj e.symm)
  obtain ⟨P, e2, hP⟩ := s2_ok st r
  have p0 := hP 0 (by omega)
  have p1 := hP 1 (by omega)
  have p2 := hP 2 (by omega)
  have p3 := hP 3 (by omega)
  have f0 : m_strips_54 20000 (sP st P r) (nI 0) (nI 0) (-1) = some (sP st (upd (upd P 0 1) ((0 + 2) % 4) 1) r, nI (lk r (o 2))) := by
    show m_strips_54 (19998 + 1 + 1) _ _ _ _ = _
    rw [s54_e (k := 0) (by omega) (b := lk r (o 2)) (hb 2 (by omega)).2 (hW 2 (by omega)) h2]
  have f1 : m_strips_54 20000 (sP st (upd (upd P 0 1) ((0 + 2) % 4) 1) (aL r (lk r (o 0)) (lk r (o 2)))) (nI 1) (nI 1) (-1) = some (sP st (upd (upd (upd (upd P 0 1) ((0 + 2) % 4) 1) 1 1) ((1 + 2) % 4) 1) (aL r (lk r (o 0)) (lk r (o 2))), nI (lk r (o 3))) := by
    show m_strips_54 (19998 + 1 + 1) _ _ _ _ = _
    rw [s54_e (k := 1) (by omega) (b := lk r (o 3)) (hb 3 (by omega)).2 (hW 3 (by omega)) h3]
  have g1 : m_strips_22 20000 (sP st P r) 0 = some (sP st (upd (upd (upd (upd P 0 1) ((0 + 2) % 4) 1) 1 1) ((1 + 2) % 4) 1) (aL (aL r (lk r (o 0)) (lk r (o 2))) (lk r (o 1)) (lk r (o 3)))) := by
    show m_strips_22 (19995 + 1 + 1 + 1 + 1 + 1) _ (nI 0) = _
    rw [s22_e (k := 0) (by omega) (by simp [upd_at, p0, p1, p2, p3]) (hb 0 (by omega)).2 (hb 2 (by omega)).2 (hW 0 (by omega)) h0 f0, s22_e (k := 1) (by omega) (by simp [upd_at, p0, p1, p2, p3]) (hb 1 (by omega)).2 (hb 3 (by omega)).2 (hW 1 (by omega)) h1 f1, s22_p (k := 2) (by omega) (by simp [upd_at, p0, p1, p2, p3]), s22_p (k := 3) (by omega) (by simp [upd_at, p0, p1, p2, p3]), s22_z]
  have g2 : m_strips_132 20000 (sP st (upd (upd (upd (upd P 0 1) ((0 + 2) % 4) 1) 1 1) ((1 + 2) % 4) 1) (aL (aL r (lk r (o 0)) (lk r (o 2))) (lk r (o 1)) (lk r (o 3)))) 0 = some (sP st (upd (upd (upd (upd P 0 1) ((0 + 2) % 4) 1) 1 1) ((1 + 2) % 4) 1) (aL (aL r (lk r (o 0)) (lk r (o 2))) (lk r (o 1)) (lk r (o 3)))) := by
    show m_strips_132 (19997 + 1 + 1 + 1) _ (nI 0) = _
    rw [s132_p (k := 0) (by omega) (by simp [upd_at, p0, p1, p2, p3]), s132_p (k := 1) (by omega) (by simp [upd_at, p0, p1, p2, p3]), s132_z]
  refine ⟨upd (upd (upd (upd P 0 1) ((0 + 2) % 4) 1) 1 1) ((1 + 2) % 4) 1, aL (aL r (lk r (o 0)) (lk r (o 2))) (lk r (o 1)) (lk r (o 3)), ?_, ?_, ?_, ?_⟩
  · unfold m_strips
    rw [e2, bd_s, g1, bd_s, g2, bd_s]
  · intro j hj h7
    simp only [aL_lo hj, ur_n h7, ur_at, if_neg h7]
  · rw [show lp (lk r) (o 0) (o 2) = 0 from if_neg (x0 2 (by omega)), show ctr (lk r) (o 0) (o 2) = lk2 (lk r) (lk r (o 0)) (lk r (o 2)) from if_neg (x0 2 (by omega)), show lp (lk2 (lk r) (lk r (o 0)) (lk r (o 2))) (o 1) (o 3) = 0 from if_neg (by rw [lk2_o _ (Ne.symm (x0 1 (by omega))) (Ne.symm (x2 1 (by omega)))]; exact x1 3 (by omega)), aL_lo (by omega), aL_lo (by omega)]
    rfl
  · intro p hp
    rw [show ctr (lk r) (o 0) (o 2) = lk2 (lk r) (lk r (o 0)) (lk r (o 2)) from if_neg (x0 2 (by omega))]
    unfold ctr
    rw [lk2_o _ (Ne.symm (x0 1 (by omega))) (Ne.symm (x2 1 (by omega))), lk2_o _ (Ne.symm (x0 3 (by omega))) (Ne.symm (x2 3 (by omega))), if_neg (x1 3 (by omega)), lk_aL, lk_aL]
theorem strip_2 {st : OSt} {r o : Nat → Nat} (hO : ∀ k, k < 4 → st.2 20 k = nI (o k)) (hW : ∀ k, k < 4 → st.2 21 k = nI (lk r (o k))) (hb : ∀ k, k < 4 → o k < 1016 ∧ lk r (o k) < 1016) (dis : ∀ i j, i < 4 → j < 4 → i ≠ j → o i ≠ o j) (y0 : lk r (o 0) = o 2) (y1 : lk r (o 1) = o 3) (y2 : lk r (o 2) = o 0) (y3 : lk r (o 3) = o 1) : ∃ P' r', m_strips (sR st r) = some (sP st P' r') ∧ sC r o r' := by
  have h0 : oI (st.2 20) (nI (lk r (o 0))) = nI 2 := oI_j (by omega) (by rw [hO 2 (by omega), y0]) (fun i hi e => by
    rw [hO i (by omega), nI_eq (by have := hb i (by omega); omega) (by have := hb 0 (by omega); omega), y0] at e
    exact dis i 2 (by omega) (by omega) (by omega) e)
  have h1 : oI (st.2 20) (nI (lk r (o 1))) = nI 3 := oI_j (by omega) (by rw [hO 3 (by omega), y1]) (fun i hi e => by
    rw [hO i (by omega), nI_eq (by have := hb i (by omega); omega) (by have := hb 1 (by omega); omega), y1] at e
    exact dis i 3 (by omega) (by omega) (by omega) e)
  have h2 : oI (st.2 20) (nI (lk r (o 2))) = nI 0 := oI_j (by omega) (by rw [hO 0 (by omega), y2]) (fun i hi e => by
    rw [hO i (by omega), nI_eq (by have := hb i (by omega); omega) (by have := hb 2 (by omega); omega), y2] at e
    exact dis i 0 (by omega) (by omega) (by omega) e)
  have h3 : oI (st.2 20) (nI (lk r (o 3))) = nI 1 := oI_j (by omega) (by rw [hO 1 (by omega), y3]) (fun i hi e => by
    rw [hO i (by omega), nI_eq (by have := hb i (by omega); omega) (by have := hb 3 (by omega); omega), y3] at e
    exact dis i 1 (by omega) (by omega) (by omega) e)
  obtain ⟨P, e2, hP⟩ := s2_ok st r
  have p0 := hP 0 (by omega)
  have p1 := hP 1 (by omega)
  have p2 := hP 2 (by omega)
  have p3 := hP 3 (by omega)
  have g1 : m_strips_22 20000 (sP st P r) 0 = some (sP st P r) := by
    show m_strips_22 (19995 + 1 + 1 + 1 + 1 + 1) _ (nI 0) = _
    rw [s22_i (k := 0) (by omega) (by simp [upd_at, p0, p1, p2, p3]) (j := 2) (by omega) (hW 0 (by omega)) h0, s22_i (k := 1) (by omega) (by simp [upd_at, p0, p1, p2, p3]) (j := 3) (by omega) (hW 1 (by omega)) h1, s22_i (k := 2) (by omega) (by simp [upd_at, p0, p1, p2, p3]) (j := 0) (by omega) (hW 2 (by omega)) h2, s22_i (k := 3) (by omega) (by simp [upd_at, p0, p1, p2, p3]) (j := 1) (by omega) (hW 3 (by omega)) h3, s22_z]
  have l0 : m_strips_159 20000 (sP st P (ur r 7 (r 7 + 1))) (nI 0) (nI 0) = some (sP st (upd (upd P 0 1) ((0 + 2) % 4) 1) (ur r 7 (r 7 + 1))) := by
    show m_strips_159 (19998 + 1 + 1) _ _ _ = _
    rw [s159_s (k := 0) (by omega) (by simp [upd_at, p0, p1, p2, p3]) (j := 0) (by omega) (hW 2 (by omega)) h2, s159_z (k := 0) (by omega) (by simp [upd_at, p0, p1, p2, p3])]
  have l1 : m_strips_159 20000 (sP st (upd (upd P 0 1) ((0 + 2) % 4) 1) (ur (ur r 7 (r 7 + 1)) 7 ((ur r 7 (r 7 + 1)) 7 + 1))) (nI 1) (nI 1) = some (sP st (upd (upd (upd (upd P 0 1) ((0 + 2) % 4) 1) 1 1) ((1 + 2) % 4) 1) (ur (ur r 7 (r 7 + 1)) 7 ((ur r 7 (r 7 + 1)) 7 + 1))) := by
    show m_strips_159 (19998 + 1 + 1) _ _ _ = _
    rw [s159_s (k := 1) (by omega) (by simp [upd_at, p0, p1, p2, p3]) (j := 1) (by omega) (hW 3 (by omega)) h3, s159_z (k := 1) (by omega) (by simp [upd_at, p0, p1, p2, p3])]
  have g2 : m_strips_132 20000 (sP st P r) 0 = some (sP st (upd (upd (upd (upd P 0 1) ((0 + 2) % 4) 1) 1 1) ((1 + 2) % 4) 1) (ur (ur r 7 (r 7 + 1)) 7 ((ur r 7 (r 7 + 1)) 7 + 1))) := by
    show m_strips_132 (19997 + 1 + 1 + 1) _ (nI 0) = _
    rw [s132_l (k := 0) (by omega) (by simp [upd_at, p0, p1, p2, p3]) l0, s132_l (k := 1) (by omega) (by simp [upd_at, p0, p1, p2, p3]) l1, s132_z]
  refine ⟨upd (upd (upd (upd P 0 1) ((0 + 2) % 4) 1) 1 1) ((1 + 2) % 4) 1, ur (ur r 7 (r 7 + 1)) 7 ((ur r 7 (r 7 + 1)) 7 + 1), ?_, ?_, ?_, ?_⟩
  · unfold m_strips
    rw [e2, bd_s, g1, bd_s, g2, bd_s]
  · intro j hj h7
    simp only [aL_lo hj, ur_n h7, ur_at, if_neg h7]
  · rw [show lp (lk r) (o 0) (o 2) = 1 from if_pos y0, show ctr (lk r) (o 0) (o 2) = lk r from if_pos y0, show lp (lk r) (o 1) (o 3) = 1 from if_pos y1, ur_s, ur_s]
  · intro p hp
    rw [show ctr (lk r) (o 0) (o 2) = lk r from if_pos y0, show ctr (lk r) (o 1) (o 3) = lk r from if_pos y1, lk_u7, lk_u7]
theorem strip_3 {st : OSt} {r o : Nat → Nat} (hO : ∀ k, k < 4 → st.2 20 k = nI (o k)) (hW : ∀ k, k < 4 → st.2 21 k = nI (lk r (o k))) (hb : ∀ k, k < 4 → o k < 1016 ∧ lk r (o k) < 1016) (dis : ∀ i j, i < 4 → j < 4 → i ≠ j → o i ≠ o j) (y0 : lk r (o 0) = o 2) (x1 : ∀ j, j < 4 → lk r (o 1) ≠ o j) (y2 : lk r (o 2) = o 0) (x3 : ∀ j, j < 4 → lk r (o 3) ≠ o j) : ∃ P' r', m_strips (sR st r) = some (sP st P' r') ∧ sC r o r' := by
  have h0 : oI (st.2 20) (nI (lk r (o 0))) = nI 2 := oI_j (by omega) (by rw [hO 2 (by omega), y0]) (fun i hi e => by
    rw [hO i (by omega), nI_eq (by have := hb i (by omega); omega) (by have := hb 0 (by omega); omega), y0] at e
    exact dis i 2 (by omega) (by omega) (by omega) e)
  have h1 : oI (st.2 20) (nI (lk r (o 1))) = -1 := oI_e (fun j hj e => by
    rw [hO j hj, nI_eq (by have := hb j hj; omega) (by have := hb 1 (by omega); omega)] at e
    exact x1 j hj e.symm)
  have h2 : oI (st.2 20) (nI (lk r (o 2))) = nI 0 := oI_j (by omega) (by rw [hO 0 (by omega), y2]) (fun i hi e => by
    rw [hO i (by omega), nI_eq (by have := hb i (by omega); omega) (by have := hb 2 (by omega); omega), y2] at e
    exact dis i 0 (by omega) (by omega) (by omega) e)
  have h3 : oI (st.2 20) (nI (lk r (o 3))) = -1 := oI_e (fun j hj e => by
    rw [hO j hj, nI_eq (by have := hb j hj; omega) (by have := hb 3 (by omega); omega)] at e
    exact x3 j hj e.symm)
  obtain ⟨P, e2, hP⟩ := s2_ok st r
  have p0 := hP 0 (by omega)
  have p1 := hP 1 (by omega)
  have p2 := hP 2 (by omega)
  have p3 := hP 3 (by omega)
  have f1 : m_strips_54 20000 (sP st P r) (nI 1) (nI 1) (-1) = some (sP st (upd (upd P 1 1) ((1 + 2) % 4) 1) r, nI (lk r (o 3))) := by
    show m_strips_54 (19998 + 1 + 1) _ _ _ _ = _
    rw [s54_e (k := 1) (by omega) (b := lk r (o 3)) (hb 3 (by omega)).2 (hW 3 (by omega)) h3]
  have g1 : m_strips_22 20000 (sP st P r) 0 = some (sP st (upd (upd P 1 1) ((1 + 2) % 4) 1) (aL r (lk r (o 1)) (lk r (o 3)))) := by
    show m_strips_22 (19995 + 1 + 1 + 1 + 1 + 1) _ (nI 0) = _
    rw [s22_i (k := 0) (by omega) (by simp [upd_at, p0, p1, p2, p3]) (j := 2) (by omega) (hW 0 (by omega)) h0, s22_e (k := 1) (by omega) (by simp [upd_at, p0, p1, p2, p3]) (hb 1 (by omega)).2 (hb 3 (by omega)).2 (hW 1 (by omega)) h1 f1, s22_i (k := 2) (by omega) (by simp [upd_at, p0, p1, p2, p3]) (j := 0) (by omega) (hW 2 (by omega)) h2, s22_p (k := 3) (by omega) (by simp [upd_at, p0, p1, p2, p3]), s22_z]
  have l0 : m_strips_159 20000 (sP st (upd (upd P 1 1) ((1 + 2) % 4) 1) (ur (aL r (lk r (o 1)) (lk r (o 3))) 7 ((aL r (lk r (o 1)) (lk r (o 3))) 7 + 1))) (nI 0) (nI 0) = some (sP st (upd (upd (upd (upd P 1 1) ((1 + 2) % 4) 1) 0 1) ((0 + 2) % 4) 1) (ur (aL r (lk r (o 1)) (lk r (o 3))) 7 ((aL r (lk r (o 1)) (lk r (o 3))) 7 + 1))) := by
    show m_strips_159 (19998 + 1 + 1) _ _ _ = _
    rw [s159_s (k := 0) (by omega) (by simp [upd_at, p0, p1, p2, p3]) (j := 0) (by omega) (hW 2 (by omega)) h2, s159_z (k := 0) (by omega) (by simp [upd_at, p0, p1, p2, p3])]
  have g2 : m_strips_132 20000 (sP st (upd (upd P 1 1) ((1 + 2) % 4) 1) (aL r (lk r (o 1)) (lk r (o 3)))) 0 = some (sP st (upd (upd (upd (upd P 1 1) ((1 + 2) % 4) 1) 0 1) ((0 + 2) % 4) 1) (ur (aL r (lk r (o 1)) (lk r (o 3))) 7 ((aL r (lk r (o 1)) (lk r (o 3))) 7 + 1))) := by
    show m_strips_132 (19997 + 1 + 1 + 1) _ (nI 0) = _
    rw [s132_l (k := 0) (by omega) (by simp [upd_at, p0, p1, p2, p3]) l0, s132_p (k := 1) (by omega) (by simp [upd_at, p0, p1, p2, p3]), s132_z]
  refine ⟨upd (upd (upd (upd P 1 1) ((1 + 2) % 4) 1) 0 1) ((0 + 2) % 4) 1, ur (aL r (lk r (o 1)) (lk r (o 3))) 7 ((aL r (lk r (o 1)) (lk r (o 3))) 7 + 1), ?_, ?_, ?_, ?_⟩
  · unfold m_strips
    rw [e2, bd_s, g1, bd_s, g2, bd_s]
  · intro j hj h7
    simp only [aL_lo hj, ur_n h7, ur_at, if_neg h7]
  · rw [show lp (lk r) (o 0) (o 2) = 1 from if_pos y0, show ctr (lk r) (o 0) (o 2) = lk r from if_pos y0, show lp (lk r) (o 1) (o 3) = 0 from if_neg (x1 3 (by omega)), ur_s, aL_lo (by omega)]
  · intro p hp
    rw [show ctr (lk r) (o 0) (o 2) = lk r from if_pos y0, show ctr (lk r) (o 1) (o 3) = lk2 (lk r) (lk r (o 1)) (lk r (o 3)) from if_neg (x1 3 (by omega)), lk_u7, lk_aL]
theorem strip_4 {st : OSt} {r o : Nat → Nat} (hO : ∀ k, k < 4 → st.2 20 k = nI (o k)) (hW : ∀ k, k < 4 → st.2 21 k = nI (lk r (o k))) (hb : ∀ k, k < 4 → o k < 1016 ∧ lk r (o k) < 1016) (dis : ∀ i j, i < 4 → j < 4 → i ≠ j → o i ≠ o j) (x0 : ∀ j, j < 4 → lk r (o 0) ≠ o j) (y1 : lk r (o 1) = o 3) (x2 : ∀ j, j < 4 → lk r (o 2) ≠ o j) (y3 : lk r (o 3) = o 1) : ∃ P' r', m_strips (sR st r) = some (sP st P' r') ∧ sC r o r' := by
  have h0 : oI (st.2 20) (nI (lk r (o 0))) = -1 := oI_e (fun j hj e => by
    rw [hO j hj, nI_eq (by have := hb j hj; omega) (by have := hb 0 (by omega); omega)] at e
    exact x0 j hj e.symm)
  have h1 : oI (st.2 20) (nI (lk r (o 1))) = nI 3 := oI_j (by omega) (by rw [hO 3 (by omega), y1]) (fun i hi e => by
    rw [hO i (by omega), nI_eq (by have := hb i (by omega); omega) (by have := hb 1 (by omega); omega), y1] at e
    exact dis i 3 (by omega) (by omega) (by omega) e)
  have h2 : oI (st.2 20) (nI (lk r (o 2))) = -1 := oI_e (fun j hj e => by
    rw [hO j hj, nI_eq (by have := hb j hj; omega) (by have := hb 2 (by omega); omega)] at e
    exact x2 j hj e.symm)
  have h3 : oI (st.2 20) (nI (lk r (o 3))) = nI 1 := oI_j (by omega) (by rw [hO 1 (by omega), y3]) (fun i hi e => by
    rw [hO i (by omega), nI_eq (by have := hb i (by omega); omega) (by have := hb 3 (by omega); omega), y3] at e
    exact dis i 1 (by omega) (by omega) (by omega) e)
  obtain ⟨P, e2, hP⟩ := s2_ok st r
  have p0 := hP 0 (by omega)
  have p1 := hP 1 (by omega)
  have p2 := hP 2 (by omega)
  have p3 := hP 3 (by omega)
  have f0 : m_strips_54 20000 (sP st P r) (nI 0) (nI 0) (-1) = some (sP st (upd (upd P 0 1) ((0 + 2) % 4) 1) r, nI (lk r (o 2))) := by
    show m_strips_54 (19998 + 1 + 1) _ _ _ _ = _
    rw [s54_e (k := 0) (by omega) (b := lk r (o 2)) (hb 2 (by omega)).2 (hW 2 (by omega)) h2]
  have g1 : m_strips_22 20000 (sP st P r) 0 = some (sP st (upd (upd P 0 1) ((0 + 2) % 4) 1) (aL r (lk r (o 0)) (lk r (o 2)))) := by
    show m_strips_22 (19995 + 1 + 1 + 1 + 1 + 1) _ (nI 0) = _
    rw [s22_e (k := 0) (by omega) (by simp [upd_at, p0, p1, p2, p3]) (hb 0 (by omega)).2 (hb 2 (by omega)).2 (hW 0 (by omega)) h0 f0, s22_i (k := 1) (by omega) (by simp [upd_at, p0, p1, p2, p3]) (j := 3) (by omega) (hW 1 (by omega)) h1, s22_p (k := 2) (by omega) (by simp [upd_at, p0, p1, p2, p3]), s22_i (k := 3) (by omega) (by simp [upd_at, p0, p1, p2, p3]) (j := 1) (by omega) (hW 3 (by omega)) h3, s22_z]
  have l1 : m_strips_159 20000 (sP st (upd (upd P 0 1) ((0 + 2) % 4) 1) (ur (aL r (lk r (o 0)) (lk r (o 2))) 7 ((aL r (lk r (o 0)) (lk r (o 2))) 7 + 1))) (nI 1) (nI 1) = some (sP st (upd (upd (upd (upd P 0 1) ((0 + 2) % 4) 1) 1 1) ((1 + 2) % 4) 1) (ur (aL r (lk r (o 0)) (lk r (o 2))) 7 ((aL r (lk r (o 0)) (lk r (o 2))) 7 + 1))) := by
    show m_strips_159 (19998 + 1 + 1) _ _ _ = _
    rw [s159_s (k := 1) (by omega) (by simp [upd_at, p0, p1, p2, p3]) (j := 1) (by omega) (hW 3 (by omega)) h3, s159_z (k := 1) (by omega) (by simp [upd_at, p0, p1, p2, p3])]
  have g2 : m_strips_132 20000 (sP st (upd (upd P 0 1) ((0 + 2) % 4) 1) (aL r (lk r (o 0)) (lk r (o 2)))) 0 = some (sP st (upd (upd (upd (upd P 0 1) ((0 + 2) % 4) 1) 1 1) ((1 + 2) % 4) 1) (ur (aL r (lk r (o 0)) (lk r (o 2))) 7 ((aL r (lk r (o 0)) (lk r (o 2))) 7 + 1))) := by
    show m_strips_132 (19997 + 1 + 1 + 1) _ (nI 0) = _
    rw [s132_p (k := 0) (by omega) (by simp [upd_at, p0, p1, p2, p3]), s132_l (k := 1) (by omega) (by simp [upd_at, p0, p1, p2, p3]) l1, s132_z]
  refine ⟨upd (upd (upd (upd P 0 1) ((0 + 2) % 4) 1) 1 1) ((1 + 2) % 4) 1, ur (aL r (lk r (o 0)) (lk r (o 2))) 7 ((aL r (lk r (o 0)) (lk r (o 2))) 7 + 1), ?_, ?_, ?_, ?_⟩
  · unfold m_strips
    rw [e2, bd_s, g1, bd_s, g2, bd_s]
  · intro j hj h7
    simp only [aL_lo hj, ur_n h7, ur_at, if_neg h7]
  · rw [show lp (lk r) (o 0) (o 2) = 0 from if_neg (x0 2 (by omega)), show ctr (lk r) (o 0) (o 2) = lk2 (lk r) (lk r (o 0)) (lk r (o 2)) from if_neg (x0 2 (by omega)), show lp (lk2 (lk r) (lk r (o 0)) (lk r (o 2))) (o 1) (o 3) = 1 from if_pos (by rw [lk2_o _ (Ne.symm (x0 1 (by omega))) (Ne.symm (x2 1 (by omega)))]; exact y1), ur_s, aL_lo (by omega)]
  · intro p hp
    rw [show ctr (lk r) (o 0) (o 2) = lk2 (lk r) (lk r (o 0)) (lk r (o 2)) from if_neg (x0 2 (by omega)), show ctr (lk2 (lk r) (lk r (o 0)) (lk r (o 2))) (o 1) (o 3) = lk2 (lk r) (lk r (o 0)) (lk r (o 2)) from if_pos (by rw [lk2_o _ (Ne.symm (x0 1 (by omega))) (Ne.symm (x2 1 (by omega)))]; exact y1), lk_u7, lk_aL]
theorem strip_5 {st : OSt} {r o : Nat → Nat} (hO : ∀ k, k < 4 → st.2 20 k = nI (o k)) (hW : ∀ k, k < 4 → st.2 21 k = nI (lk r (o k))) (hb : ∀ k, k < 4 → o k < 1016 ∧ lk r (o k) < 1016) (dis : ∀ i j, i < 4 → j < 4 → i ≠ j → o i ≠ o j) (y0 : lk r (o 0) = o 1) (y1 : lk r (o 1) = o 0) (y2 : lk r (o 2) = o 3) (y3 : lk r (o 3) = o 2) : ∃ P' r', m_strips (sR st r) = some (sP st P' r') ∧ sC r o r' := by
  have h0 : oI (st.2 20) (nI (lk r (o 0))) = nI 1 := oI_j (by omega) (by rw [hO 1 (by omega), y0]) (fun i hi e => by
    rw [hO i (by omega), nI_eq (by have := hb i (by omega); omega) (by have := hb 0 (by omega); omega), y0] at e
    exact dis i 1 (by omega) (by omega) (by omega) e)
  have h1 : oI (st.2 20) (nI (lk r (o 1))) = nI 0 := oI_j (by omega) (by rw [hO 0 (by omega), y1]) (fun i hi e => by
    rw [hO i (by omega), nI_eq (by have := hb i (by omega); omega) (by have := hb 1 (by omega); omega), y1] at e
    exact dis i 0 (by omega) (by omega) (by omega) e)
  have h2 : oI (st.2 20) (nI (lk r (o 2))) = nI 3 := oI_j (by omega) (by rw [hO 3 (by omega), y2]) (fun i hi e => by
    rw [hO i (by omega), nI_eq (by have := hb i (by omega); omega) (by have := hb 2 (by omega); omega), y2] at e
    exact dis i 3 (by omega) (by omega) (by omega) e)
  have h3 : oI (st.2 20) (nI (lk r (o 3))) = nI 2 := oI_j (by omega) (by rw [hO 2 (by omega), y3]) (fun i hi e => by
    rw [hO i (by omega), nI_eq (by have := hb i (by omega); omega) (by have := hb 3 (by omega); omega), y3] at e
    exact dis i 2 (by omega) (by omega) (by omega) e)
  obtain ⟨P, e2, hP⟩ := s2_ok st r
  have p0 := hP 0 (by omega)
  have p1 := hP 1 (by omega)
  have p2 := hP 2 (by omega)
  have p3 := hP 3 (by omega)
  have g1 : m_strips_22 20000 (sP st P r) 0 = some (sP st P r) := by
    show m_strips_22 (19995 + 1 + 1 + 1 + 1 + 1) _ (nI 0) = _
    rw [s22_i (k := 0) (by omega) (by simp [upd_at, p0, p1, p2, p3]) (j := 1) (by omega) (hW 0 (by omega)) h0, s22_i (k := 1) (by omega) (by simp [upd_at, p0, p1, p2, p3]) (j := 0) (by omega) (hW 1 (by omega)) h1, s22_i (k := 2) (by omega) (by simp [upd_at, p0, p1, p2, p3]) (j := 3) (by omega) (hW 2 (by omega)) h2, s22_i (k := 3) (by omega) (by simp [upd_at, p0, p1, p2, p3]) (j := 2) (by omega) (hW 3 (by omega)) h3, s22_z]
  have l0 : m_strips_159 20000 (sP st P (ur r 7 (r 7 + 1))) (nI 0) (nI 0) = some (sP st (upd (upd (upd (upd P 0 1) ((0 + 2) % 4) 1) 3 1) ((3 + 2) % 4) 1) (ur r 7 (r 7 + 1))) := by
    show m_strips_159 (19997 + 1 + 1 + 1) _ _ _ = _
    rw [s159_s (k := 0) (by omega) (by simp [upd_at, p0, p1, p2, p3]) (j := 3) (by omega) (hW 2 (by omega)) h2, s159_s (k := 3) (by omega) (by simp [upd_at, p0, p1, p2, p3]) (j := 0) (by omega) (hW 1 (by omega)) h1, s159_z (k := 0) (by omega) (by simp [upd_at, p0, p1, p2, p3])]
  have g2 : m_strips_132 20000 (sP st P r) 0 = some (sP st (upd (upd (upd (upd P 0 1) ((0 + 2) % 4) 1) 3 1) ((3 + 2) % 4) 1) (ur r 7 (r 7 + 1))) := by
    show m_strips_132 (19997 + 1 + 1 + 1) _ (nI 0) = _
    rw [s132_l (k := 0) (by omega) (by simp [upd_at, p0, p1, p2, p3]) l0, s132_p (k := 1) (by omega) (by simp [upd_at, p0, p1, p2, p3]), s132_z]
  refine ⟨upd (upd (upd (upd P 0 1) ((0 + 2) % 4) 1) 3 1) ((3 + 2) % 4) 1, ur r 7 (r 7 + 1), ?_, ?_, ?_, ?_⟩
  · unfold m_strips
    rw [e2, bd_s, g1, bd_s, g2, bd_s]
  · intro j hj h7
    simp only [aL_lo hj, ur_n h7, ur_at, if_neg h7]
  · rw [show lp (lk r) (o 0) (o 2) = 0 from if_neg (show lk r (o 0) ≠ o 2 by rw [y0]; exact dis 1 2 (by omega) (by omega) (by decide)), show ctr (lk r) (o 0) (o 2) = lk2 (lk r) (o 1) (o 3) from (if_neg (show lk r (o 0) ≠ o 2 by rw [y0]; exact dis 1 2 (by omega) (by omega) (by decide))).trans (by rw [y0, y2]), show lp (lk2 (lk r) (o 1) (o 3)) (o 1) (o 3) = 1 from if_pos (by rw [lk2_a _ (dis 1 3 (by omega) (by omega) (by decide))]), ur_s]
  · intro p hp
    rw [show ctr (lk r) (o 0) (o 2) = lk2 (lk r) (o 1) (o 3) from (if_neg (show lk r (o 0) ≠ o 2 by rw [y0]; exact dis 1 2 (by omega) (by omega) (by decide))).trans (by rw [y0, y2]), show ctr (lk2 (lk r) (o 1) (o 3)) (o 1) (o 3) = lk2 (lk r) (o 1) (o 3) from if_pos (by rw [lk2_a _ (dis 1 3 (by omega) (by omega) (by decide))]), lk_u7, lk2_o _ (hp 1 (by omega)) (hp 3 (by omega))]
theorem strip_6 {st : OSt} {r o : Nat → Nat} (hO : ∀ k, k < 4 → st.2 20 k = nI (o k)) (hW : ∀ k, k < 4 → st.2 21 k = nI (lk r (o k))) (hb : ∀ k, k < 4 → o k < 1016 ∧ lk r (o k) < 1016) (dis : ∀ i j, i < 4 → j < 4 → i ≠ j → o i ≠ o j) (y0 : lk r (o 0) = o 1) (y1 : lk r (o 1) = o 0) (x2 : ∀ j, j < 4 → lk r (o 2) ≠ o j) (x3 : ∀ j, j < 4 → lk r (o 3) ≠ o j) : ∃ P' r', m_strips (sR st r) = some (sP st P' r') ∧ sC r o r' := by
  have h0 : oI (st.2 20) (nI (lk r (o 0))) = nI 1 := oI_j (by omega) (by rw [hO 1 (by omega), y0]) (fun i hi e => by
    rw [hO i (by omega), nI_eq (by have := hb i (by omega); omega) (by have := hb 0 (by omega); omega), y0] at e
    exact dis i 1 (by omega) (by omega) (by omega) e)
  have h1 : oI (st.2 20) (nI (lk r (o 1))) = nI 0 := oI_j (by omega) (by rw [hO 0 (by omega), y1]) (fun i hi e => by
    rw [hO i (by omega), nI_eq (by have := hb i (by omega); omega) (by have := hb 1 (by omega); omega), y1] at e
    exact dis i 0 (by omega) (by omega) (by omega) e)
  have h2 : oI (st.2 20) (nI (lk r (o 2))) = -1 := oI_e (fun j hj e => by
    rw [hO j hj, nI_eq (by have := hb j hj; omega) (by have := hb 2 (by omega); omega)] at e
    exact x2 j hj e.symm)
  have h3 : oI (st.2 20) (nI (lk r (o 3))) = -1 := oI_e (fun j hj e => by
    rw [hO j hj, nI_eq (by have := hb j hj; omega) (by have := hb 3 (by omega); omega)] at e
    exact x3 j hj e.symm)
  obtain ⟨P, e2, hP⟩ := s2_ok st r
  have p0 := hP 0 (by omega)
  have p1 := hP 1 (by omega)
  have p2 := hP 2 (by omega)
  have p3 := hP 3 (by omega)
  have f2 : m_strips_54 20000 (sP st P r) (nI 2) (nI 2) (-1) = some (sP st (upd (upd (upd (upd P 2 1) ((2 + 2) % 4) 1) 1 1) ((1 + 2) % 4) 1) r, nI (lk r (o 3))) := by
    show m_strips_54 (19997 + 1 + 1 + 1) _ _ _ _ = _
    rw [s54_i (k := 2) (by omega) (j := 1) (by omega) (hW 0 (by omega)) h0, s54_e (k := 1) (by omega) (b := lk r (o 3)) (hb 3 (by omega)).2 (hW 3 (by omega)) h3]
  have g1 : m_strips_22 20000 (sP st P r) 0 = some (sP st (upd (upd (upd (upd P 2 1) ((2 + 2) % 4) 1) 1 1) ((1 + 2) % 4) 1) (aL r (lk r (o 2)) (lk r (o 3)))) := by
    show m_strips_22 (19995 + 1 + 1 + 1 + 1 + 1) _ (nI 0) = _
    rw [s22_i (k := 0) (by omega) (by simp [upd_at, p0, p1, p2, p3]) (j := 1) (by omega) (hW 0 (by omega)) h0, s22_i (k := 1) (by omega) (by simp [upd_at, p0, p1, p2, p3]) (j := 0) (by omega) (hW 1 (by omega)) h1, s22_e (k := 2) (by omega) (by simp [upd_at, p0, p1, p2, p3]) (hb 2 (by omega)).2 (hb 3 (by omega)).2 (hW 2 (by omega)) h2 f2, s22_p (k := 3) (by omega) (by simp [upd_at, p0, p1, p2, p3]), s22_z]
  have g2 : m_strips_132 20000 (sP st (upd (upd (upd (upd P 2 1) ((2 + 2) % 4) 1) 1 1) ((1 + 2) % 4) 1) (aL r (lk r (o 2)) (lk r (o 3)))) 0 = some (sP st (upd (upd (upd (upd P 2 1) ((2 + 2) % 4) 1) 1 1) ((1 + 2) % 4) 1) (aL r (lk r (o 2)) (lk r (o 3)))) := by
    show m_strips_132 (19997 + 1 + 1 + 1) _ (nI 0) = _
    rw [s132_p (k := 0) (by omega) (by simp [upd_at, p0, p1, p2, p3]), s132_p (k := 1) (by omega) (by simp [upd_at, p0, p1, p2, p3]), s132_z]
  refine ⟨upd (upd (upd (upd P 2 1) ((2 + 2) % 4) 1) 1 1) ((1 + 2) % 4) 1, aL r (lk r (o 2)) (lk r (o 3)), ?_, ?_, ?_, ?_⟩
  · unfold m_strips
    rw [e2, bd_s, g1, bd_s, g2, bd_s]
  · intro j hj h7
    simp only [aL_lo hj, ur_n h7, ur_at, if_neg h7]
  · rw [show lp (lk r) (o 0) (o 2) = 0 from if_neg (show lk r (o 0) ≠ o 2 by rw [y0]; exact dis 1 2 (by omega) (by omega) (by decide)), show ctr (lk r) (o 0) (o 2) = lk2 (lk r) (o 1) (lk r (o 2)) from (if_neg (show lk r (o 0) ≠ o 2 by rw [y0]; exact dis 1 2 (by omega) (by omega) (by decide))).trans (by rw [y0]), show lp (lk2 (lk r) (o 1) (lk r (o 2))) (o 1) (o 3) = 0 from if_neg (by rw [lk2_a _ (Ne.symm (x2 1 (by omega)))]; exact x2 3 (by omega)), aL_lo (by omega)]
    rfl
  · intro p hp
    rw [show ctr (lk r) (o 0) (o 2) = lk2 (lk r) (o 1) (lk r (o 2)) from (if_neg (show lk r (o 0) ≠ o 2 by rw [y0]; exact dis 1 2 (by omega) (by omega) (by decide))).trans (by rw [y0])]
    unfold ctr
    rw [lk2_a _ (Ne.symm (x2 1 (by omega))), if_neg (x2 3 (by omega)), lk2_o _ (dis 3 1 (by omega) (by omega) (by decide)) (Ne.symm (x2 3 (by omega))), lk_aL, lk2_far _ (hp 1 (by omega))]
theorem strip_7 {st : OSt} {r o : Nat → Nat} (inv : ∀ k, k < 4 → lk r (lk r (o k)) = o k) (hO : ∀ k, k < 4 → st.2 20 k = nI (o k)) (hW : ∀ k, k < 4 → st.2 21 k = nI (lk r (o k))) (hb : ∀ k, k < 4 → o k < 1016 ∧ lk r (o k) < 1016) (dis : ∀ i j, i < 4 → j < 4 → i ≠ j → o i ≠ o j) (x0 : ∀ j, j < 4 → lk r (o 0) ≠ o j) (x1 : ∀ j, j < 4 → lk r (o 1) ≠ o j) (y2 : lk r (o 2) = o 3) (y3 : lk r (o 3) = o 2) : ∃ P' r', m_strips (sR st r) = some (sP st P' r') ∧ sC r o r' := by
  have h0 : oI (st.2 20) (nI (lk r (o 0))) = -1 := oI_e (fun j hj e => by
    rw [hO j hj, nI_eq (by have := hb j hj; omega) (by have := hb 0 (by omega); omega)] at e
    exact x0 j hj e.symm)
  have h1 : oI (st.2 20) (nI (lk r (o 1))) = -1 := oI_e (fun j hj e => by
    rw [hO j hj, nI_eq (by have := hb j hj; omega) (by have := hb 1 (by omega); omega)] at e
    exact x1 j hj e.symm)
  have h2 : oI (st.2 20) (nI (lk r (o 2))) = nI 3 := oI_j (by omega) (by rw [hO 3 (by omega), y2]) (fun i hi e => by
    rw [hO i (by omega), nI_eq (by have := hb i (by omega); omega) (by have := hb 2 (by omega); omega), y2] at e
    exact dis i 3 (by omega) (by omega) (by omega) e)
  have h3 : oI (st.2 20) (nI (lk r (o 3))) = nI 2 := oI_j (by omega) (by rw [hO 2 (by omega), y3]) (fun i hi e => by
    rw [hO i (by omega), nI_eq (by have := hb i (by omega); omega) (by have := hb 3 (by omega); omega), y3] at e
    exact dis i 2 (by omega) (by omega) (by omega) e)
  obtain ⟨P, e2, hP⟩ := s2_ok st r
  have p0 := hP 0 (by omega)
  have p1 := hP 1 (by omega)
  have p2 := hP 2 (by omega)
  have p3 := hP 3 (by omega)
  have f0 : m_strips_54 20000 (sP st P r) (nI 0) (nI 0) (-1) = some (sP st (upd (upd (upd (upd P 0 1) ((0 + 2) % 4) 1) 3 1) ((3 + 2) % 4) 1) r, nI (lk r (o 1))) := by
    show m_strips_54 (19997 + 1 + 1 + 1) _ _ _ _ = _
    rw [s54_i (k := 0) (by omega) (j := 3) (by omega) (hW 2 (by omega)) h2, s54_e (k := 3) (by omega) (b := lk r (o 1)) (hb 1 (by omega)).2 (hW 1 (by omega)) h1]
  have g1 : m_strips_22 20000 (sP st P r) 0 = some (sP st (upd (upd (upd (upd P 0 1) ((0 + 2) % 4) 1) 3 1) ((3 + 2) % 4) 1) (aL r (lk r (o 0)) (lk r (o 1)))) := by
    show m_strips_22 (19995 + 1 + 1 + 1 + 1 + 1) _ (nI 0) = _
    rw [s22_e (k := 0) (by omega) (by simp [upd_at, p0, p1, p2, p3]) (hb 0 (by omega)).2 (hb 1 (by omega)).2 (hW 0 (by omega)) h0 f0, s22_p (k := 1) (by omega) (by simp [upd_at, p0, p1, p2, p3]), s22_p (k := 2) (by omega) (by simp [upd_at, p0, p1, p2, p3]), s22_p (k := 3) (by omega) (by simp [upd_at, p0, p1, p2, p3]), s22_z]
  have g2 : m_strips_132 20000 (sP st (upd (upd (upd (upd P 0 1) ((0 + 2) % 4) 1) 3 1) ((3 + 2) % 4) 1) (aL r (lk r (o 0)) (lk r (o 1)))) 0 = some (sP st (upd (upd (upd (upd P 0 1) ((0 + 2) % 4) 1) 3 1) ((3 + 2) % 4) 1) (aL r (lk r (o 0)) (lk r (o 1)))) := by
    show m_strips_132 (19997 + 1 + 1 + 1) _ (nI 0) = _
    rw [s132_p (k := 0) (by omega) (by simp [upd_at, p0, p1, p2, p3]), s132_p (k := 1) (by omega) (by simp [upd_at, p0, p1, p2, p3]), s132_z]
  refine ⟨upd (upd (upd (upd P 0 1) ((0 + 2) % 4) 1) 3 1) ((3 + 2) % 4) 1, aL r (lk r (o 0)) (lk r (o 1)), ?_, ?_, ?_, ?_⟩
  · unfold m_strips
    rw [e2, bd_s, g1, bd_s, g2, bd_s]
  · intro j hj h7
    simp only [aL_lo hj, ur_n h7, ur_at, if_neg h7]
  · rw [show lp (lk r) (o 0) (o 2) = 0 from if_neg (x0 2 (by omega)), show ctr (lk r) (o 0) (o 2) = lk2 (lk r) (lk r (o 0)) (o 3) from (if_neg (x0 2 (by omega))).trans (by rw [y2]), show lp (lk2 (lk r) (lk r (o 0)) (o 3)) (o 1) (o 3) = 0 from if_neg (by rw [lk2_o _ (Ne.symm (x0 1 (by omega))) (dis 1 3 (by omega) (by omega) (by decide))]; exact x1 3 (by omega)), aL_lo (by omega)]
    rfl
  · intro p hp
    rw [show ctr (lk r) (o 0) (o 2) = lk2 (lk r) (lk r (o 0)) (o 3) from (if_neg (x0 2 (by omega))).trans (by rw [y2])]
    unfold ctr
    rw [lk2_o _ (Ne.symm (x0 1 (by omega))) (dis 1 3 (by omega) (by omega) (by decide)), if_neg (x1 3 (by omega)), lk2_b, lk_aL]
    have ne : lk r (o 0) ≠ lk r (o 1) := fun e => dis 0 1 (by omega) (by omega) (by decide) (by rw [← inv 0 (by omega), e, inv 1 (by omega)])
    rw [lk2_sym _ (Ne.symm ne), lk2_sym (lk r) (x0 3 (by omega)), lk2_far _ (hp 3 (by omega))]
theorem strip_8 {st : OSt} {r o : Nat → Nat} (hO : ∀ k, k < 4 → st.2 20 k = nI (o k)) (hW : ∀ k, k < 4 → st.2 21 k = nI (lk r (o k))) (hb : ∀ k, k < 4 → o k < 1016 ∧ lk r (o k) < 1016) (dis : ∀ i j, i < 4 → j < 4 → i ≠ j → o i ≠ o j) (y0 : lk r (o 0) = o 3) (y1 : lk r (o 1) = o 2) (y2 : lk r (o 2) = o 1) (y3 : lk r (o 3) = o 0) : ∃ P' r', m_strips (sR st r) = some (sP st P' r') ∧ sC r o r' := by
  have h0 : oI (st.2 20) (nI (lk r (o 0))) = nI 3 := oI_j (by omega) (by rw [hO 3 (by omega), y0]) (fun i hi e => by
    rw [hO i (by omega), nI_eq (by have := hb i (by omega); omega) (by have := hb 0 (by omega); omega), y0] at e
    exact dis i 3 (by omega) (by omega) (by omega) e)
  have h1 : oI (st.2 20) (nI (lk r (o 1))) = nI 2 := oI_j (by omega) (by rw [hO 2 (by omega), y1]) (fun i hi e => by
    rw [hO i (by omega), nI_eq (by have := hb i (by omega); omega) (by have := hb 1 (by omega); omega), y1] at e
    exact dis i 2 (by omega) (by omega) (by omega) e)
  have h2 : oI (st.2 20) (nI (lk r (o 2))) = nI 1 := oI_j (by omega) (by rw [hO 1 (by omega), y2]) (fun i hi e => by
    rw [hO i (by omega), nI_eq (by have := hb i (by omega); omega) (by have := hb 2 (by omega); omega), y2] at e
    exact dis i 1 (by omega) (by omega) (by omega) e)
  have h3 : oI (st.2 20) (nI (lk r (o 3))) = nI 0 := oI_j (by omega) (by rw [hO 0 (by omega), y3]) (fun i hi e => by
    rw [hO i (by omega), nI_eq (by have := hb i (by omega); omega) (by have := hb 3 (by omega); omega), y3] at e
    exact dis i 0 (by omega) (by omega) (by omega) e)
  obtain ⟨P, e2, hP⟩ := s2_ok st r
  have p0 := hP 0 (by omega)
  have p1 := hP 1 (by omega)
  have p2 := hP 2 (by omega)
  have p3 := hP 3 (by omega)
  have g1 : m_strips_22 20000 (sP st P r) 0 = some (sP st P r) := by
    show m_strips_22 (19995 + 1 + 1 + 1 + 1 + 1) _ (nI 0) = _
    rw [s22_i (k := 0) (by omega) (by simp [upd_at, p0, p1, p2, p3]) (j := 3) (by omega) (hW 0 (by omega)) h0, s22_i (k := 1) (by omega) (by simp [upd_at, p0, p1, p2, p3]) (j := 2) (by omega) (hW 1 (by omega)) h1, s22_i (k := 2) (by omega) (by simp [upd_at, p0, p1, p2, p3]) (j := 1) (by omega) (hW 2 (by omega)) h2, s22_i (k := 3) (by omega) (by simp [upd_at, p0, p1, p2, p3]) (j := 0) (by omega) (hW 3 (by omega)) h3, s22_z]
  have l0 : m_strips_159 20000 (sP st P (ur r 7 (r 7 + 1))) (nI 0) (nI 0) = some (sP st (upd (upd (upd (upd P 0 1) ((0 + 2) % 4) 1) 1 1) ((1 + 2) % 4) 1) (ur r 7 (r 7 + 1))) := by
    show m_strips_159 (19997 + 1 + 1 + 1) _ _ _ = _
    rw [s159_s (k := 0) (by omega) (by simp [upd_at, p0, p1, p2, p3]) (j := 1) (by omega) (hW 2 (by omega)) h2, s159_s (k := 1) (by omega) (by simp [upd_at, p0, p1, p2, p3]) (j := 0) (by omega) (hW 3 (by omega)) h3, s159_z (k := 0) (by omega) (by simp [upd_at, p0, p1, p2, p3])]
  have g2 : m_strips_132 20000 (sP st P r) 0 = some (sP st (upd (upd (upd (upd P 0 1) ((0 + 2) % 4) 1) 1 1) ((1 + 2) % 4) 1) (ur r 7 (r 7 + 1))) := by
    show m_strips_132 (19997 + 1 + 1 + 1) _ (nI 0) = _
    rw [s132_l (k := 0) (by omega) (by simp [upd_at, p0, p1, p2, p3]) l0, s132_p (k := 1) (by omega) (by simp [upd_at, p0, p1, p2, p3]), s132_z]
  refine ⟨upd (upd (upd (upd P 0 1) ((0 + 2) % 4) 1) 1 1) ((1 + 2) % 4) 1, ur r 7 (r 7 + 1), ?_, ?_, ?_, ?_⟩
  · unfold m_strips
    rw [e2, bd_s, g1, bd_s, g2, bd_s]
  · intro j hj h7
    simp only [aL_lo hj, ur_n h7, ur_at, if_neg h7]
  · rw [show lp (lk r) (o 0) (o 2) = 0 from if_neg (show lk r (o 0) ≠ o 2 by rw [y0]; exact dis 3 2 (by omega) (by omega) (by decide)), show ctr (lk r) (o 0) (o 2) = lk2 (lk r) (o 3) (o 1) from (if_neg (show lk r (o 0) ≠ o 2 by rw [y0]; exact dis 3 2 (by omega) (by omega) (by decide))).trans (by rw [y0, y2]), show lp (lk2 (lk r) (o 3) (o 1)) (o 1) (o 3) = 1 from if_pos (by rw [lk2_b]), ur_s]
  · intro p hp
    rw [show ctr (lk r) (o 0) (o 2) = lk2 (lk r) (o 3) (o 1) from (if_neg (show lk r (o 0) ≠ o 2 by rw [y0]; exact dis 3 2 (by omega) (by omega) (by decide))).trans (by rw [y0, y2]), show ctr (lk2 (lk r) (o 3) (o 1)) (o 1) (o 3) = lk2 (lk r) (o 3) (o 1) from if_pos (by rw [lk2_b]), lk_u7, lk2_o _ (hp 3 (by omega)) (hp 1 (by omega))]
theorem strip_9 {st : OSt} {r o : Nat → Nat} (inv : ∀ k, k < 4 → lk r (lk r (o k)) = o k) (hO : ∀ k, k < 4 → st.2 20 k = nI (o k)) (hW : ∀ k, k < 4 → st.2 21 k = nI (lk r (o k))) (hb : ∀ k, k < 4 → o k < 1016 ∧ lk r (o k) < 1016) (dis : ∀ i j, i < 4 → j < 4 → i ≠ j → o i ≠ o j) (y0 : lk r (o 0) = o 3) (x1 : ∀ j, j < 4 → lk r (o 1) ≠ o j) (x2 : ∀ j, j < 4 → lk r (o 2) ≠ o j) (y3 : lk r (o 3) = o 0) : ∃ P' r', m_strips (sR st r) = some (sP st P' r') ∧ sC r o r' := by
  have h0 : oI (st.2 20) (nI (lk r (o 0))) = nI 3 := oI_j (by omega) (by rw [hO 3 (by omega), y0]) (fun i hi e => by
    rw [hO i (by omega), nI_eq (by have := hb i (by omega); omega) (by have := hb 0 (by omega); omega), y0] at e
    exact dis i 3 (by omega) (by omega) (by omega) e)
  have h1 : oI (st.2 20) (nI (lk r (o 1))) = -1 := oI_e (fun j hj e => by
    rw [hO j hj, nI_eq (by have := hb j hj; omega) (by have := hb 1 (by omega); omega)] at e
    exact x1 j hj e.symm)
  have h2 : oI (st.2 20) (nI (lk r (o 2))) = -1 := oI_e (fun j hj e => by
    rw [hO j hj, nI_eq (by have := hb j hj; omega) (by have := hb 2 (by omega); omega)] at e
    exact x2 j hj e.symm)
  have h3 : oI (st.2 20) (nI (lk r (o 3))) = nI 0 := oI_j (by omega) (by rw [hO 0 (by omega), y3]) (fun i hi e => by
    rw [hO i (by omega), nI_eq (by have := hb i (by omega); omega) (by have := hb 3 (by omega); omega), y3] at e
    exact dis i 0 (by omega) (by omega) (by omega) e)
  obtain ⟨P, e2, hP⟩ := s2_ok st r
  have p0 := hP 0 (by omega)
  have p1 := hP 1 (by omega)
  have p2 := hP 2 (by omega)
  have p3 := hP 3 (by omega)
  have f1 : m_strips_54 20000 (sP st P r) (nI 1) (nI 1) (-1) = some (sP st (upd (upd (upd (upd P 1 1) ((1 + 2) % 4) 1) 0 1) ((0 + 2) % 4) 1) r, nI (lk r (o 2))) := by
    show m_strips_54 (19997 + 1 + 1 + 1) _ _ _ _ = _
    rw [s54_i (k := 1) (by omega) (j := 0) (by omega) (hW 3 (by omega)) h3, s54_e (k := 0) (by omega) (b := lk r (o 2)) (hb 2 (by omega)).2 (hW 2 (by omega)) h2]
  have g1 : m_strips_22 20000 (sP st P r) 0 = some (sP st (upd (upd (upd (upd P 1 1) ((1 + 2) % 4) 1) 0 1) ((0 + 2) % 4) 1) (aL r (lk r (o 1)) (lk r (o 2)))) := by
    show m_strips_22 (19995 + 1 + 1 + 1 + 1 + 1) _ (nI 0) = _
    rw [s22_i (k := 0) (by omega) (by simp [upd_at, p0, p1, p2, p3]) (j := 3) (by omega) (hW 0 (by omega)) h0, s22_e (k := 1) (by omega) (by simp [upd_at, p0, p1, p2, p3]) (hb 1 (by omega)).2 (hb 2 (by omega)).2 (hW 1 (by omega)) h1 f1, s22_p (k := 2) (by omega) (by simp [upd_at, p0, p1, p2, p3]), s22_p (k := 3) (by omega) (by simp [upd_at, p0, p1, p2, p3]), s22_z]
  have g2 : m_strips_132 20000 (sP st (upd (upd (upd (upd P 1 1) ((1 + 2) % 4) 1) 0 1) ((0 + 2) % 4) 1) (aL r (lk r (o 1)) (lk r (o 2)))) 0 = some (sP st (upd (upd (upd (upd P 1 1) ((1 + 2) % 4) 1) 0 1) ((0 + 2) % 4) 1) (aL r (lk r (o 1)) (lk r (o 2)))) := by
    show m_strips_132 (19997 + 1 + 1 + 1) _ (nI 0) = _
    rw [s132_p (k := 0) (by omega) (by simp [upd_at, p0, p1, p2, p3]), s132_p (k := 1) (by omega) (by simp [upd_at, p0, p1, p2, p3]), s132_z]
  refine ⟨upd (upd (upd (upd P 1 1) ((1 + 2) % 4) 1) 0 1) ((0 + 2) % 4) 1, aL r (lk r (o 1)) (lk r (o 2)), ?_, ?_, ?_, ?_⟩
  · unfold m_strips
    rw [e2, bd_s, g1, bd_s, g2, bd_s]
  · intro j hj h7
    simp only [aL_lo hj, ur_n h7, ur_at, if_neg h7]
  · rw [show lp (lk r) (o 0) (o 2) = 0 from if_neg (show lk r (o 0) ≠ o 2 by rw [y0]; exact dis 3 2 (by omega) (by omega) (by decide)), show ctr (lk r) (o 0) (o 2) = lk2 (lk r) (o 3) (lk r (o 2)) from (if_neg (show lk r (o 0) ≠ o 2 by rw [y0]; exact dis 3 2 (by omega) (by omega) (by decide))).trans (by rw [y0]), show lp (lk2 (lk r) (o 3) (lk r (o 2))) (o 1) (o 3) = 0 from if_neg (by rw [lk2_o _ (dis 1 3 (by omega) (by omega) (by decide)) (Ne.symm (x2 1 (by omega)))]; exact x1 3 (by omega)), aL_lo (by omega)]
    rfl
  · intro p hp
    rw [show ctr (lk r) (o 0) (o 2) = lk2 (lk r) (o 3) (lk r (o 2)) from (if_neg (show lk r (o 0) ≠ o 2 by rw [y0]; exact dis 3 2 (by omega) (by omega) (by decide))).trans (by rw [y0])]
    unfold ctr
    rw [lk2_o _ (dis 1 3 (by omega) (by omega) (by decide)) (Ne.symm (x2 1 (by omega))), if_neg (x1 3 (by omega)), lk2_a _ (Ne.symm (x2 3 (by omega))), lk_aL]
    have ne : lk r (o 1) ≠ lk r (o 2) := fun e => dis 1 2 (by omega) (by omega) (by decide) (by rw [← inv 1 (by omega), e, inv 2 (by omega)])
    rw [lk2_sym (lk r) ne, lk2_sym (lk2 (lk r) (o 3) (lk r (o 2))) ne, lk2_far _ (hp 3 (by omega))]
theorem strip_10 {st : OSt} {r o : Nat → Nat} (hO : ∀ k, k < 4 → st.2 20 k = nI (o k)) (hW : ∀ k, k < 4 → st.2 21 k = nI (lk r (o k))) (hb : ∀ k, k < 4 → o k < 1016 ∧ lk r (o k) < 1016) (dis : ∀ i j, i < 4 → j < 4 → i ≠ j → o i ≠ o j) (x0 : ∀ j, j < 4 → lk r (o 0) ≠ o j) (y1 : lk r (o 1) = o 2) (y2 : lk r (o 2) = o 1) (x3 : ∀ j, j < 4 → lk r (o 3) ≠ o j) : ∃ P' r', m_strips (sR st r) = some (sP st P' r') ∧ sC r o r' := by
  have h0 : oI (st.2 20) (nI (lk r (o 0))) = -1 := oI_e (fun j hj e => by
    rw [hO j hj, nI_eq (by have := hb j hj; omega) (by have := hb 0 (by omega); omega)] at e
    exact x0 j hj e.symm)
  have h1 : oI (st.2 20) (nI (lk r (o 1))) = nI 2 := oI_j (by omega) (by rw [hO 2 (by omega), y1]) (fun i hi e => by
    rw [hO i (by omega), nI_eq (by have := hb i (by omega); omega) (by have := hb 1 (by omega); omega), y1] at e
    exact dis i 2 (by omega) (by omega) (by omega) e)
  have h2 : oI (st.2 20) (nI (lk r (o 2))) = nI 1 := oI_j (by omega) (by rw [hO 1 (by omega), y2]) (fun i hi e => by
    rw [hO i (by omega), nI_eq (by have := hb i (by omega); omega) (by have := hb 2 (by omega); omega), y2] at e
    exact dis i 1 (by omega) (by omega) (by omega) e)
  have h3 : oI (st.2 20) (nI (lk r (o 3))) = -1 := oI_e (fun j hj e => by
    rw [hO j hj, nI_eq (by have := hb j hj; omega) (by have := hb 3 (by omega); omega)] at e
    exact x3 j hj e.symm)
  obtain ⟨P, e2, hP⟩ := s2_ok st r
  have p0 := hP 0 (by omega)
  have p1 := hP 1 (by omega)
  have p2 := hP 2 (by omega)
  have p3 := hP 3 (by omega)
  have f0 : m_strips_54 20000 (sP st P r) (nI 0) (nI 0) (-1) = some (sP st (upd (upd (upd (upd P 0 1) ((0 + 2) % 4) 1) 1 1) ((1 + 2) % 4) 1) r, nI (lk r (o 3))) := by
    show m_strips_54 (19997 + 1 + 1 + 1) _ _ _ _ = _
    rw [s54_i (k := 0) (by omega) (j := 1) (by omega) (hW 2 (by omega)) h2, s54_e (k := 1) (by omega) (b := lk r (o 3)) (hb 3 (by omega)).2 (hW 3 (by omega)) h3]
  have g1 : m_strips_22 20000 (sP st P r) 0 = some (sP st (upd (upd (upd (upd P 0 1) ((0 + 2) % 4) 1) 1 1) ((1 + 2) % 4) 1) (aL r (lk r (o 0)) (lk r (o 3)))) := by
    show m_strips_22 (19995 + 1 + 1 + 1 + 1 + 1) _ (nI 0) = _
    rw [s22_e (k := 0) (by omega) (by simp [upd_at, p0, p1, p2, p3]) (hb 0 (by omega)).2 (hb 3 (by omega)).2 (hW 0 (by omega)) h0 f0, s22_p (k := 1) (by omega) (by simp [upd_at, p0, p1, p2, p3]), s22_p (k := 2) (by omega) (by simp [upd_at, p0, p1, p2, p3]), s22_p (k := 3) (by omega) (by simp [upd_at, p0, p1, p2, p3]), s22_z]
  have g2 : m_strips_132 20000 (sP st (upd (upd (upd (upd P 0 1) ((0 + 2) % 4) 1) 1 1) ((1 + 2) % 4) 1) (aL r (lk r (o 0)) (lk r (o 3)))) 0 = some (sP st (upd (upd (upd (upd P 0 1) ((0 + 2) % 4) 1) 1 1) ((1 + 2) % 4) 1) (aL r (lk r (o 0)) (lk r (o 3)))) := by
    show m_strips_132 (19997 + 1 + 1 + 1) _ (nI 0) = _
    rw [s132_p (k := 0) (by omega) (by simp [upd_at, p0, p1, p2, p3]), s132_p (k := 1) (by omega) (by simp [upd_at, p0, p1, p2, p3]), s132_z]
  refine ⟨upd (upd (upd (upd P 0 1) ((0 + 2) % 4) 1) 1 1) ((1 + 2) % 4) 1, aL r (lk r (o 0)) (lk r (o 3)), ?_, ?_, ?_, ?_⟩
  · unfold m_strips
    rw [e2, bd_s, g1, bd_s, g2, bd_s]
  · intro j hj h7
    simp only [aL_lo hj, ur_n h7, ur_at, if_neg h7]
  · rw [show lp (lk r) (o 0) (o 2) = 0 from if_neg (x0 2 (by omega)), show ctr (lk r) (o 0) (o 2) = lk2 (lk r) (lk r (o 0)) (o 1) from (if_neg (x0 2 (by omega))).trans (by rw [y2]), show lp (lk2 (lk r) (lk r (o 0)) (o 1)) (o 1) (o 3) = 0 from if_neg (by rw [lk2_b]; exact x0 3 (by omega)), aL_lo (by omega)]
    rfl
  · intro p hp
    rw [show ctr (lk r) (o 0) (o 2) = lk2 (lk r) (lk r (o 0)) (o 1) from (if_neg (x0 2 (by omega))).trans (by rw [y2])]
    unfold ctr
    rw [lk2_b, if_neg (x0 3 (by omega)), lk2_o _ (Ne.symm (x0 3 (by omega))) (dis 3 1 (by omega) (by omega) (by decide)), lk_aL, lk2_sym (lk r) (x0 1 (by omega)), lk2_far _ (hp 1 (by omega))]
theorem strips_ok {st : OSt} {r o : Nat → Nat} (hO : ∀ k, k < 4 → st.2 20 k = nI (o k)) (hW : ∀ k, k < 4 → st.2 21 k = nI (lk r (o k))) (hb : ∀ k, k < 4 → o k < 1016 ∧ lk r (o k) < 1016) (dis : ∀ i j, i < 4 → j < 4 → i ≠ j → o i ≠ o j) (inv : ∀ k, k < 4 → lk r (lk r (o k)) = o k) (nf : ∀ k, k < 4 → lk r (o k) ≠ o k) : ∃ P' r', m_strips (sR st r) = some (sP st P' r') ∧ sC r o r' := by
  have back : ∀ {i j : Nat}, i < 4 → lk r (o i) = o j → lk r (o j) = o i := fun hi e => by rw [← e]; exact inv _ hi
  have ext : ∀ k, k < 4 → (∀ j, j < 4 → j ≠ k → lk r (o k) ≠ o j) → ∀ j, j < 4 → lk r (o k) ≠ o j := fun k hk h j hj => by
    by_cases e : j = k
    · rw [e]; exact nf k hk
    · exact h j hj e
  have no : ∀ {i j k : Nat}, i < 4 → j < 4 → lk r (o i) = o k → i ≠ j → lk r (o j) ≠ o k := fun {i j k} hi hj e ne e2 => dis i j hi hj ne (by rw [← inv i hi, e, ← e2, inv j hj])
  have X : ∀ k, k < 4 → ∀ a b c : Nat, (∀ j, j < 4 → j = k ∨ j = a ∨ j = b ∨ j = c) → lk r (o k) ≠ o a → lk r (o k) ≠ o b → lk r (o k) ≠ o c → ∀ j, j < 4 → lk r (o k) ≠ o j := fun k hk a b c hc ha hb' hc' j hj => by
    rcases hc j hj with e | e | e | e
    · rw [e]; exact nf k hk
    · rw [e]; exact ha
    · rw [e]; exact hb'
    · rw [e]; exact hc'
  have t4 : (∀ j, j < 4 → j = 0 ∨ j = 1 ∨ j = 2 ∨ j = 3) ∧ (∀ j, j < 4 → j = 1 ∨ j = 0 ∨ j = 2 ∨ j = 3) ∧ (∀ j, j < 4 → j = 2 ∨ j = 0 ∨ j = 1 ∨ j = 3) ∧ (∀ j, j < 4 → j = 3 ∨ j = 0 ∨ j = 1 ∨ j = 2) := by
    refine ⟨?_, ?_, ?_, ?_⟩ <;> intro j hj <;> omega
  have sy : ∀ {i j : Nat}, j < 4 → lk r (o i) ≠ o j → lk r (o j) ≠ o i := fun hj h e => h (back hj e)
  by_cases a02 : lk r (o 0) = o 2
  · by_cases a13 : lk r (o 1) = o 3
    · exact strip_2 hO hW hb dis a02 a13 (back (by omega) a02) (back (by omega) a13)
    · have b10 : lk r (o 1) ≠ o 0 := fun e => no (by omega) (by omega) (back (i := 0) (by omega) a02) (by decide : 2 ≠ 1) e
      have b12 : lk r (o 1) ≠ o 2 := no (by omega) (by omega) a02 (by decide)
      have b30 : lk r (o 3) ≠ o 0 := fun e => no (by omega) (by omega) (back (i := 0) (by omega) a02) (by decide : 2 ≠ 3) e
      have b32 : lk r (o 3) ≠ o 2 := no (by omega) (by omega) a02 (by decide)
      exact strip_3 hO hW hb dis a02 (X 1 (by omega) 0 2 3 t4.2.1 b10 b12 a13) (back (by omega) a02) (X 3 (by omega) 0 1 2 t4.2.2.2 b30 (sy (by omega) a13) b32)
  · by_cases a01 : lk r (o 0) = o 1
    · have c1 := back (i := 0) (by omega) a01
      by_cases a23 : lk r (o 2) = o 3
      · exact strip_5 hO hW hb dis a01 c1 a23 (back (by omega) a23)
      · have b20 : lk r (o 2) ≠ o 0 := no (by omega) (by omega) c1 (by decide)
        have b21 : lk r (o 2) ≠ o 1 := no (by omega) (by omega) a01 (by decide)
        have b30 : lk r (o 3) ≠ o 0 := no (by omega) (by omega) c1 (by decide)
        have b31 : lk r (o 3) ≠ o 1 := no (by omega) (by omega) a01 (by decide)
        exact strip_6 hO hW hb dis a01 c1 (X 2 (by omega) 0 1 3 t4.2.2.1 b20 b21 a23) (X 3 (by omega) 0 1 2 t4.2.2.2 b30 b31 (sy (by omega) a23))
    · by_cases a03 : lk r (o 0) = o 3
      · have c3 := back (i := 0) (by omega) a03
        by_cases a12 : lk r (o 1) = o 2
        · exact strip_8 hO hW hb dis a03 a12 (back (by omega) a12) c3
        · have b10 : lk r (o 1) ≠ o 0 := no (by omega) (by omega) c3 (by decide)
          have b13 : lk r (o 1) ≠ o 3 := no (by omega) (by omega) a03 (by decide)
          have b20 : lk r (o 2) ≠ o 0 := no (by omega) (by omega) c3 (by decide)
          have b23 : lk r (o 2) ≠ o 3 := no (by omega) (by omega) a03 (by decide)
          exact strip_9 inv hO hW hb dis a03 (X 1 (by omega) 0 2 3 t4.2.1 b10 a12 b13) (X 2 (by omega) 0 1 3 t4.2.2.1 b20 (sy (by omega) a12) b23) c3
      · have x0 := X 0 (by omega) 1 2 3 t4.1 a01 a02 a03
        have b10 := sy (i := 0) (j := 1) (by omega) a01
        have b20 := sy (i := 0) (j := 2) (by omega) a02
        have b30 := sy (i := 0) (j := 3) (by omega) a03
        by_cases a13 : lk r (o 1) = o 3
        · have b21 : lk r (o 2) ≠ o 1 := no (by omega) (by omega) (back (i := 1) (by omega) a13) (by decide)
          have b23 : lk r (o 2) ≠ o 3 := no (by omega) (by omega) a13 (by decide)
          exact strip_4 hO hW hb dis x0 a13 (X 2 (by omega) 0 1 3 t4.2.2.1 b20 b21 b23) (back (by omega) a13)
        · by_cases a12 : lk r (o 1) = o 2
          · have b32 : lk r (o 3) ≠ o 2 := no (by omega) (by omega) a12 (by decide)
            exact strip_10 hO hW hb dis x0 a12 (back (by omega) a12) (X 3 (by omega) 0 1 2 t4.2.2.2 b30 (sy (by omega) a13) b32)
          · have x1 := X 1 (by omega) 0 2 3 t4.2.1 b10 a12 a13
            by_cases a23 : lk r (o 2) = o 3
            · exact strip_7 inv hO hW hb dis x0 x1 a23 (back (by omega) a23)
            · exact strip_1 hO hW hb dis x0 x1 (X 2 (by omega) 0 1 3 t4.2.2.1 b20 (sy (by omega) a12) a23) (X 3 (by omega) 0 1 2 t4.2.2.2 b30 (sy (by omega) a13) (sy (by omega) a23))

