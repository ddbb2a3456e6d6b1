/-! names that stand once become roots: the reference -/
def nP (r : Nat → Nat) (q : Nat) : Prop := q < 900 ∧ 0 < r (30 + q / 3) ∧ (q % 3 = 0 ∨ 1 < r (30 + q / 3))
def X0 (r so : Nat → Nat) (nc i : Nat) (q : Nat) : Prop := nP r q ∨ (1000 ≤ q ∧ q < 1000 + sgc so i) ∨ (∃ j, j < nc ∧ q = wa j) ∨ (∃ j, j < nc ∧ q = wb j ∧ (so j = 2 ∨ j < i))
theorem nP_r {r r' : Nat → Nat} (h : ∀ j, 30 ≤ j → j < 330 → r' j = r j) (q : Nat) : nP r' q ↔ nP r q := by
  unfold nP
  by_cases z : q < 900
  · rw [h (30 + q / 3) (by omega) (by omega)]
  · exact ⟨fun y => absurd y.1 z, fun y => absurd y.1 z⟩
theorem X0_r {r r' so : Nat → Nat} {nc i : Nat} (h : ∀ j, 30 ≤ j → j < 330 → r' j = r j) (q : Nat) : X0 r' so nc i q ↔ X0 r so nc i q := by
  unfold X0
  rw [nP_r h q]
theorem sgc_s1 {so : Nat → Nat} {i : Nat} (h : so i = 1) : sgc so (i + 1) = sgc so i + 1 := by
  show sgc so i + (if so i = 1 then 1 else 0) = _
  rw [if_pos h]
theorem sgc_s2 {so : Nat → Nat} {i : Nat} (h : so i = 2) : sgc so (i + 1) = sgc so i := by
  show sgc so i + (if so i = 1 then 1 else 0) = _
  rw [if_neg (by omega)]
  rfl
theorem sgc_mono (so : Nat → Nat) {i : Nat} : ∀ {n : Nat}, i ≤ n → sgc so i ≤ sgc so n := by
  intro n
  induction n with
  | zero =>
    intro h
    have : i = 0 := by omega
    rw [this]
    exact Nat.le_refl _
  | succ n ih =>
    intro h
    by_cases q : i = n + 1
    · rw [q]
      exact Nat.le_refl _
    · exact Nat.le_trans (ih (by omega)) (Nat.le_add_right _ _)
theorem X0_s1 {r so : Nat → Nat} {nc i : Nat} (h : so i = 1) (hi : i < nc) (q : Nat) : X0 r so nc (i + 1) q ↔ E2 (X0 r so nc i) (1000 + sgc so i) (wb i) q := by
  unfold X0 E2
  rw [sgc_s1 h]
  constructor
  · rintro (z | z | z | ⟨j, hj, e, z⟩)
    · exact Or.inl (Or.inl z)
    · by_cases y : q = 1000 + sgc so i
      · exact Or.inr (Or.inl y)
      · exact Or.inl (Or.inr (Or.inl ⟨z.1, by omega⟩))
    · exact Or.inl (Or.inr (Or.inr (Or.inl z)))
    · rcases z with z | z
      · exact Or.inl (Or.inr (Or.inr (Or.inr ⟨j, hj, e, Or.inl z⟩)))
      · by_cases y : j = i
        · rw [y] at e
          exact Or.inr (Or.inr e)
        · exact Or.inl (Or.inr (Or.inr (Or.inr ⟨j, hj, e, Or.inr (by omega)⟩)))
  · rintro ((z | z | z | ⟨j, hj, e, z⟩) | z | z)
    · exact Or.inl z
    · exact Or.inr (Or.inl ⟨z.1, by omega⟩)
    · exact Or.inr (Or.inr (Or.inl z))
    · exact Or.inr (Or.inr (Or.inr ⟨j, hj, e, z.imp id (fun y => by omega)⟩))
    · exact Or.inr (Or.inl ⟨by omega, by omega⟩)
    · exact Or.inr (Or.inr (Or.inr ⟨i, hi, z, Or.inr (by omega)⟩))
theorem X0_s2 {r so : Nat → Nat} {nc i : Nat} (h : so i = 2) (q : Nat) : X0 r so nc (i + 1) q ↔ X0 r so nc i q := by
  unfold X0
  rw [sgc_s2 h]
  constructor
  · rintro (z | z | z | ⟨j, hj, e, z⟩)
    · exact Or.inl z
    · exact Or.inr (Or.inl z)
    · exact Or.inr (Or.inr (Or.inl z))
    · refine Or.inr (Or.inr (Or.inr ⟨j, hj, e, ?_⟩))
      rcases z with z | z
      · exact Or.inl z
      · by_cases y : j = i
        · exact Or.inl (by rw [y]; exact h)
        · exact Or.inr (by omega)
  · rintro (z | z | z | ⟨j, hj, e, z⟩)
    · exact Or.inl z
    · exact Or.inr (Or.inl z)
    · exact Or.inr (Or.inr (Or.inl z))
    · exact Or.inr (Or.inr (Or.inr ⟨j, hj, e, z.imp id (fun y => by omega)⟩))
theorem X0_lo {r so : Nat → Nat} {nc i q : Nat} (h : q < 1100) : X0 r so nc i q ↔ (nP r q ∨ (1000 ≤ q ∧ q < 1000 + sgc so i)) := by
  unfold X0 wa wb
  constructor
  · rintro (z | z | ⟨j, _, e⟩ | ⟨j, _, e, _⟩)
    · exact Or.inl z
    · exact Or.inr z
    · omega
    · omega
  · rintro (z | z)
    · exact Or.inl z
    · exact Or.inr (Or.inl z)
theorem X0_wa {r so : Nat → Nat} {nc i j : Nat} (hs : sgc so i ≤ 16) : X0 r so nc i (wa j) ↔ j < nc := by
  unfold X0 wa wb
  constructor
  · rintro (z | z | ⟨k, hk, e⟩ | ⟨k, _, e, _⟩)
    · have := z.1; omega
    · omega
    · omega
    · omega
  · exact fun z => Or.inr (Or.inr (Or.inl ⟨j, z, rfl⟩))
theorem X0_wb {r so : Nat → Nat} {nc i j : Nat} (hs : sgc so i ≤ 16) : X0 r so nc i (wb j) ↔ (j < nc ∧ (so j = 2 ∨ j < i)) := by
  unfold X0 wa wb
  constructor
  · rintro (z | z | ⟨k, hk, e⟩ | ⟨k, hk, e, y⟩)
    · have := z.1; omega
    · omega
    · omega
    · have : j = k := by omega
      rw [this]
      exact ⟨hk, y⟩
  · exact fun z => Or.inr (Or.inr (Or.inr ⟨j, z.1, rfl, z.2⟩))
theorem rk_root (r wl : Nat → Nat) {k i : Nat} (hk : k < 16) (q : Nat) : rk (ur (ur r (14 + k) 1) (1630 + k) (wb i)) (ur wl (2 * i + 1) (1000 + k)) q = lk2 (rk r wl) (1000 + k) (wb i) q := by
  unfold lk2
  rw [ur_at, ur_at]
  unfold rk lk wb
  by_cases q1 : q = 1100 + 2 * i + 1
  · rw [if_pos q1, if_neg (by omega), ur_at, if_pos (by omega)]
  · rw [if_neg q1]
    by_cases q2 : q = 1000 + k
    · rw [if_pos q2, if_pos (by omega), ur_at, if_pos (by omega)]
    · rw [if_neg q2]
      by_cases q3 : q < 1100
      · rw [if_pos q3, if_pos q3, ur_n (by omega), ur_n (by omega)]
      · rw [if_neg q3, if_neg q3, ur_n (by omega)]
theorem roots_loop {so : Nat → Nat} {nc : Nat} (hn : nc ≤ 250) (hs16 : sgc so nc ≤ 16) (v1 : Int32) : ∀ (fuel i : Nat) (st : OSt) (r wl : Nat → Nat), i ≤ nc → nc - i < fuel → st.1 11 = nI nc → (∀ j, j < nc → st.2 13 j = nI (so j) ∧ (so j = 1 ∨ so j = 2)) → (∀ k, k < 500 → st.2 14 k = nI (wl k)) → MT (X0 r so nc i) (rk r wl) → (∀ k, k < 16 → r (14 + k) = if k < sgc so i then 1 else 0) →
    ∃ (st' : OSt) (r' wl' : Nat → Nat), m_rootsAll_53 fuel (sR st r) v1 (nI (sgc so i)) (nI i) = some (sR st' r') ∧ (∀ k, k < 500 → st'.2 14 k = nI (wl' k)) ∧ MT (X0 r so nc nc) (rk r' wl') ∧ (∀ k, k < 16 → r' (14 + k) = if k < sgc so nc then 1 else 0) ∧ (∀ j, j < 630 → ¬ (14 ≤ j ∧ j < 30) → r' j = r j) ∧ (∀ q, X0 r so nc i q → rk r' wl' q = rk r wl q) ∧ (∀ j, i ≤ j → j < nc → so j = 1 → rk r' wl' (wb j) = 1000 + sgc so j ∧ rk r' wl' (1000 + sgc so j) = wb j) ∧ st'.1 = st.1 ∧ (∀ k, k ≠ 14 → st'.2 k = st.2 k) := by
  intro fuel
  induction fuel with
  | zero => intro i _ _ _ _ h; omega
  | succ n ih =>
    intro i st r wl hi hf h11 h13 h14 hm hr
    by_cases q : i = nc
    · refine ⟨st, r, wl, ?_, h14, by rw [← q]; rw [q] at hm ⊢; exact hm, by rw [← q]; exact hr, fun _ _ _ => rfl, fun _ _ => rfl, fun j h1 h2 => by omega, rfl, fun _ _ => rfl⟩
      rw [m_rootsAll_53, sR_1, h11, if_pos (nI_le (by omega) (by omega))]
    have ilt : i < nc := by omega
    obtain ⟨e13, so12⟩ := h13 i ilt
    have m1 := sgc_mono so (i := i + 1) (n := nc) (by omega)
    have m0 := sgc_mono so (i := i) (n := nc) (by omega)
    rcases so12 with s1 | s2
    · have es := sgc_s1 s1
      obtain ⟨k, hk⟩ : ∃ k, k = sgc so i := ⟨_, rfl⟩
      have k16 : k < 16 := by omega
      obtain ⟨st1, hst1⟩ : ∃ u, u = sA st 14 (upd (st.2 14) (2 * i + 1) (nI (1000 + k))) := ⟨_, rfl⟩
      obtain ⟨r1, hr1⟩ : ∃ u, u = ur (ur r (14 + k) 1) (1630 + k) (wb i) := ⟨_, rfl⟩
      obtain ⟨wl1, hwl1⟩ : ∃ u, u = ur wl (2 * i + 1) (1000 + k) := ⟨_, rfl⟩
      have e : m_rootsAll_53 (n + 1) (sR st r) v1 (nI k) (nI i) = m_rootsAll_53 n (sR st1 r1) v1 (nI (k + 1)) (nI (i + 1)) := by
        rw [m_rootsAll_53]
        simp only [nm_eq]
        rw [sR_1, h11, if_neg (nI_ge (by omega) (by omega)), gd_nI (by omega) (by omega), nc_ (by omega), sR_o _ _ (by decide), e13, s1, if_pos (show nI 1 = (1 : Int32) from rfl), i14, nI_add, i2, pk_mul, i1630, nI_add, i1000, nI_add, i1100, nI_add, nI_1, nI_1, nI_1, nI_1, gd_nI (by omega) (by omega), gd_nI (by omega) (by omega), gd_nI (by omega) (by omega), nc_ (by omega), nc_ (by omega), nc_ (by omega), sR_2, i1, upd_nR, sR_A1, sR_o _ _ (by decide), sR_A _ _ (by decide), sR_2, upd_nR, sR_A1, hst1, hr1]
        rfl
      have rk1 : ∀ q, rk r1 wl1 q = lk2 (rk r wl) (1000 + k) (wb i) q := fun q => by rw [hr1, hwl1]; exact rk_root r wl k16 q
      have kn : ∀ j, 30 ≤ j → j < 330 → r1 j = r j := fun j h1 h2 => by rw [hr1, ur_n (by omega), ur_n (by omega)]
      have n1 : ¬ X0 r so nc i (1000 + k) := fun z => by
        rcases (X0_lo (by omega)).mp z with y | y
        · have := y.1; omega
        · omega
      have n2 : ¬ X0 r so nc i (wb i) := fun z => by
        have := (X0_wb (by omega)).mp z
        omega
      have n3 : 1000 + k ≠ wb i := by unfold wb; omega
      have hm1 : MT (X0 r1 so nc (i + 1)) (rk r1 wl1) := by
        refine (hm.add n1 n2 n3).cong (fun p => ?_) (fun p _ => rk1 p)
        rw [X0_r kn, X0_s1 s1 ilt, hk]
      have hr14 : ∀ j, j < 16 → r1 (14 + j) = if j < sgc so (i + 1) then 1 else 0 := fun j hj => by
        rw [hr1, ur_n (by omega), ur_at, es]
        by_cases y : j = k
        · rw [if_pos (by omega), if_pos (by omega)]
        · rw [if_neg (by omega), hr j hj]
          by_cases y2 : j < sgc so i
          · rw [if_pos y2, if_pos (by omega)]
          · rw [if_neg y2, if_neg (by omega)]
      have h14' : ∀ j, j < 500 → st1.2 14 j = nI (wl1 j) := fun j hj => by
        rw [hst1, hwl1, sA_2, if_pos rfl, upd_at, ur_at]
        split
        · rfl
        · exact h14 j hj
      obtain ⟨st', r', wl', f1, f2, f3, f4, f5, f6, f7, f8, f9⟩ := ih (i + 1) st1 r1 wl1 (by omega) (by omega) (by rw [hst1]; exact h11) (fun j hj => by rw [hst1, sA_2, if_neg (by decide)]; exact h13 j hj) h14' hm1 hr14
      rw [es, ← hk] at f1
      refine ⟨st', r', wl', by rw [← hk, e]; exact f1, f2, f3.cong (fun p => (X0_r kn p).symm) (fun _ _ => rfl), f4, fun j h1 h2 => ?_, fun p hp => ?_, fun j h1 h2 h3 => ?_, by rw [f8, hst1]; rfl, fun j hj => by rw [f9 j hj, hst1, sA_2, if_neg hj]⟩
      · rw [f5 j h1 h2, hr1, ur_n (by omega), ur_n (by omega)]
      · rw [f6 p ((X0_r kn p).mpr ((X0_s1 s1 ilt p).mpr (Or.inl hp))), rk1 p, lk2_o _ (show p ≠ 1000 + k from fun z => n1 (z ▸ hp)) (show p ≠ wb i from fun z => n2 (z ▸ hp))]
      · by_cases y : j = i
        · rw [y, ← hk, f6 _ ((X0_r kn _).mpr ((X0_s1 s1 ilt _).mpr (Or.inr (Or.inr rfl)))), f6 _ ((X0_r kn _).mpr ((X0_s1 s1 ilt _).mpr (Or.inr (Or.inl (by rw [hk]))))), rk1, rk1, lk2_b, lk2_a _ n3]
          exact ⟨rfl, rfl⟩
        · exact f7 j (by omega) h2 h3
    · have es := sgc_s2 s2
      have e : m_rootsAll_53 (n + 1) (sR st r) v1 (nI (sgc so i)) (nI i) = m_rootsAll_53 n (sR st r) v1 (nI (sgc so i)) (nI (i + 1)) := by
        rw [m_rootsAll_53]
        rw [sR_1, h11, if_neg (nI_ge (by omega) (by omega)), gd_nI (by omega) (by omega), nc_ (by omega), sR_o _ _ (by decide), e13, s2, if_neg (show ¬ nI 2 = (1 : Int32) by decide), nI_1]
      obtain ⟨st', r', wl', f1, f2, f3, f4, f5, f6, f7, f8, f9⟩ := ih (i + 1) st r wl (by omega) (by omega) h11 h13 h14 (hm.cong (X0_s2 s2) (fun _ _ => rfl)) (by rw [es]; exact hr)
      rw [es] at f1
      refine ⟨st', r', wl', by rw [e]; exact f1, f2, f3, f4, f5, fun p hp => f6 p ((X0_s2 s2 p).mpr hp), fun j h1 h2 h3 => ?_, f8, f9⟩
      by_cases y : j = i
      · rw [y] at h3; omega
      · exact f7 j (by omega) h2 h3
