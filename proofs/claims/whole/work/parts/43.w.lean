/-! the net's row of numbers: what is free, nodes made and freed -/
def WM (r : Nat → Nat) : Prop :=
  (r 0 ≤ 300 ∧ r 4 = r 1 + r 5 ∧ r 4 ≤ r 0) ∧ (∀ n, n < 300 → r (30 + n) ≤ 3 ∧ (0 < r (30 + n) → n < r 4)) ∧ (∀ k, k < r 5 → r (330 + k) < r 4 ∧ r (30 + r (330 + k)) = 0) ∧ (∀ k j, k < j → j < r 5 → r (330 + k) ≠ r (330 + j))
theorem WM.pos {r : Nat → Nat} (h : WM r) {x : Nat} (hx : x < 300) (hk : 0 < r (30 + x)) : 0 < r 1 ∧ r 5 < 300 ∧ x < r 4 := by
  obtain ⟨⟨h0, h1, h2⟩, h3, h4, h5⟩ := h
  have hx4 := (h3 x hx).2 hk
  have : 0 < r 1 := by
    refine Classical.byContradiction fun q => ?_
    have e : r 5 = r 4 := by omega
    obtain ⟨i, hi, ei⟩ := fb_onto (n := r 4) (f := fun k => r (330 + k)) (fun i hi => (h4 i (by omega)).1) (fun i j hij hj => h5 i j hij (by omega)) hx4
    have := (h4 i (by omega)).2
    rw [ei] at this
    omega
  exact ⟨this, by omega, hx4⟩
/-- the number that is given next -/
def mN (r : Nat → Nat) : Nat := if r 5 = 0 then r 4 else r (330 + (r 5 - 1))
def mA (r : Nat → Nat) : Nat → Nat := if r 5 = 0 then ur r 4 (r 4 + 1) else ur r 5 (r 5 - 1)
def mK (r : Nat → Nat) (k : Nat) : Nat → Nat := ur (ur (ur (mA r) (30 + mN r) (k + 1)) 1 (r 1 + 1)) 2 (r 2 + 1)
theorem mA_o {r : Nat → Nat} {j : Nat} (h4 : j ≠ 4) (h5 : j ≠ 5) : mA r j = r j := by
  unfold mA
  split
  · exact ur_n h4
  · exact ur_n h5
theorem mN_lt {r : Nat → Nat} (h : WM r) (hr : r 1 < r 0) : mN r < 300 ∧ mN r < r 0 ∧ r (30 + mN r) = 0 := by
  obtain ⟨⟨h0, h1, h2⟩, h3, h4, h5⟩ := h
  unfold mN
  by_cases q : r 5 = 0
  · rw [if_pos q]
    refine ⟨by omega, by omega, ?_⟩
    refine Classical.byContradiction fun z => ?_
    have := (h3 (r 4) (by omega)).2 (by omega)
    omega
  · rw [if_neg q]
    have := h4 (r 5 - 1) (by omega)
    exact ⟨by omega, by omega, this.2⟩
theorem mK_o {r : Nat → Nat} {k j : Nat} (h1 : j ≠ 1) (h2 : j ≠ 2) (h4 : j ≠ 4) (h5 : j ≠ 5) (hn : j ≠ 30 + mN r) : mK r k j = r j := by
  unfold mK
  rw [ur_n h2, ur_n h1, ur_n hn, mA_o h4 h5]
theorem mK_1 (r : Nat → Nat) (k : Nat) : mK r k 1 = r 1 + 1 := by
  unfold mK
  rw [ur_n (by omega), ur_s]
theorem mK_2 (r : Nat → Nat) (k : Nat) : mK r k 2 = r 2 + 1 := ur_s
theorem mK_n (r : Nat → Nat) (k : Nat) : mK r k (30 + mN r) = k + 1 := by
  unfold mK
  rw [ur_n (by omega), ur_n (by omega), ur_s]
theorem mK_4 (r : Nat → Nat) (k : Nat) : mK r k 4 = if r 5 = 0 then r 4 + 1 else r 4 := by
  unfold mK mA
  rw [ur_n (by omega), ur_n (by omega), ur_n (by omega)]
  split
  · exact ur_s
  · exact ur_n (by omega)
theorem mK_5 (r : Nat → Nat) (k : Nat) : mK r k 5 = r 5 - 1 := by
  unfold mK mA
  rw [ur_n (by omega), ur_n (by omega), ur_n (by omega)]
  split
  · rename_i q; rw [ur_n (by omega), q]
  · exact ur_s
theorem mK_k {r : Nat → Nat} {k n : Nat} : mK r k (30 + n) = if n = mN r then k + 1 else r (30 + n) := by
  by_cases q : n = mN r
  · rw [if_pos q, q, mK_n]
  · rw [if_neg q, mK_o (by omega) (by omega) (by omega) (by omega) (by omega)]
theorem mK_l {r : Nat → Nat} {k p : Nat} (hn : mN r < 300) : mK r k (330 + p) = r (330 + p) := mK_o (by omega) (by omega) (by omega) (by omega) (by omega)
theorem mK_s {r : Nat → Nat} {k j : Nat} (h : 6 ≤ j) (h2 : j < 30) : mK r k j = r j := mK_o (by omega) (by omega) (by omega) (by omega) (by omega)
theorem mK_WM {r : Nat → Nat} (h : WM r) (hr : r 1 < r 0) {k : Nat} (hk : k ≤ 2) : WM (mK r k) := by
  have hn := mN_lt h hr
  obtain ⟨⟨h0, h1, h2⟩, h3, h4, h5⟩ := h
  have e0 : mK r k 0 = r 0 := mK_o (by omega) (by omega) (by omega) (by omega) (by omega)
  have e4 := mK_4 r k
  have e5 := mK_5 r k
  have e1 := mK_1 r k
  have hm : mN r = if r 5 = 0 then r 4 else r (330 + (r 5 - 1)) := rfl
  have a4 : r 4 ≤ mK r k 4 := by rw [e4]; split <;> omega
  refine ⟨⟨by rw [e0]; exact h0, ?_, ?_⟩, ?_, ?_, ?_⟩
  · rw [e4, e1, e5]
    split <;> omega
  · rw [e4, e0]
    split <;> omega
  · intro n hn'
    rw [mK_k]
    have h3n := h3 n hn'
    by_cases q : n = mN r
    · rw [if_pos q]
      refine ⟨by omega, fun _ => ?_⟩
      rw [e4, q, hm]
      by_cases z : r 5 = 0
      · rw [if_pos z, if_pos z]; omega
      · rw [if_neg z, if_neg z]
        exact (h4 _ (by omega)).1
    · rw [if_neg q]
      exact ⟨h3n.1, fun z => Nat.lt_of_lt_of_le (h3n.2 z) a4⟩
  · intro j hj
    rw [e5] at hj
    have hj4 := h4 j (by omega)
    rw [mK_l hn.1, mK_k]
    refine ⟨Nat.lt_of_lt_of_le hj4.1 a4, ?_⟩
    rw [if_neg]
    · exact hj4.2
    · rw [hm, if_neg (by omega)]
      exact h5 j (r 5 - 1) (by omega) (by omega)
  · intro i j hij hj
    rw [e5] at hj
    rw [mK_l hn.1, mK_l hn.1]
    exact h5 i j hij (by omega)
/-- a node is freed -/
def fK (r : Nat → Nat) (x : Nat) : Nat → Nat := ur (ur (ur (ur (ur r (30 + x) 0) (330 + r 5) x) 5 (r 5 + 1)) 1 (r 1 - 1)) 3 (r 3 + 1)
theorem fK_o {r : Nat → Nat} {x j : Nat} (h1 : j ≠ 1) (h3 : j ≠ 3) (h5 : j ≠ 5) (hs : j ≠ 330 + r 5) (hn : j ≠ 30 + x) : fK r x j = r j := by
  unfold fK
  rw [ur_n h3, ur_n h1, ur_n h5, ur_n hs, ur_n hn]
theorem fK_1 (r : Nat → Nat) (x : Nat) : fK r x 1 = r 1 - 1 := by
  unfold fK
  rw [ur_n (by omega), ur_s]
theorem fK_3 (r : Nat → Nat) (x : Nat) : fK r x 3 = r 3 + 1 := ur_s
theorem fK_5 (r : Nat → Nat) (x : Nat) : fK r x 5 = r 5 + 1 := by
  unfold fK
  rw [ur_n (by omega), ur_n (by omega), ur_s]
theorem fK_k {r : Nat → Nat} {x n : Nat} (hx : x < 300) (hn : n < 300) : fK r x (30 + n) = if n = x then 0 else r (30 + n) := by
  by_cases q : n = x
  · subst q
    rw [if_pos rfl]
    unfold fK
    rw [ur_n (by omega), ur_n (by omega), ur_n (by omega), ur_n (by omega), ur_s]
  · rw [if_neg q, fK_o (by omega) (by omega) (by omega) (by omega) (by omega)]
theorem fK_t {r : Nat → Nat} {x k : Nat} (hx : x < 300) : fK r x (330 + k) = if k = r 5 then x else r (330 + k) := by
  by_cases q : k = r 5
  · subst q
    rw [if_pos rfl]
    unfold fK
    rw [ur_n (by omega), ur_n (by omega), ur_n (by omega), ur_s]
  · rw [if_neg q, fK_o (by omega) (by omega) (by omega) (by omega) (by omega)]
theorem fK_l {r : Nat → Nat} {x p : Nat} (hx : x < 300) (h5 : r 5 < 300) : fK r x (630 + p) = r (630 + p) := fK_o (by omega) (by omega) (by omega) (by omega) (by omega)
theorem fK_s {r : Nat → Nat} {x j : Nat} (h : 6 ≤ j) (h2 : j < 30) : fK r x j = r j := fK_o (by omega) (by omega) (by omega) (by omega) (by omega)
theorem fK_WM {r : Nat → Nat} (h : WM r) {x : Nat} (hx : x < 300) (hk : 0 < r (30 + x)) : WM (fK r x) := by
  have hp := h.pos hx hk
  obtain ⟨⟨h0, h1, h2⟩, h3, h4, h5⟩ := h
  have e0 : fK r x 0 = r 0 := fK_o (by omega) (by omega) (by omega) (by omega) (by omega)
  have e4 : fK r x 4 = r 4 := fK_o (by omega) (by omega) (by omega) (by omega) (by omega)
  have e5 := fK_5 r x
  have e1 := fK_1 r x
  refine ⟨⟨by rw [e0]; exact h0, by rw [e4, e1, e5]; omega, by rw [e4, e0]; exact h2⟩, ?_, ?_, ?_⟩
  · intro n hn
    rw [fK_k hx hn, e4]
    have h3n := h3 n hn
    split
    · exact ⟨by omega, fun z => absurd z (Nat.lt_irrefl 0)⟩
    · exact h3n
  · intro k hk5
    rw [e5] at hk5
    rw [fK_t hx, e4]
    by_cases q : k = r 5
    · rw [if_pos q, fK_k hx hx, if_pos rfl]
      exact ⟨hp.2.2, rfl⟩
    · rw [if_neg q]
      have h4k := h4 k (by omega)
      rw [fK_k hx (by omega)]
      refine ⟨h4k.1, ?_⟩
      split
      · rfl
      · exact h4k.2
  · intro i j hij hj
    rw [e5] at hj
    rw [fK_t hx, fK_t hx, if_neg (show i ≠ r 5 by omega)]
    by_cases q : j = r 5
    · rw [if_pos q]
      intro e
      have := (h4 i (by omega)).2
      rw [e] at this
      omega
    · rw [if_neg q]
      exact h5 i j hij (by omega)
/-- the reference's small methods, on its row -/
theorem m_linkOf_ok {st : OSt} {r : Nat → Nat} {a : Nat} (ha : a < 1016) : m_linkOf (sR st r) (nI a) = some (nI (r (630 + a))) := by
  unfold m_linkOf
  rw [i630, nI_add, gd_nI (by omega) (by omega), nc (by omega), sR_2, nR_at]
theorem m_kindOf_ok {st : OSt} {r : Nat → Nat} {n : Nat} (h : n < 300) (hk : 0 < r (30 + n)) : m_kindOf (sR st r) (nI n) = some (nI (r (30 + n) - 1)) := by
  unfold m_kindOf
  rw [i30, nI_add, gd_nI (by omega) (by omega), nc (by omega), sR_2, nR_at, i1, n_sub hk]
theorem m_isNode_ok {st : OSt} {r : Nat → Nat} {n : Nat} (h : n < 300) (hk : r (30 + n) ≤ 3) : m_isNode (sR st r) (nI n) = some (if 0 < r (30 + n) then 1 else 0) := by
  unfold m_isNode m_within
  rw [if_neg (nI_pos (by omega)), if_neg (show ¬ (299 : Int32) < nI n from nI_nlt (a := 299) (by omega) (by omega)), bd_s, if_neg (by decide), i30, nI_add, gd_nI (by omega) (by omega), nc (by omega), sR_2, nR_at]
  by_cases q : 0 < r (30 + n)
  · rw [if_neg (show ¬ nI (r (30 + n)) ≤ (0 : Int32) from nI_ge (a := 0) q (by omega)), if_pos q]
  · rw [if_pos (show nI (r (30 + n)) ≤ (0 : Int32) from nI_le (b := 0) (by omega) (by omega)), if_neg q]
def aL (r : Nat → Nat) (a b : Nat) : Nat → Nat := ur (ur r (630 + a) b) (630 + b) a
theorem m_links_ok {st : OSt} {r : Nat → Nat} {a b : Nat} (ha : a < 1016) (hb : b < 1016) : m_links (sR st r) (nI a) (nI b) = some (sR st (aL r a b)) := by
  unfold m_links
  rw [i630, nI_add, nI_add, gd_nI (by omega) (by omega), nm_eq, gd_nI (by omega) (by omega), nm_eq, nc (by omega), nc (by omega), sR_2, upd_nR, sR_A1, sR_2, upd_nR, sR_A1]
  rfl
theorem m_hasRoom_ok {st : OSt} {r : Nat → Nat} {a : Nat} (ha : a < 1000) (h0 : r 0 ≤ 300) (h1 : r 1 ≤ 300) : m_hasRoom (sR st r) (nI a) = some (if r 1 + a ≤ r 0 then 1 else 0) := by
  unfold m_hasRoom
  rw [sR_2, nR_at, nR_at, nI_add]
  by_cases q : r 1 + a ≤ r 0
  · rw [if_neg (nI_nlt q (by omega)), if_pos q]
  · rw [if_pos (nI_lt (by omega) (by omega)), if_neg q]
theorem m_makes_ok {st : OSt} {r : Nat → Nat} (h : WM r) (hr : r 1 < r 0) {k : Nat} : m_makes (sR st r) (nI k) = some (nI (mN r), sR st (mK r k)) := by
  have hn := mN_lt h hr
  obtain ⟨⟨h0, h1, h2⟩, -⟩ := h
  have e55 : ∀ t : Nat → Nat, m_makes_55 (sR st t) (nI k) (nI (mN r)) = some (nI (mN r), sR st (ur (ur (ur t (30 + mN r) (k + 1)) 1 (t 1 + 1)) 2 (t 2 + 1))) := by
    intro t
    unfold m_makes_55
    simp only [nm_eq]
    rw [i30, nI_add, gd_nI (by omega) (by omega), nc (by omega), sR_2, nI_1, upd_nR, sR_A1, sR_2, nR_at, nI_1, upd_nR, sR_A1, sR_2, nR_at, nI_1, upd_nR, sR_A1]
    rw [ur_n (show 1 ≠ 30 + mN r by omega), ur_n (show 2 ≠ 1 by omega), ur_n (show 2 ≠ 30 + mN r by omega)]
  unfold m_makes
  simp only [nm_eq]
  rw [sR_2, nR_at, nR_at]
  by_cases q : r 5 = 0
  · have em : mN r = r 4 := by unfold mN; rw [if_pos q]
    rw [if_pos (show nI (r 5) ≤ (0 : Int32) from nI_le (b := 0) (by omega) (by omega)), nI_1, upd_nR, sR_A1, ← em, e55]
    unfold mK mA
    rw [if_pos q, em, ur_n (show 1 ≠ 4 by omega), ur_n (show 2 ≠ 4 by omega)]
  · have em : mN r = r (330 + (r 5 - 1)) := by unfold mN; rw [if_neg q]
    rw [if_neg (show ¬ nI (r 5) ≤ (0 : Int32) from nI_ge (a := 0) (by omega) (by omega)), i1, n_sub (by omega), upd_nR, sR_A1, sR_2, nR_at, ur_s, i330, nI_add, gd_nI (by omega) (by omega), nc (by omega), nR_at, ur_n (show 330 + (r 5 - 1) ≠ 5 by omega), ← em, e55]
    unfold mK mA
    rw [if_neg q, ur_n (show 1 ≠ 5 by omega), ur_n (show 2 ≠ 5 by omega)]
theorem m_frees_ok {st : OSt} {r : Nat → Nat} (h : WM r) {x : Nat} (hx : x < 300) (hk : 0 < r (30 + x)) : m_frees (sR st r) (nI x) = some (sR st (fK r x)) := by
  have hp := h.pos hx hk
  unfold m_frees
  simp only [nm_eq]
  rw [i30, nI_add, gd_nI (by omega) (by omega), nc (by omega), sR_2, i0, upd_nR, sR_A1, sR_2, nR_at, ur_n (show 5 ≠ 30 + x by omega), i330, nI_add, gd_nI (by omega) (by omega), nc (by omega), upd_nR, sR_A1, sR_2, nR_at, ur_n (show 5 ≠ 330 + r 5 by omega), ur_n (show 5 ≠ 30 + x by omega), nI_1, upd_nR, sR_A1, sR_2, nR_at, ur_n (show 1 ≠ 5 by omega), ur_n (show 1 ≠ 330 + r 5 by omega), ur_n (show 1 ≠ 30 + x by omega), i1, n_sub (by omega), upd_nR, sR_A1, sR_2, nR_at, ur_n (show 3 ≠ 1 by omega), ur_n (show 3 ≠ 5 by omega), ur_n (show 3 ≠ 330 + r 5 by omega), ur_n (show 3 ≠ 30 + x by omega), nI_add, upd_nR, sR_A1]
  rfl
