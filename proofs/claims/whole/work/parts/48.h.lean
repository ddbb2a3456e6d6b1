/-! the reference's way to reduce: which of the four, alike ones -/
def oI (f : Nat → Int32) (v : Int32) : Int32 := if f 0 = v then nI 0 else if f 1 = v then nI 1 else if f 2 = v then nI 2 else if f 3 = v then nI 3 else -1
theorem m_oldOf_eq (st : OSt) (v : Int32) : m_oldOf st v = some (oI (st.2 20) v) := by
  have step : ∀ (n k : Nat), k < 4 → m_oldOf_2 (n + 1) st v (nI k) = if st.2 20 k = v then some (nI k) else m_oldOf_2 n st v (nI (k + 1)) := by
    intro n k hk
    rw [m_oldOf_2, if_neg (show ¬ (4 : Int32) ≤ nI k from nI_ge (b := 4) hk (by omega)), gd_nI hk (by omega), nc (by omega), nI_1]
  have last : ∀ n : Nat, m_oldOf_2 (n + 1) st v (nI 4) = some (-1) := by
    intro n
    rw [m_oldOf_2, if_pos (show (4 : Int32) ≤ nI 4 from nI_le (a := 4) (b := 4) (Nat.le_refl _) (by omega))]
  unfold m_oldOf oI
  show m_oldOf_2 (19995 + 1 + 1 + 1 + 1 + 1) st v (nI 0) = _
  rw [step _ 0 (by omega), step _ (0 + 1) (by omega), step _ (0 + 1 + 1) (by omega), step _ (0 + 1 + 1 + 1) (by omega), last]
  by_cases a : st.2 20 0 = v
  · rw [if_pos a, if_pos a]
  · rw [if_neg a, if_neg a]
    by_cases b : st.2 20 1 = v
    · rw [if_pos b, if_pos b]
    · rw [if_neg b, if_neg b]
      by_cases c : st.2 20 2 = v
      · rw [if_pos c, if_pos c]
      · rw [if_neg c, if_neg c]
        by_cases d : st.2 20 3 = v
        · rw [if_pos d, if_pos d]
        · rw [if_neg d, if_neg d]
theorem oI_e {f : Nat → Int32} {v : Int32} (h : ∀ k, k < 4 → f k ≠ v) : oI f v = -1 := by
  unfold oI
  rw [if_neg (h 0 (by omega)), if_neg (h 1 (by omega)), if_neg (h 2 (by omega)), if_neg (h 3 (by omega))]
theorem oI_j {f : Nat → Int32} {v : Int32} {j : Nat} (hj : j < 4) (h : f j = v) (hn : ∀ k, k < j → f k ≠ v) : oI f v = nI j := by
  unfold oI
  match j, hj, h, hn with
  | 0, _, h, _ => rw [if_pos h]
  | 1, _, h, hn => rw [if_neg (hn 0 (by omega)), if_pos h]
  | 2, _, h, hn => rw [if_neg (hn 0 (by omega)), if_neg (hn 1 (by omega)), if_pos h]
  | 3, _, h, hn => rw [if_neg (hn 0 (by omega)), if_neg (hn 1 (by omega)), if_neg (hn 2 (by omega)), if_pos h]
theorem nb1 : vp_nar .boolean 1 = 1 := by decide
theorem nb0 : vp_nar .boolean 0 = 0 := by decide
/-- the state with what is passed -/
def sP (st : OSt) (P : Nat → Int32) (r : Nat → Nat) : OSt := sR (sA st 23 P) r
theorem sP_A (st : OSt) (P Q : Nat → Int32) (r : Nat → Nat) : sA (sP st P r) 23 Q = sP st Q r := by
  unfold sP
  rw [sR_A _ _ (by decide), sA_sA]
theorem sP_23 (st : OSt) (P : Nat → Int32) (r : Nat → Nat) : (sP st P r).2 23 = P := rfl
theorem sP_21 (st : OSt) (P : Nat → Int32) (r : Nat → Nat) : (sP st P r).2 21 = st.2 21 := rfl
theorem sP_20 (st : OSt) (P : Nat → Int32) (r : Nat → Nat) : (sP st P r).2 20 = st.2 20 := rfl
theorem over_ok {k : Nat} (hk : k < 4) : (nI k + 2) - (nI k + 2) / 4 * 4 = nI ((k + 2) % 4) := by
  rw [i2, i4, nI_add, n_div (by omega) (by omega) (by omega), pk_mul, n_sub (by omega), sub_dm]
theorem s2_ok (st : OSt) (r : Nat → Nat) : ∃ P, m_strips_2 20000 (sR st r) 0 = some (sP st P r) ∧ ∀ k, k < 4 → P k = 0 := by
  have key : ∀ (fuel k : Nat) (P : Nat → Int32), k ≤ 4 → 4 - k < fuel → (∀ j, j < k → P j = 0) → ∃ Q, m_strips_2 fuel (sP st P r) (nI k) = some (sP st Q r) ∧ ∀ j, j < 4 → Q j = 0 := by
    intro fuel
    induction fuel with
    | zero => intro k P _ h; omega
    | succ n ih =>
      intro k P hk hf h0
      rw [m_strips_2]
      by_cases q : k = 4
      · subst q
        rw [if_pos (show (4 : Int32) ≤ nI 4 from nI_le (a := 4) (b := 4) (Nat.le_refl _) (by omega))]
        exact ⟨P, rfl, h0⟩
      · rw [if_neg (show ¬ (4 : Int32) ≤ nI k from nI_ge (b := 4) (by omega) (by omega)), gd_nI (by omega) (by omega), nm_eq, nc (by omega), nI_1, sP_A, sP_23]
        refine ih (k + 1) _ (by omega) (by omega) (fun j hj => ?_)
        rw [upd_at]
        split
        · exact nb0
        · exact h0 j (by omega)
  have e : sR st r = sP st (st.2 23) r := by
    unfold sP sR sA
    refine Prod.ext rfl ?_
    funext j
    simp only [vf_upd]
    by_cases a : j = 1
    · rw [if_pos a, if_pos a]
    · rw [if_neg a, if_neg a]
      by_cases b : j = 23
      · rw [if_pos b, b]
      · rw [if_neg b]
  rw [e]
  exact key 20000 0 (st.2 23) (by omega) (by omega) (fun j hj => absurd hj (Nat.not_lt_zero _))
section SS
variable {st : OSt} {P Q : Nat → Int32} {r : Nat → Nat} {n k : Nat} {v : Int32}
theorem s54_e (hk : k < 4) {b : Nat} (hb : b < 1016) (hw : st.2 21 ((k + 2) % 4) = nI b) (ho : oI (st.2 20) (nI b) = -1) : m_strips_54 (n + 1 + 1) (sP st P r) v (nI k) (-1) = some (sP st (upd (upd P k 1) ((k + 2) % 4) 1) r, nI b) := by
  rw [m_strips_54, if_pos rfl, nm_eq, over_ok hk, gd_nI hk (by omega), nm_eq, gd_nI (by omega) (by omega), nm_eq, gd_nI (by omega) (by omega), nc (by omega), nc (by omega), sP_A, sP_23, sP_A, sP_23, sP_21, hw, m_oldOf_eq, sP_20, bd_s, ho, if_pos rfl, gd_nI (by omega) (by omega), nm_eq, m_strips_54, if_neg (ne_m1 (by omega)), nb1]
theorem s54_i (hk : k < 4) {j : Nat} (hj : j < 4) {w : Int32} (hw : st.2 21 ((k + 2) % 4) = w) (ho : oI (st.2 20) w = nI j) : m_strips_54 (n + 1) (sP st P r) v (nI k) (-1) = m_strips_54 n (sP st (upd (upd P k 1) ((k + 2) % 4) 1) r) v (nI j) (-1) := by
  rw [m_strips_54, if_pos rfl, nm_eq, over_ok hk, gd_nI hk (by omega), nm_eq, gd_nI (by omega) (by omega), nm_eq, gd_nI (by omega) (by omega), nc (by omega), nc (by omega), sP_A, sP_23, sP_A, sP_23, sP_21, hw, m_oldOf_eq, sP_20, bd_s, ho, if_neg (ne_m1 (by omega)), nb1]
theorem s22_z : m_strips_22 (n + 1) (sP st P r) (nI 4) = some (sP st P r) := by
  rw [m_strips_22, if_pos (show (4 : Int32) ≤ nI 4 from nI_le (a := 4) (b := 4) (Nat.le_refl _) (by omega))]
theorem s22_p (hk : k < 4) (hp : P k = 1) : m_strips_22 (n + 1) (sP st P r) (nI k) = m_strips_22 n (sP st P r) (nI (k + 1)) := by
  rw [m_strips_22, if_neg (show ¬ (4 : Int32) ≤ nI k from nI_ge (b := 4) hk (by omega)), gd_nI hk (by omega), nc (by omega), sP_23, hp, if_neg (by decide), nI_1]
theorem s22_i (hk : k < 4) (hp : P k = 0) {j : Nat} (hj : j < 4) {w : Int32} (hw : st.2 21 k = w) (ho : oI (st.2 20) w = nI j) : m_strips_22 (n + 1) (sP st P r) (nI k) = m_strips_22 n (sP st P r) (nI (k + 1)) := by
  rw [m_strips_22, if_neg (show ¬ (4 : Int32) ≤ nI k from nI_ge (b := 4) hk (by omega)), gd_nI hk (by omega), nc (by omega), sP_23, hp, if_pos rfl, gd_nI hk (by omega), sP_21, hw, m_oldOf_eq, sP_20, bd_s, ho, if_neg (ne_m1 (by omega)), nI_1]
theorem s22_e (hk : k < 4) (hp : P k = 0) {a b : Nat} (ha : a < 1016) (hb : b < 1016) (hw : st.2 21 k = nI a) (ho : oI (st.2 20) (nI a) = -1) (h54 : m_strips_54 20000 (sP st P r) (nI k) (nI k) (-1) = some (sP st Q r, nI b)) : m_strips_22 (n + 1) (sP st P r) (nI k) = m_strips_22 n (sP st Q (aL r a b)) (nI (k + 1)) := by
  rw [m_strips_22, if_neg (show ¬ (4 : Int32) ≤ nI k from nI_ge (b := 4) hk (by omega)), gd_nI hk (by omega), nc (by omega), sP_23, hp, if_pos rfl, gd_nI hk (by omega), sP_21, hw, m_oldOf_eq, sP_20, bd_s, ho, if_pos rfl, h54, bd_s, gd_nI hk (by omega), sP_21, hw]
  rw [show m_links (sP st Q r) (nI a) (nI b) = some (sP st Q (aL r a b)) from m_links_ok ha hb, bd_s, nI_1]
theorem s159_z (hk : k < 4) (hp : P k = 1) : m_strips_159 (n + 1) (sP st P r) v (nI k) = some (sP st P r) := by
  rw [m_strips_159, gd_nI hk (by omega), nc (by omega), sP_23, hp, if_neg (by decide)]
theorem s159_s (hk : k < 4) (hp : P k = 0) {j : Nat} (hj : j < 4) {w : Int32} (hw : st.2 21 ((k + 2) % 4) = w) (ho : oI (st.2 20) w = nI j) : m_strips_159 (n + 1) (sP st P r) v (nI k) = m_strips_159 n (sP st (upd (upd P k 1) ((k + 2) % 4) 1) r) v (nI j) := by
  rw [m_strips_159, gd_nI hk (by omega), nc (by omega), sP_23, hp, if_pos rfl, nm_eq, over_ok hk, gd_nI hk (by omega), nm_eq, gd_nI (by omega) (by omega), nm_eq, gd_nI (by omega) (by omega), nc (by omega), sP_A, sP_A, sP_23, sP_21, hw, m_oldOf_eq, sP_20, bd_s, ho, nb1]
theorem s132_z : m_strips_132 (n + 1) (sP st P r) (nI 2) = some (sP st P r) := by
  rw [m_strips_132, if_pos (show (2 : Int32) ≤ nI 2 from nI_le (a := 2) (b := 2) (Nat.le_refl _) (by omega))]
theorem s132_p (hk : k < 2) (hp : P k = 1) : m_strips_132 (n + 1) (sP st P r) (nI k) = m_strips_132 n (sP st P r) (nI (k + 1)) := by
  rw [m_strips_132, if_neg (show ¬ (2 : Int32) ≤ nI k from nI_ge (b := 2) hk (by omega)), gd_nI (by omega) (by omega), nc (by omega), sP_23, hp, if_neg (by decide), nI_1]
theorem s132_l (hk : k < 2) (hp : P k = 0) (h : m_strips_159 20000 (sP st P (ur r 7 (r 7 + 1))) (nI k) (nI k) = some (sP st Q (ur r 7 (r 7 + 1)))) : m_strips_132 (n + 1) (sP st P r) (nI k) = m_strips_132 n (sP st Q (ur r 7 (r 7 + 1))) (nI (k + 1)) := by
  rw [m_strips_132, if_neg (show ¬ (2 : Int32) ≤ nI k from nI_ge (b := 2) hk (by omega)), gd_nI (by omega) (by omega), nc (by omega), sP_23, hp, if_pos rfl, nm_eq]
  rw [show (sP st P r).2 1 = nR r from rfl, nR_at, nI_1, upd_nR, show sA (sP st P r) 1 (nR (ur r 7 (r 7 + 1))) = sP st P (ur r 7 (r 7 + 1)) from sR_A1 _ _ _, h, bd_s, nI_1]
end SS
