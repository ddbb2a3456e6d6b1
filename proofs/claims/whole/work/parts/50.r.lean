/-! the reference's way to reduce: the four places, hands -/
/-- the rest of the reference's object but for its four rows of four -/
def FS (st st' : OSt) : Prop := st'.1 = st.1 ∧ ∀ k, k ≠ 20 → k ≠ 21 → k ≠ 22 → k ≠ 23 → st'.2 k = st.2 k
theorem FS.rf (st : OSt) : FS st st := ⟨rfl, fun _ _ _ _ _ => rfl⟩
theorem FS.tr {a b c : OSt} (h : FS a b) (g : FS b c) : FS a c := ⟨g.1.trans h.1, fun k h1 h2 h3 h4 => (g.2 k h1 h2 h3 h4).trans (h.2 k h1 h2 h3 h4)⟩
theorem FS.A (st : OSt) {j : Nat} (hj : j = 20 ∨ j = 21 ∨ j = 22 ∨ j = 23) (f : Nat → Int32) : FS st (sA st j f) := ⟨rfl, fun k h1 h2 h3 h4 => by
  rw [sA_2, if_neg (by omega)]⟩
def oo (one two k : Nat) : Nat := if k < 2 then 3 * one + 1 + k % 2 else 3 * two + 1 + k % 2
theorem oo_lt {one two k : Nat} (h1 : one < 300) (h2 : two < 300) : oo one two k < 900 := by
  unfold oo
  split <;> omega
theorem m94_ok {st : OSt} {r : Nat → Nat} {v1 v2 v3 : Int32} {one two : Nat} (h1 : one < 300) (h2 : two < 300) : ∃ st', m_reduces_94 20000 (sR st r) v1 v2 v3 (nI one) (nI two) 0 = some (sR st' r) ∧ FS st st' ∧ (∀ k, k < 4 → st'.2 20 k = nI (oo one two k) ∧ st'.2 21 k = nI (r (630 + oo one two k))) := by
  have key : ∀ (fuel k : Nat) (st : OSt), k ≤ 4 → 4 - k < fuel → (∀ j, j < k → st.2 20 j = nI (oo one two j) ∧ st.2 21 j = nI (r (630 + oo one two j))) → ∃ st', m_reduces_94 fuel (sR st r) v1 v2 v3 (nI one) (nI two) (nI k) = some (sR st' r) ∧ FS st st' ∧ (∀ k, k < 4 → st'.2 20 k = nI (oo one two k) ∧ st'.2 21 k = nI (r (630 + oo one two k))) := by
    intro fuel
    induction fuel with
    | zero => intro k st _ h; omega
    | succ n ih =>
      intro k st hk hf h0
      rw [m_reduces_94]
      by_cases q : k = 4
      · subst q
        rw [if_pos (show (4 : Int32) ≤ nI 4 from nI_le (a := 4) (b := 4) (Nat.le_refl _) (by omega))]
        exact ⟨st, rfl, FS.rf st, h0⟩
      · have ol := oo_lt (k := k) h1 h2
        have fin : ∃ st', m_reduces_94 n (sR (sA (sA st 20 (upd (st.2 20) k (nI (oo one two k)))) 21 (upd (st.2 21) k (nI (r (630 + oo one two k))))) r) v1 v2 v3 (nI one) (nI two) (nI (k + 1)) = some (sR st' r) ∧ FS st st' ∧ (∀ k, k < 4 → st'.2 20 k = nI (oo one two k) ∧ st'.2 21 k = nI (r (630 + oo one two k))) := by
          obtain ⟨st', e, f, g⟩ := ih (k + 1) (sA (sA st 20 (upd (st.2 20) k (nI (oo one two k)))) 21 (upd (st.2 21) k (nI (r (630 + oo one two k))))) (by omega) (by omega) (by
            intro j hj
            have a1 : (sA (sA st 20 (upd (st.2 20) k (nI (oo one two k)))) 21 (upd (st.2 21) k (nI (r (630 + oo one two k))))).2 20 = upd (st.2 20) k (nI (oo one two k)) := rfl
            have a2 : (sA (sA st 20 (upd (st.2 20) k (nI (oo one two k)))) 21 (upd (st.2 21) k (nI (r (630 + oo one two k))))).2 21 = upd (st.2 21) k (nI (r (630 + oo one two k))) := rfl
            rw [a1, a2, upd_at, upd_at]
            by_cases z : j = k
            · rw [if_pos z, if_pos z, z]
              exact ⟨rfl, rfl⟩
            · rw [if_neg z, if_neg z]
              exact h0 j (by omega))
          exact ⟨st', e, ((FS.A st (Or.inl rfl) _).tr (FS.A _ (Or.inr (Or.inl rfl)) _)).tr f, g⟩
        have stp : ∀ a : Nat, 3 * a + 1 + k % 2 = oo one two k → ((gd (nI k) 4 (nm (sA (sR st r) 20 (upd ((sR st r).2 20) (nI k).toNatClampNeg (((3 * nI a) + 1) + (nI k - nI k / 2 * 2)))) fun s41 => gd (nI k) 4 (bd (m_linkOf s41 (s41.2 20 (nI k).toNatClampNeg)) fun x42 => gd (nI k) 4 (nm (sA s41 21 (upd (s41.2 21) (nI k).toNatClampNeg x42)) fun s43 => m_reduces_94 n s43 v1 v2 v3 (nI one) (nI two) (nI k + 1)))))) = m_reduces_94 n (sR (sA (sA st 20 (upd (st.2 20) k (nI (oo one two k)))) 21 (upd (st.2 21) k (nI (r (630 + oo one two k))))) r) v1 v2 v3 (nI one) (nI two) (nI (k + 1)) := by
          intro a ha
          rw [gd_nI (by omega) (by omega), nm_eq, gd_nI (by omega) (by omega), nc (by omega), i2, n_div (by omega) (by omega) (by omega), pk_mul, n_sub (by omega), sub_dm, i3, pk_mul, i1, nI_add, nI_add, ha, sR_o _ _ (by decide), sR_A _ _ (by decide), sR_o _ _ (by decide), sA_2, if_pos rfl, upd_at, if_pos rfl, m_linkOf_ok (by omega), bd_s, gd_nI (by omega) (by omega), nm_eq, sR_o _ _ (by decide), sR_A _ _ (by decide), nI_add]
          rfl
        rw [if_neg (show ¬ (4 : Int32) ≤ nI k from nI_ge (b := 4) (by omega) (by omega))]
        by_cases z : k < 2
        · rw [if_neg (show ¬ (2 : Int32) ≤ nI k from nI_ge (b := 2) z (by omega)), stp one (by unfold oo; rw [if_pos z])]
          exact fin
        · rw [if_pos (show (2 : Int32) ≤ nI k from nI_le (a := 2) (by omega) (by omega)), stp two (by unfold oo; rw [if_neg z])]
          exact fin
  exact key 20000 0 st (by omega) (by omega) (fun j hj => absurd hj (Nat.not_lt_zero _))
theorem m_hands_ok {st : OSt} {E : Nat → Prop} {L σ o s : Nat → Nat} {many : Nat} (hm4 : many ≤ 4) (hE : MT E L) (inj : ∀ p q, E p → E q → σ p = σ q → p = q) (ho : ∀ k, k < many → E (o k) ∧ σ (o k) = s k) (hlt : ∀ p, E p → σ p < 1016 ∧ p < 1016) (h21 : ∀ k, k < many → st.2 21 k = nI (L (o k))) (h22 : ∀ k, k < many → st.2 22 k = nI (s k))
    (hold : ∀ k, k < many → (oI (st.2 20) (nI (L (o k))) = -1 ∧ σ (L (o k)) = L (o k)) ∨ ∃ j, j < many ∧ oI (st.2 20) (nI (L (o k))) = nI j ∧ L (o k) = o j) (r : Nat → Nat) :
    ∃ r', m_hands (sR st r) (nI many) = some (sR st r') ∧ (∀ j, j < 630 → r' j = r j) ∧ (∀ q, (∀ p, E p → q ≠ σ p) → lk r' q = lk r q) ∧ (∀ p, E p → (∃ j, j < many ∧ (p = o j ∨ L p = o j)) ∨ lk r (σ p) = σ (L p) → lk r' (σ p) = σ (L p)) := by
  have key : ∀ (fuel k : Nat) (r : Nat → Nat), k ≤ many → many - k < fuel → ∃ r', m_hands_2 fuel (sR st r) (nI many) (nI k) = some (sR st r') ∧ (∀ j, j < 630 → r' j = r j) ∧ (∀ q, (∀ p, E p → q ≠ σ p) → lk r' q = lk r q) ∧ (∀ p, E p → (∃ j, k ≤ j ∧ j < many ∧ (p = o j ∨ L p = o j)) ∨ lk r (σ p) = σ (L p) → lk r' (σ p) = σ (L p)) := by
    intro fuel
    induction fuel with
    | zero => intro k r _ h; omega
    | succ n ih =>
      intro k r hk hf
      rw [m_hands_2]
      by_cases q : k = many
      · subst q
        rw [if_pos (nI_le (Nat.le_refl _) (by omega))]
        refine ⟨r, rfl, fun _ _ => rfl, fun _ _ => rfl, ?_⟩
        rintro p hp (⟨j, h1, h2, _⟩ | h)
        · omega
        · exact h
      · have hkm : k < many := by omega
        obtain ⟨e1, e2⟩ := ho k hkm
        obtain ⟨g1, g2, g3⟩ := hE _ e1
        obtain ⟨r', f1, f2, f3, f4⟩ := ih (k + 1) (aL r (s k) (σ (L (o k)))) (by omega) (by omega)
        have hs : s k < 1016 := by rw [← e2]; exact (hlt _ e1).1
        have hl : σ (L (o k)) < 1016 := (hlt _ g1).1
        have go : m_hands_2 (n + 1) (sR st r) (nI many) (nI k) = m_hands_2 n (sR st (aL r (s k) (σ (L (o k))))) (nI many) (nI (k + 1)) := by
          rw [m_hands_2, if_neg (nI_ge hkm (by omega)), gd_nI (by omega) (by omega), nc (by omega), sR_o _ _ (by decide), h21 k hkm, m_oldOf_eq, sR_o _ _ (by decide), bd_s, gd_nI (by omega) (by omega), sR_o _ _ (by decide), h22 k hkm, nI_1]
          rcases hold k hkm with ⟨a1, a2⟩ | ⟨j, b1, b2, b3⟩
          · rw [a1, if_pos rfl, gd_nI (by omega) (by omega), m_links_ok hs (by rw [← a2]; exact hl), bd_s, a2]
          · rw [b2, if_neg (ne_m1 (by omega)), gd_nI (by omega) (by omega), nc (by omega), h22 j b1, ← (ho j b1).2, ← b3, m_links_ok hs hl, bd_s]
        rw [m_hands_2] at go
        rw [go]
        refine ⟨r', f1, fun j hj => (f2 j hj).trans (aL_lo hj), fun q hq => ?_, fun p hp hd => ?_⟩
        · rw [f3 q hq, lk_aL, lk2_o _ (by rw [← e2]; exact hq _ e1) (hq _ g1)]
        · apply f4 p hp
          by_cases w1 : p = L (o k)
          · refine Or.inr ?_
            rw [w1, lk_aL, lk2_b, g2, e2]
          · by_cases w2 : p = o k
            · refine Or.inr ?_
              rw [w2, lk_aL, e2, lk2_a]
              rw [← e2]
              intro e
              exact g3 (inj _ _ e1 g1 e).symm
            · rcases hd with ⟨j, c1, c2, c3⟩ | c
              · refine Or.inl ⟨j, ?_, c2, c3⟩
                refine Classical.byContradiction fun z => ?_
                have : j = k := by omega
                subst this
                rcases c3 with c3 | c3
                · exact w2 c3
                · exact w1 (by rw [← c3, (hE p hp).2.1])
              · refine Or.inr ?_
                rw [lk_aL, lk2_o _ (fun e => w2 (inj _ _ hp e1 (e.trans e2.symm))) (fun e => w1 (inj _ _ hp g1 e))]
                exact c
  obtain ⟨r', f1, f2, f3, f4⟩ := key 20000 0 r (by omega) (by omega)
  refine ⟨r', ?_, f2, f3, fun p hp h => f4 p hp (h.imp (fun ⟨j, a, b⟩ => ⟨j, Nat.zero_le _, a, b⟩) id)⟩
  unfold m_hands
  rw [i0, f1]
  rfl
