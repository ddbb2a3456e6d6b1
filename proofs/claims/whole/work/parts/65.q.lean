/-! what is asked of the net: both sides answer alike -/
theorem ge_j {a : Int32} (h : ¬ a < 0) : ∃ j, j < 2147483648 ∧ a = nI j := nI_of h
theorem q_rule {r : Nat → Nat} {sc : NSt} {st : OSt} (h : NC r sc) (a : Int32) : ∃ x, r_rule sc a = some x ∧ m_rule (sR st r) a = some (x, sR (sI st 0 0) r) := by
  unfold r_rule m_rule m_within
  rw [nm_eq, sR_I]
  by_cases q : a < 0
  · rw [if_pos q, if_pos q, bd_s, if_pos rfl]
    exact ⟨_, rfl, rfl⟩
  · obtain ⟨j, hj, rfl⟩ := ge_j q
    rw [if_neg q, if_neg q]
    by_cases z : j < 6
    · rw [if_neg (show ¬ (6 : Int32) ≤ nI j from nI_ge (b := 6) z (by omega)), if_neg (show ¬ (5 : Int32) < nI j from nI_nlt (a := 5) (by omega) (by omega)), bd_s, if_neg (show ¬ (1 : Int32) = 0 by decide), gd_nI z (by omega), nc hj, i8, nI_add, gd_nI (by omega) (by omega), nc (by omega), sR_2, nR_at, h.1.2.2.1 j z]
      exact ⟨_, rfl, rfl⟩
    · rw [if_pos (show (6 : Int32) ≤ nI j from nI_le (a := 6) (by omega) hj), if_pos (show (5 : Int32) < nI j from nI_lt (a := 5) (by omega) hj), bd_s, if_pos rfl]
      exact ⟨_, rfl, rfl⟩
theorem m_isNode_any {r : Nat → Nat} {st : OSt} (hv : NV r) (a : Int32) : (∃ n, n < 300 ∧ a = nI n ∧ 0 < r (30 + n) ∧ m_isNode (sR st r) a = some 1) ∨ (m_isNode (sR st r) a = some 0 ∧ ∀ sn, CM r sn → n_kindOf sn a = some (-1)) := by
  by_cases q : a < 0
  · refine Or.inr ⟨?_, fun sn _ => ?_⟩
    · unfold m_isNode m_within
      rw [if_pos q, bd_s, if_pos rfl]
    · unfold n_kindOf
      rw [if_pos q]
  · obtain ⟨j, hj, rfl⟩ := ge_j q
    by_cases z : j < 300
    · by_cases k : 0 < r (30 + j)
      · exact Or.inl ⟨j, z, rfl, k, by rw [m_isNode_ok z (hv.1.2.1 j z).1, if_pos k]⟩
      · refine Or.inr ⟨by rw [m_isNode_ok z (hv.1.2.1 j z).1, if_neg k], fun sn hc => ?_⟩
        rw [n_kindOf_in hc z, show r (30 + j) = 0 by omega]
        rfl
    · refine Or.inr ⟨?_, fun sn _ => ?_⟩
      · unfold m_isNode m_within
        rw [if_neg q, if_pos (show (299 : Int32) < nI j from nI_lt (a := 299) (by omega) hj), bd_s, if_pos rfl]
      · unfold n_kindOf
        rw [if_neg q, if_pos (show (300 : Int32) ≤ nI j from nI_le (a := 300) (by omega) hj)]
theorem q_kind {r : Nat → Nat} {sc : NSt} {st : OSt} (hv : NV r) (h : NC r sc) (a : Int32) : ∃ x, r_kind sc a = some x ∧ m_kind (sR st r) a = some (x, sR (sI st 0 0) r) := by
  unfold r_kind m_kind
  rw [nm_eq, sR_I]
  rcases m_isNode_any (st := sI st 0 0) hv a with ⟨n, hn, rfl, k, e⟩ | ⟨e, f⟩
  · rw [e, bd_s, if_neg (show ¬ (1 : Int32) = 0 by decide), m_kindOf_ok hn k, bd_s, n_kindOf_in h.1 hn, bd_s, kI_p k]
    exact ⟨_, rfl, rfl⟩
  · rw [e, bd_s, if_pos rfl, f sc h.1, bd_s]
    exact ⟨_, rfl, rfl⟩
theorem q_link {r : Nat → Nat} {sc : NSt} {st : OSt} (hv : NV r) (h : NC r sc) (a b : Int32) : ∃ x, r_link sc a b = some x ∧ m_link (sR st r) a b = some (x, sR (sI st 0 0) r) := by
  unfold r_link m_link
  rw [nm_eq, sR_I]
  rcases m_isNode_any (st := sI st 0 0) hv a with ⟨n, hn, rfl, k, e⟩ | ⟨e, f⟩
  · have k3 := (hv.1.2.1 n hn).1
    rw [e, bd_s, if_neg (show ¬ (1 : Int32) = 0 by decide), m_kindOf_ok hn k, bd_s, n_kindOf_in h.1 hn, bd_s, kI_p k, if_neg (ne_m1 (by omega))]
    have port : ∀ j, j < 3 → (j = 0 ∨ 1 < r (30 + n)) → n_at sc (3 * nI n + nI j) = some (nI (lk r (3 * n + j))) ∧ m_linkOf (sR (sI st 0 0) r) (3 * nI n + nI j) = some (nI (lk r (3 * n + j))) := by
      intro j hj hk
      have hx : xP r (3 * n + j) := Or.inl ⟨by omega, by rw [show (3 * n + j) / 3 = n by omega]; exact k, by rw [show (3 * n + j) / 3 = n by omega]; omega⟩
      rw [i3, pk_mul, nI_add, n_at_ok h.2.1 hx, m_linkOf_ok (xP_lt hx)]
      exact ⟨rfl, rfl⟩
    by_cases q : b < 0
    · rw [if_pos q]
      refine ⟨_, rfl, ?_⟩
      unfold m_within
      rw [if_pos q]
      split <;> rw [bd_s, if_pos rfl]
    · obtain ⟨j, hj, rfl⟩ := ge_j q
      rw [if_neg q]
      by_cases k1 : r (30 + n) = 1
      · rw [k1, if_pos (show nI (1 - 1) = 0 from rfl), if_pos (show nI (1 - 1) = 0 from rfl)]
        unfold m_within
        rw [if_neg q]
        by_cases z : j = 0
        · subst z
          rw [if_pos (show nI 0 ≤ (0 : Int32) by decide), if_neg (show ¬ (0 : Int32) < nI 0 by decide), bd_s, if_neg (show ¬ (1 : Int32) = 0 by decide), (port 0 (by omega) (Or.inl rfl)).1, bd_s, (port 0 (by omega) (Or.inl rfl)).2, bd_s]
          exact ⟨_, rfl, rfl⟩
        · rw [if_neg (show ¬ nI j ≤ (0 : Int32) from nI_ge (a := 0) (by omega) hj), if_pos (show (0 : Int32) < nI j from nI_lt (a := 0) (by omega) hj), bd_s, if_pos rfl]
          exact ⟨_, rfl, rfl⟩
      · rw [if_neg (nI_ne0 (by omega) (by omega)), if_neg (nI_ne0 (by omega) (by omega))]
        unfold m_within
        rw [if_neg q]
        by_cases z : j ≤ 2
        · rw [if_pos (show nI j ≤ (2 : Int32) from nI_le (b := 2) z (by omega)), if_neg (show ¬ (2 : Int32) < nI j from nI_nlt (a := 2) z (by omega)), bd_s, if_neg (show ¬ (1 : Int32) = 0 by decide), (port j (by omega) (Or.inr (by omega))).1, bd_s, (port j (by omega) (Or.inr (by omega))).2, bd_s]
          exact ⟨_, rfl, rfl⟩
        · rw [if_neg (show ¬ nI j ≤ (2 : Int32) from nI_ge (a := 2) (by omega) hj), if_pos (show (2 : Int32) < nI j from nI_lt (a := 2) (by omega) hj), bd_s, if_pos rfl]
          exact ⟨_, rfl, rfl⟩
  · rw [e, bd_s, if_pos rfl, f sc h.1, bd_s, if_pos rfl]
    exact ⟨_, rfl, rfl⟩
/-- a root that is there, or none -/
theorem root_any {r : Nat → Nat} {sc : NSt} {st : OSt} (hv : NV r) (h : NC r sc) (a : Int32) : (∃ i, i < 16 ∧ a = nI i ∧ r (14 + i) = 1 ∧ n_hasRoot sc a = some 1 ∧ m_isRoot (sR st r) a = some 1) ∨ (n_hasRoot sc a = some 0 ∧ m_isRoot (sR st r) a = some 0) := by
  by_cases q : a < 0
  · right
    unfold n_hasRoot m_isRoot m_within
    rw [if_pos q, if_pos q, bd_s, if_pos rfl]
    exact ⟨rfl, rfl⟩
  · obtain ⟨j, hj, rfl⟩ := ge_j q
    by_cases z : j < 16
    · by_cases w : r (14 + j) = 1
      · exact Or.inl ⟨j, z, rfl, w, by rw [n_hasRoot_ok hv h z, if_pos w], by rw [m_isRoot_ok hv z, if_pos w]⟩
      · exact Or.inr ⟨by rw [n_hasRoot_ok hv h z, if_neg w], by rw [m_isRoot_ok hv z, if_neg w]⟩
    · right
      unfold n_hasRoot m_isRoot m_within
      rw [if_neg q, if_neg q, if_pos (show (16 : Int32) ≤ nI j from nI_le (a := 16) (by omega) hj), if_pos (show (15 : Int32) < nI j from nI_lt (a := 15) (by omega) hj), bd_s, if_pos rfl]
      exact ⟨rfl, rfl⟩
theorem q_root {r : Nat → Nat} {sc : NSt} {st : OSt} (hv : NV r) (h : NC r sc) (a : Int32) : ∃ x, r_root sc a = some x ∧ m_root (sR st r) a = some (x, sR (sI st 0 0) r) := by
  unfold r_root m_root
  rw [nm_eq, sR_I]
  rcases root_any (st := sI st 0 0) hv h a with ⟨i, hi, rfl, w, e, f⟩ | ⟨e, f⟩
  · rw [e, bd_s, if_neg (show ¬ (1 : Int32) = 0 by decide), f, bd_s, if_neg (show ¬ (1 : Int32) = 0 by decide), i1000, nI_add, n_at_ok h.2.1 (root_xP hi w), bd_s, m_linkOf_ok (by omega), bd_s]
    exact ⟨_, rfl, rfl⟩
  · rw [e, bd_s, if_pos rfl, f, bd_s, if_pos rfl]
    exact ⟨_, rfl, rfl⟩
theorem sub_z (a b : Int32) : (a - b = 0) ↔ b = a := by
  constructor
  · intro h
    have := congrArg (· + b) h
    simp only [Int32.sub_add_cancel, Int32.zero_add] at this
    exact this.symm
  · intro h
    rw [h, Int32.sub_self]
theorem sub_s (a : Int32) (c : Nat) : a - nI c + (-1) = a - nI (c + 1) := by
  rw [← nI_1, Int32.sub_eq_add_neg, Int32.sub_eq_add_neg, Int32.neg_add, Int32.sub_eq_add_neg, Int32.add_assoc]
theorem q_rootAt {r : Nat → Nat} {sc : NSt} {st : OSt} (hv : NV r) (h : NC r sc) (a : Int32) : ∃ x, r_rootAt sc a = some x ∧ m_rootAt (sR st r) a = some (x, sR (sI st 0 0) r) := by
  have key : ∀ (fuel i c : Nat), i ≤ 16 → 16 - i < fuel → ∃ x, r_rootAt_4 fuel sc a (nI c) (nI i) = some x ∧ m_rootAt_9 fuel (sR (sI st 0 0) r) (a - nI c) (nI i) = some (x, sR (sI st 0 0) r) := by
    intro fuel
    induction fuel with
    | zero => intro i c _ h; omega
    | succ n ih =>
      intro i c hi hf
      rw [r_rootAt_4, m_rootAt_9]
      by_cases q : i = 16
      · subst q
        rw [if_pos (show (16 : Int32) ≤ nI 16 from nI_le (a := 16) (b := 16) (Nat.le_refl _) (by omega)), if_pos (show (16 : Int32) ≤ nI 16 from nI_le (a := 16) (b := 16) (Nat.le_refl _) (by omega))]
        exact ⟨_, rfl, rfl⟩
      · rw [if_neg (show ¬ (16 : Int32) ≤ nI i from nI_ge (b := 16) (by omega) (by omega)), if_neg (show ¬ (16 : Int32) ≤ nI i from nI_ge (b := 16) (by omega) (by omega)), n_hasRoot_ok hv h (by omega), bd_s, m_isRoot_ok hv (by omega), bd_s, nI_1]
        by_cases w : r (14 + i) = 1
        · rw [if_pos w, if_neg (show ¬ (1 : Int32) = 0 by decide), if_neg (show ¬ (1 : Int32) = 0 by decide)]
          by_cases u : nI c = a
          · rw [if_pos u, if_pos ((sub_z a _).mpr u)]
            exact ⟨_, rfl, rfl⟩
          · rw [if_neg u, if_neg (mt (sub_z a _).mp u), sub_s, nI_1]
            exact ih (i + 1) (c + 1) (by omega) (by omega)
        · rw [if_neg w, if_pos rfl, if_pos rfl]
          exact ih (i + 1) c (by omega) (by omega)
  obtain ⟨x, e, f⟩ := key 20000 0 0 (by omega) (by omega)
  refine ⟨x, e, ?_⟩
  unfold m_rootAt
  rw [nm_eq, sR_I]
  have z : a - nI 0 = a := by rw [nI_0, Int32.sub_zero]
  rw [z] at f
  exact f
theorem q_pair {r : Nat → Nat} {sc : NSt} {st : OSt} (hv : NV r) (h : NC r sc) (a b : Int32) : ∃ x, r_pair sc a b = some x ∧ m_pair (sR st r) a b = some (x, sR (sI st 0 0) r) := by
  -- the reference finds the pair with that many ahead of it
  have find : ∀ (fuel z : Nat), z ≤ 300 → 300 - z < fuel → (∀ y, y < z → iP r y = true → nI (fb_ct (iP r) y) ≠ a) →
      (∃ x, x < 300 ∧ iP r x = true ∧ nI (fb_ct (iP r) x) = a ∧ m_pair_21 fuel (sR (sI st 0 0) r) b (a - nI (fb_ct (iP r) z)) (nI z) = (if b = 0 then some (nI x, sR (sI st 0 0) r) else if b = 1 then bd (m_facing (sR (sI st 0 0) r) (nI x)) fun x14 => some (x14, sR (sI st 0 0) r) else if b = 2 then bd (m_ruleOf (sR (sI st 0 0) r) (nI x)) fun x13 => some (x13, sR (sI st 0 0) r) else bd (m_canReduce (sR (sI st 0 0) r) (nI x)) fun x11 => if x11 = 0 then some (0, sR (sI st 0 0) r) else some (1, sR (sI st 0 0) r))) ∨
      ((∀ y, iP r y = true → nI (fb_ct (iP r) y) ≠ a) ∧ m_pair_21 fuel (sR (sI st 0 0) r) b (a - nI (fb_ct (iP r) z)) (nI z) = some (-1, sR (sI st 0 0) r)) := by
    intro fuel
    induction fuel with
    | zero => intro z _ h; omega
    | succ n ih =>
      intro z hz hf h0
      rw [m_pair_21]
      by_cases q : z = 300
      · subst q
        rw [if_pos (show (300 : Int32) ≤ nI 300 from nI_le (a := 300) (b := 300) (Nat.le_refl _) (by omega))]
        exact Or.inr ⟨fun y hy => h0 y (of_decide_eq_true hy).1 hy, rfl⟩
      · have hc : fb_ct (iP r) (z + 1) = fb_ct (iP r) z + (if iP r z then 1 else 0) := rfl
        rw [if_neg (show ¬ (300 : Int32) ≤ nI z from nI_ge (b := 300) (by omega) (by omega)), m_isPair_ok hv (by omega), bd_s, nI_1]
        cases hi : iP r z with
        | false =>
          rw [if_pos (by rfl)]
          have := ih (z + 1) (by omega) (by omega) (fun y hy hp => by
            by_cases e : y = z
            · rw [e, hi] at hp; cases hp
            · exact h0 y (by omega) hp)
          rw [hc, hi] at this
          exact this
        | true =>
          rw [if_neg (show ¬ (if true = true then (1 : Int32) else 0) = 0 by decide)]
          by_cases u : nI (fb_ct (iP r) z) = a
          · rw [if_pos ((sub_z a _).mpr u)]
            exact Or.inl ⟨z, by omega, hi, u, rfl⟩
          · rw [if_neg (mt (sub_z a _).mp u), sub_s]
            have := ih (z + 1) (by omega) (by omega) (fun y hy hp => by
              by_cases e : y = z
              · rw [e]; exact u
              · exact h0 y (by omega) hp)
            rw [hc, hi, if_pos rfl] at this
            exact this
  have fd := find 20000 0 (by omega) (by omega) (fun y hy => absurd hy (Nat.not_lt_zero _))
  have z0 : a - nI (fb_ct (iP r) 0) = a := by show a - nI 0 = a; rw [nI_0, Int32.sub_zero]
  rw [z0] at fd
  -- the class
  have cls : (∃ x, x < 300 ∧ iP r x = true ∧ nI (fb_ct (iP r) x) = a ∧ p_at (np sc) a 1 = some (nI x)) ∨ ((∀ y, iP r y = true → nI (fb_ct (iP r) y) ≠ a) ∧ p_at (np sc) a 1 = some (-1)) := by
    by_cases q : a < 0
    · refine Or.inr ⟨fun y hy e => ?_, p_at_neg q⟩
      have := fb_ct_le (iP r) y
      have l := (of_decide_eq_true hy).1
      rw [← e] at q
      exact nI_pos (by omega) q
    · obtain ⟨j, hj, rfl⟩ := ge_j q
      rcases p_at_ok h.evy hj with ⟨u, v⟩ | ⟨x, _, u, v, w⟩
      · refine Or.inr ⟨fun y hy e => ?_, v⟩
        have l := (of_decide_eq_true hy).1
        have c := fb_ct_le (iP r) y
        have m1 := fb_ct_mono (iP r) (show y + 1 ≤ 320 by omega)
        rw [fb_ct_succ, hy, if_pos rfl] at m1
        rw [nI_eq (by omega) hj] at e
        omega
      · exact Or.inl ⟨x, (of_decide_eq_true u).1, u, by rw [v], w⟩
  unfold r_pair m_pair
  rw [nm_eq, sR_I]
  rcases cls with ⟨x, hx, hp, hc, e⟩ | ⟨no, e⟩
  · rw [e, bd_s, if_neg (ne_m1 (by omega))]
    rcases fd with ⟨x2, hx2, hp2, hc2, e2⟩ | ⟨no, _⟩
    · have c1 := fb_ct_le (iP r) x
      have c2 := fb_ct_le (iP r) x2
      have ex : x2 = x := by
        refine fb_ct_kth_one hp2 hp ?_
        have := hc2.trans hc.symm
        rw [nI_eq (by omega) (by omega)] at this
        exact this
      subst ex
      obtain ⟨y, ⟨x3, y3, xy⟩, ⟨ey, _⟩, ⟨kx, kx3⟩, _⟩ := iP_y hv hp
      unfold m_within
      by_cases q : b < 0
      · rw [if_pos q, bd_s, if_pos rfl, if_neg (fun z => by rw [z] at q; exact absurd q (by decide)), if_neg (fun z => by rw [z] at q; exact absurd q (by decide)), if_neg (fun z => by rw [z] at q; exact absurd q (by decide)), if_neg (fun z => by rw [z] at q; exact absurd q (by decide))]
        exact ⟨_, rfl, rfl⟩
      · obtain ⟨j, hj, rfl⟩ := ge_j q
        rw [if_neg q]
        by_cases z : j ≤ 3
        · rw [if_neg (show ¬ (3 : Int32) < nI j from nI_nlt (a := 3) z (by omega)), bd_s, if_neg (show ¬ (1 : Int32) = 0 by decide), show m_pair_21 20000 (sR (sI st 0 0) r) (nI j) a 0 = _ from e2]
          have : j = 0 ∨ j = 1 ∨ j = 2 ∨ j = 3 := by omega
          rcases this with rfl | rfl | rfl | rfl
          · rw [if_pos (show nI 0 = 0 from rfl), if_pos (show nI 0 = 0 from rfl)]
            exact ⟨_, rfl, rfl⟩
          · rw [if_neg (show ¬ nI 1 = 0 by decide), if_pos (show nI 1 = 1 from rfl), if_neg (show ¬ nI 1 = 0 by decide), if_pos (show nI 1 = 1 from rfl), n_partnerOf_ok h hv x3 kx y3 ey, bd_s, m_facing_ok x3 (by omega), bd_s, if_pos (by omega), ey, show 3 * y / 3 = y by omega]
            exact ⟨_, rfl, rfl⟩
          · rw [if_neg (show ¬ nI 2 = 0 by decide), if_neg (show ¬ nI 2 = 1 by decide), if_pos (show nI 2 = 2 from rfl), if_neg (show ¬ nI 2 = 0 by decide), if_neg (show ¬ nI 2 = 1 by decide), if_pos (show nI 2 = 2 from rfl), n_ruleOf_ok h hv hp, bd_s, m_ruleOf_ok hv hp, bd_s]
            exact ⟨_, rfl, rfl⟩
          · rw [if_neg (show ¬ nI 3 = 0 by decide), if_neg (show ¬ nI 3 = 1 by decide), if_neg (show ¬ nI 3 = 2 by decide), if_pos (show nI 3 = 3 from rfl), if_neg (show ¬ nI 3 = 0 by decide), if_neg (show ¬ nI 3 = 1 by decide), if_neg (show ¬ nI 3 = 2 by decide), n_canGo_ok h hv hp, bd_s, m_canReduce_ok hv hp, bd_s]
            cases rd r x2
            · exact ⟨_, rfl, rfl⟩
            · exact ⟨_, rfl, rfl⟩
        · rw [if_pos (show (3 : Int32) < nI j from nI_lt (a := 3) (by omega) hj), bd_s, if_pos rfl, if_neg (show ¬ nI j = 0 from nI_ne0 (by omega) hj), if_neg (show ¬ nI j = 1 by rw [i1, nI_eq hj (by omega)]; omega), if_neg (show ¬ nI j = 2 by rw [i2, nI_eq hj (by omega)]; omega), if_neg (show ¬ nI j = 3 by rw [i3, nI_eq hj (by omega)]; omega)]
          exact ⟨_, rfl, rfl⟩
    · exact absurd hc (no x hp)
  · rw [e, bd_s, if_pos rfl]
    rcases fd with ⟨x2, hx2, hp2, hc2, _⟩ | ⟨_, e2⟩
    · exact absurd hc2 (no x2 hp2)
    · refine ⟨-1, rfl, ?_⟩
      rw [show m_pair_21 20000 (sR (sI st 0 0) r) b a 0 = _ from e2]
      unfold m_within
      split
      · rw [bd_s, if_pos rfl]
      · split
        · rw [bd_s, if_pos rfl]
        · rw [bd_s, if_neg (show ¬ (1 : Int32) = 0 by decide)]
theorem q_next {r : Nat → Nat} {sc : NSt} {st : OSt} (hv : NV r) (h : NC r sc) (a : Int32) : ∃ x, r_next sc a = some x ∧ m_next (sR st r) a = some (x, sR (sI st 0 0) r) := by
  obtain ⟨⟨w0, w1, w2⟩, -, w4, -⟩ := hv.1
  obtain ⟨⟨c6, c7, c8, c9⟩, ⟨c11, c10, c12, c13⟩, c3, c0, c2⟩ := h.1
  unfold r_next m_next n_givenNext
  rw [nm_eq, sR_I]
  by_cases q : a < 0
  · rw [if_pos q, bd_s, if_neg (fun z => by rw [fa_lt] at q; rw [fa_le] at z; omega)]
    exact ⟨_, rfl, rfl⟩
  · obtain ⟨j, hj, rfl⟩ := ge_j q
    rw [if_neg q, if_pos (show (0 : Int32) ≤ nI j from nI_le (a := 0) (Nat.zero_le _) hj), c6, c7, c10, c11, n_sub (by omega)]
    simp only [nm_eq]
    rw [sR_2, nR_at, nR_at, nR_at]
    by_cases z : r 5 ≤ j
    · have e64 : (nI (r 4)).toInt64 + (nI j).toInt64 - (nI (r 5)).toInt64 = lN (r 4 + j - r 5) := by
        rw [nI_l (by omega), nI_l hj, nI_l (by omega), lN_add, lN_sub (by omega)]
      have cmp : (0 ≤ lg_cmp (lN (r 4 + j - r 5)) (nI (r 0)).toInt64) ↔ r 0 ≤ r 4 + j - r 5 := by
        rw [nI_l (by omega)]
        unfold lg_cmp
        by_cases u : r 0 < r 4 + j - r 5
        · rw [if_pos (show lN (r 4 + j - r 5) > lN (r 0) from (pk_lLT (by omega) (by omega)).mpr u)]
          exact ⟨fun _ => by omega, fun _ => by decide⟩
        · rw [if_neg (show ¬ lN (r 4 + j - r 5) > lN (r 0) from fun v => u ((pk_lLT (by omega) (by omega)).mp v))]
          by_cases v : r 4 + j - r 5 = r 0
          · rw [if_pos (by rw [v])]
            exact ⟨fun _ => by omega, fun _ => by decide⟩
          · rw [if_neg (fun y => v ((pk_lEQ (by omega) (by omega)).mp y))]
            exact ⟨fun y => absurd y (by decide), fun y => by omega⟩
      rw [if_pos (nI_le z hj), if_pos (nI_le z hj), e64]
      by_cases u : r 0 ≤ r 4 + j - r 5
      · rw [if_pos (cmp.mpr u), if_neg (nI_nlt (show r 0 - r 1 ≤ j by omega) hj), bd_s]
        exact ⟨_, rfl, rfl⟩
      · rw [if_neg (mt cmp.mp u), if_pos (nI_lt (show j < r 0 - r 1 by omega) (by omega)), n_sub z, nI_add, bd_s, lN_i, show r 4 + j - r 5 = r 4 + (j - r 5) by omega]
        exact ⟨_, rfl, rfl⟩
    · rw [if_neg (nI_ge (show j < r 5 by omega) (by omega)), if_pos (nI_lt (show j < r 0 - r 1 by omega) (by omega)), if_neg (nI_ge (show j < r 5 by omega) (by omega)), i1, n_sub (by omega), n_sub (by omega), gd_nI (by omega) (by omega), nc (by omega), c2 _ (by omega), bd_s, i330, nI_add, n_sub (by omega), n_sub (by omega), gd_nI (by omega) (by omega), nc (by omega), nR_at, show 330 + r 5 - 1 - j = 330 + (r 5 - 1 - j) by omega]
      exact ⟨_, rfl, rfl⟩
