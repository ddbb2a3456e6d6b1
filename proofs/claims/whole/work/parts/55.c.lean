/-! a pairer and a doubler -/
theorem nE2 {E : Nat → Prop} {a b p : Nat} (h : ¬ E p) (ha : p ≠ a) (hb : p ≠ b) : ¬ E2 E a b p := by
  rintro (z | z | z)
  · exact h z
  · exact ha z
  · exact hb z
theorem nEr {E : Nat → Prop} {a b p : Nat} (h : ¬ E p) (hb : p ≠ b) : ¬ Er E a b p := by
  rintro (z | z)
  · exact h z.1
  · exact hb z
/-- four nodes are made -/
theorem four {t : Nat → Nat} (w : WM t) (hr : t 1 + 3 < t 0) : ∃ d1 d2 q1 q2 : Nat, (d1 = mN t ∧ d2 = mN (mK t 2) ∧ q1 = mN (mK (mK t 2) 2) ∧ q2 = mN (mK (mK (mK t 2) 2) 1)) ∧ (d1 < 300 ∧ d2 < 300 ∧ q1 < 300 ∧ q2 < 300) ∧ (t (30 + d1) = 0 ∧ t (30 + d2) = 0 ∧ t (30 + q1) = 0 ∧ t (30 + q2) = 0) ∧ (d1 ≠ d2 ∧ d1 ≠ q1 ∧ d1 ≠ q2 ∧ d2 ≠ q1 ∧ d2 ≠ q2 ∧ q1 ≠ q2) ∧
    (WM (mK t 2) ∧ WM (mK (mK t 2) 2) ∧ WM (mK (mK (mK t 2) 2) 1) ∧ WM (mK (mK (mK (mK t 2) 2) 1) 1)) ∧ (t 1 < t 0 ∧ mK t 2 1 < mK t 2 0 ∧ mK (mK t 2) 2 1 < mK (mK t 2) 2 0 ∧ mK (mK (mK t 2) 2) 1 1 < mK (mK (mK t 2) 2) 1 0) ∧
    (∀ m, mK (mK (mK (mK t 2) 2) 1) 1 (30 + m) = if m = q2 then 2 else if m = q1 then 2 else if m = d2 then 3 else if m = d1 then 3 else t (30 + m)) ∧ lk (mK (mK (mK (mK t 2) 2) 1) 1) = lk t ∧ (∀ j, 6 ≤ j → j < 30 → mK (mK (mK (mK t 2) 2) 1) 1 j = t j) := by
  have z0 : ∀ (r : Nat → Nat) (k : Nat), mK r k 0 = r 0 := fun r k => mK_o (by omega) (by omega) (by omega) (by omega) (by omega)
  have h1 : t 1 < t 0 := by omega
  have n1 := mN_lt w h1
  have w1 := mK_WM w h1 (k := 2) (by omega)
  have h2 : mK t 2 1 < mK t 2 0 := by rw [mK_1, z0]; omega
  have n2 := mN_lt w1 h2
  have w2 := mK_WM w1 h2 (k := 2) (by omega)
  have h3 : mK (mK t 2) 2 1 < mK (mK t 2) 2 0 := by rw [mK_1, mK_1, z0, z0]; omega
  have n3 := mN_lt w2 h3
  have w3 := mK_WM w2 h3 (k := 1) (by omega)
  have h4 : mK (mK (mK t 2) 2) 1 1 < mK (mK (mK t 2) 2) 1 0 := by rw [mK_1, mK_1, mK_1, z0, z0, z0]; omega
  have n4 := mN_lt w3 h4
  have w4 := mK_WM w3 h4 (k := 1) (by omega)
  have e2 := n2.2.2
  rw [mK_k] at e2
  have a12 : mN (mK t 2) ≠ mN t := fun z => by rw [if_pos z] at e2; omega
  rw [if_neg a12] at e2
  have e3 := n3.2.2
  rw [mK_k] at e3
  have a23 : mN (mK (mK t 2) 2) ≠ mN (mK t 2) := fun z => by rw [if_pos z] at e3; omega
  rw [if_neg a23, mK_k] at e3
  have a13 : mN (mK (mK t 2) 2) ≠ mN t := fun z => by rw [if_pos z] at e3; omega
  rw [if_neg a13] at e3
  have e4 := n4.2.2
  rw [mK_k] at e4
  have a34 : mN (mK (mK (mK t 2) 2) 1) ≠ mN (mK (mK t 2) 2) := fun z => by rw [if_pos z] at e4; omega
  rw [if_neg a34, mK_k] at e4
  have a24 : mN (mK (mK (mK t 2) 2) 1) ≠ mN (mK t 2) := fun z => by rw [if_pos z] at e4; omega
  rw [if_neg a24, mK_k] at e4
  have a14 : mN (mK (mK (mK t 2) 2) 1) ≠ mN t := fun z => by rw [if_pos z] at e4; omega
  rw [if_neg a14] at e4
  refine ⟨_, _, _, _, ⟨rfl, rfl, rfl, rfl⟩, ⟨n1.1, n2.1, n3.1, n4.1⟩, ⟨n1.2.2, e2, e3, e4⟩, ⟨Ne.symm a12, Ne.symm a13, Ne.symm a14, Ne.symm a23, Ne.symm a24, Ne.symm a34⟩, ⟨w1, w2, w3, w4⟩, ⟨h1, h2, h3, h4⟩, fun m => ?_, ?_, fun j h6 h30 => ?_⟩
  · rw [mK_k, mK_k, mK_k, mK_k]
  · rw [mK_lk n4.1, mK_lk n3.1, mK_lk n2.1, mK_lk n1.1]
  · rw [mK_s h6 h30, mK_s h6 h30, mK_s h6 h30, mK_s h6 h30]
theorem inner_in {L : Nat → Nat} {d1 d2 q1 q2 q : Nat} (h : q / 3 = d1 ∨ q / 3 = d2 ∨ q / 3 = q1 ∨ q / 3 = q2) (hq : q % 3 ≠ 0) : (lk2 (lk2 (lk2 (lk2 L (3 * d1 + 1) (3 * q1 + 1)) (3 * d1 + 2) (3 * q2 + 1)) (3 * d2 + 1) (3 * q1 + 2)) (3 * d2 + 2) (3 * q2 + 2) q) / 3 = d1 ∨ (lk2 (lk2 (lk2 (lk2 L (3 * d1 + 1) (3 * q1 + 1)) (3 * d1 + 2) (3 * q2 + 1)) (3 * d2 + 1) (3 * q1 + 2)) (3 * d2 + 2) (3 * q2 + 2) q) / 3 = d2 ∨ (lk2 (lk2 (lk2 (lk2 L (3 * d1 + 1) (3 * q1 + 1)) (3 * d1 + 2) (3 * q2 + 1)) (3 * d2 + 1) (3 * q1 + 2)) (3 * d2 + 2) (3 * q2 + 2) q) / 3 = q1 ∨ (lk2 (lk2 (lk2 (lk2 L (3 * d1 + 1) (3 * q1 + 1)) (3 * d1 + 2) (3 * q2 + 1)) (3 * d2 + 1) (3 * q1 + 2)) (3 * d2 + 2) (3 * q2 + 2) q) / 3 = q2 := by
  unfold lk2
  simp only [ur_at]
  by_cases c1 : q = 3 * q2 + 2
  · rw [if_pos c1]; omega
  · rw [if_neg c1]
    by_cases c2 : q = 3 * d2 + 2
    · rw [if_pos c2]; omega
    · rw [if_neg c2]
      by_cases c3 : q = 3 * q1 + 2
      · rw [if_pos c3]; omega
      · rw [if_neg c3]
        by_cases c4 : q = 3 * d2 + 1
        · rw [if_pos c4]; omega
        · rw [if_neg c4]
          by_cases c5 : q = 3 * q2 + 1
          · rw [if_pos c5]; omega
          · rw [if_neg c5]
            by_cases c6 : q = 3 * d1 + 2
            · rw [if_pos c6]; omega
            · rw [if_neg c6]
              by_cases c7 : q = 3 * q1 + 1
              · rw [if_pos c7]; omega
              · rw [if_neg c7]
                by_cases c8 : q = 3 * d1 + 1
                · rw [if_pos c8]; omega
                · omega
set_option maxHeartbeats 16000000 in
theorem red_5 {st : OSt} {r : Nat → Nat} {sn : NSt} (hv : NV r) (h : NC r sn) (hn : 1020 ≤ nl sn) {x : Nat} (hp : iP r x = true) (h0 : ru r x = 5) (hroom : r 1 + 2 ≤ r 0) : RO st r sn x := by
  obtain ⟨y, ⟨hx, hy, xy⟩, ⟨e, e'⟩, ⟨kx, kx3⟩, ⟨ky, ky3⟩⟩ := iP_y hv hp
  obtain ⟨one, two, h12, hm, _, h5⟩ := m_red_start (st := st) hv hp hx hy e kx kx3 ky ky3
  obtain ⟨k1', k2'⟩ := h5 h0
  obtain ⟨s5, s6, s7, s8, s9, E1, L1, ⟨p1, p2, p3, p4, p5⟩, c9, n9, t9, rn, hmt, sn9⟩ := n_free2_ok h hv hn hx hy xy kx ky e e'
  obtain ⟨tw, tl, tk, ts, t1, t0, r2⟩ := t_facts hv hx hy xy kx ky
  have o12 : one < 300 ∧ two < 300 ∧ one ≠ two := by omega
  obtain ⟨st1, f1, f2, f3⟩ := m94_ok (st := st) (r := ur r (8 + ru r x) (r (8 + ru r x) + 1)) (v1 := nI x) (v2 := nI y) (v3 := nI (ru r x)) o12.1 o12.2.1
  have w1 : WM (ur r (8 + ru r x) (r (8 + ru r x) + 1)) := WM_ur (by omega) (by omega) hv.1
  have k1 : ∀ n, ur r (8 + ru r x) (r (8 + ru r x) + 1) (30 + n) = r (30 + n) := fun n => ur_n (by omega)
  have w2 := fK_WM w1 hx (by rw [k1]; exact kx)
  have eT : fK (fK (ur r (8 + ru r x) (r (8 + ru r x) + 1)) x) y = ur (fK (fK r x) y) (8 + ru r x) (fK (fK r x) y (8 + ru r x) + 1) := by
    rw [fK_ur (by omega) (by omega), fK_ur (by omega) (by omega), ts (8 + ru r x) (by omega) (by omega)]
  have ky8 : 0 < fK (ur r (8 + ru r x) (r (8 + ru r x) + 1)) x (30 + y) := by rw [fK_k hx hy, if_neg (by omega), k1]; exact ky
  have xr := t_xP hv hx hy xy kx ky
  generalize hT : fK (fK r x) y = t at *
  obtain ⟨d1, d2, q1, q2, ⟨ed1, ed2, eq1, eq2⟩, ⟨ld1, ld2, lq1, lq2⟩, ⟨fd1, fd2, fq1, fq2⟩, ⟨n12, n13, n14, n23, n24, n34⟩, ⟨wa, wb, wc, wd⟩, ⟨ha, hb, hc, hd4⟩, kn, lkn, sn4⟩ := four tw (by omega)
  -- the class makes them
  obtain ⟨sa, a1, a2, a3⟩ := n_makes_ok c9 tw ha (k := 2)
  have na1 := n9.mk a3 tw ha (by omega) a2
  obtain ⟨sb, b1, b2, b3⟩ := n_makes_ok a2 wa hb (k := 2)
  have nb1 := na1.mk b3 wa hb (by omega) b2
  obtain ⟨sc, c1, c2, c3⟩ := n_makes_ok b2 wb hc (k := 1)
  have nc1 := nb1.mk c3 wb hc (by omega) c2
  obtain ⟨sd, g1, g2, g3⟩ := n_makes_ok c2 wc hd4 (k := 1)
  have nd1 := nc1.mk g3 wc hd4 (by omega) g2
  have td := (((t9.sk a3).sk b3).sk c3).sk g3
  have nld : nl sd = nl sn := by rw [g3.1, c3.1, b3.1, a3.1, sn9.1]
  rw [← ed1] at a1
  rw [← ed2] at b1
  rw [← eq1] at c1
  rw [← eq2] at g1
  have fr : ∀ n j, j < 3 → n = d1 ∨ n = d2 ∨ n = q1 ∨ n = q2 → ¬ E1 (3 * n + j) := by
    intro n j hj hh
    refine n9.no (by omega) hj ?_
    show t (30 + n) = 0
    rcases hh with rfl | rfl | rfl | rfl <;> assumption
  have kk : ∀ p, p < 900 → p / 3 = d1 ∨ p / 3 = d2 ∨ p / 3 = q1 ∨ p / 3 = q2 → 0 < Kr (mK (mK (mK (mK t 2) 2) 1) 1) (p / 3) := by
    intro p _ hh
    unfold Kr
    rw [kn]
    split
    · omega
    · split
      · omega
      · split
        · omega
        · split <;> omega
  -- the inner links
  obtain ⟨s1, e1, ⟨v1, u1⟩, m1⟩ := n_tie_cn nd1 (a := 3 * d1 + 1) (b := 3 * q1 + 1) (fr d1 1 (by omega) (by omega)) (fr q1 1 (by omega) (by omega)) (by omega) (by omega) (by omega) (fun z => kk _ z (by omega)) (fun z => kk _ z (by omega)) (fun z => by have := z.1.2; omega)
  obtain ⟨s2, e2, ⟨v2, u2⟩, m2⟩ := n_tie_cn m1 (a := 3 * d1 + 2) (b := 3 * q2 + 1) (nE2 (fr d1 2 (by omega) (by omega)) (by omega) (by omega)) (nE2 (fr q2 1 (by omega) (by omega)) (by omega) (by omega)) (by omega) (by rw [v1.gl]; omega) (by rw [v1.gl]; omega) (fun z => kk _ z (by omega)) (fun z => kk _ z (by omega)) (fun z => by have := z.1.2; omega)
  obtain ⟨s3, e3, ⟨v3, u3⟩, m3⟩ := n_tie_cn m2 (a := 3 * d2 + 1) (b := 3 * q1 + 2) (nE2 (nE2 (fr d2 1 (by omega) (by omega)) (by omega) (by omega)) (by omega) (by omega)) (nE2 (nE2 (fr q1 2 (by omega) (by omega)) (by omega) (by omega)) (by omega) (by omega)) (by omega) (by rw [v2.gl, v1.gl]; omega) (by rw [v2.gl, v1.gl]; omega) (fun z => kk _ z (by omega)) (fun z => kk _ z (by omega)) (fun z => by have := z.1.2; omega)
  obtain ⟨s4, e4, ⟨v4, u4⟩, m4⟩ := n_tie_cn m3 (a := 3 * d2 + 2) (b := 3 * q2 + 2) (nE2 (nE2 (nE2 (fr d2 2 (by omega) (by omega)) (by omega) (by omega)) (by omega) (by omega)) (by omega) (by omega)) (nE2 (nE2 (nE2 (fr q2 2 (by omega) (by omega)) (by omega) (by omega)) (by omega) (by omega)) (by omega) (by omega)) (by omega) (by rw [v3.gl, v2.gl, v1.gl]; omega) (by rw [v3.gl, v2.gl, v1.gl]; omega) (fun z => kk _ z (by omega)) (fun z => kk _ z (by omega)) (fun z => by have := z.1.2; omega)
  have t4 := (((td.add u1).add u2).add u3).add u4
  have nl4 : nl s4 = nl sn := by rw [v4.gl, v3.gl, v2.gl, v1.gl, nld]
  generalize hE4 : E2 (E2 (E2 (E2 E1 (3 * d1 + 1) (3 * q1 + 1)) (3 * d1 + 2) (3 * q2 + 1)) (3 * d2 + 1) (3 * q1 + 2)) (3 * d2 + 2) (3 * q2 + 2) = E4 at m4 t4
  have inE4 : ∀ p, E4 p ↔ (E1 p ∨ ((p / 3 = d1 ∨ p / 3 = d2 ∨ p / 3 = q1 ∨ p / 3 = q2) ∧ p % 3 ≠ 0)) := by
    intro p
    rw [← hE4]
    unfold E2
    constructor
    · rintro ((((z | z | z) | z | z) | z | z) | z | z)
      · exact Or.inl z
      all_goals exact Or.inr (by omega)
    · rintro (z | z)
      · exact Or.inl (Or.inl (Or.inl (Or.inl z)))
      · have : p = 3 * d1 + 1 ∨ p = 3 * q1 + 1 ∨ p = 3 * d1 + 2 ∨ p = 3 * q2 + 1 ∨ p = 3 * d2 + 1 ∨ p = 3 * q1 + 2 ∨ p = 3 * d2 + 2 ∨ p = 3 * q2 + 2 := by omega
        rcases this with z | z | z | z | z | z | z | z
        · exact Or.inl (Or.inl (Or.inl (Or.inr (Or.inl z))))
        · exact Or.inl (Or.inl (Or.inl (Or.inr (Or.inr z))))
        · exact Or.inl (Or.inl (Or.inr (Or.inl z)))
        · exact Or.inl (Or.inl (Or.inr (Or.inr z)))
        · exact Or.inl (Or.inr (Or.inl z))
        · exact Or.inl (Or.inr (Or.inr z))
        · exact Or.inr (Or.inl z)
        · exact Or.inr (Or.inr z)
  generalize hL4 : lk2 (lk2 (lk2 (lk2 L1 (3 * d1 + 1) (3 * q1 + 1)) (3 * d1 + 2) (3 * q2 + 1)) (3 * d2 + 1) (3 * q1 + 2)) (3 * d2 + 2) (3 * q2 + 2) = L4 at m4
  have oldL4 : ∀ p, E1 p → L4 p = L1 p := by
    intro p hp
    have ne : ∀ n j, j < 3 → n = d1 ∨ n = d2 ∨ n = q1 ∨ n = q2 → p ≠ 3 * n + j := fun n j hj hh z => fr n j hj hh (z ▸ hp)
    rw [← hL4, lk2_o _ (ne d2 2 (by omega) (by omega)) (ne q2 2 (by omega) (by omega)), lk2_o _ (ne d2 1 (by omega) (by omega)) (ne q1 2 (by omega) (by omega)), lk2_o _ (ne d1 2 (by omega) (by omega)) (ne q2 1 (by omega) (by omega)), lk2_o _ (ne d1 1 (by omega) (by omega)) (ne q1 1 (by omega) (by omega))]
  -- the wires
  obtain ⟨A, B, hAB, hABc⟩ : ∃ A B, ((A = 1016 ∧ B = 1018 ∧ one = x ∧ two = y) ∨ (A = 1018 ∧ B = 1016 ∧ one = y ∧ two = x)) ∧ 1016 ≤ A ∧ 1016 ≤ B ∧ A ≤ 1018 ∧ B ≤ 1018 := by
    rcases h12 with ⟨z, z2⟩ | ⟨z, z2⟩
    · exact ⟨1016, 1018, Or.inl ⟨rfl, rfl, z, z2⟩, by omega, by omega, by omega, by omega⟩
    · exact ⟨1018, 1016, Or.inr ⟨rfl, rfl, z, z2⟩, by omega, by omega, by omega, by omega⟩
  have ex : ∀ n j, (n = one ∨ n = two) → j = 1 ∨ j = 2 → Em (xP r) (3 * x) (3 * y) (3 * n + j) := by
    intro n j hn hj
    have a1 : (3 * n + j) / 3 = n := by omega
    have a2 : 1 < r (30 + n) := by rcases hn with rfl | rfl <;> omega
    exact ⟨Or.inl ⟨by omega, by rw [a1]; omega, Or.inr (by rw [a1]; exact a2)⟩, by omega, by omega⟩
  have gq : ∀ p, Em (xP r) (3 * x) (3 * y) p → (wg x y p = A ↔ p = 3 * one + 1) ∧ (wg x y p = A + 1 ↔ p = 3 * one + 2) ∧ (wg x y p = B ↔ p = 3 * two + 1) ∧ (wg x y p = B + 1 ↔ p = 3 * two + 2) ∧ (p ≠ 3 * one + 1 → p ≠ 3 * one + 2 → p ≠ 3 * two + 1 → p ≠ 3 * two + 2 → wg x y p = p) := by
    intro p hp
    have lt := xP_lt hp.1
    unfold wg
    by_cases a1 : p = 3 * x + 1
    · rw [if_pos a1]; omega
    · rw [if_neg a1]
      by_cases a2 : p = 3 * x + 2
      · rw [if_pos a2]; omega
      · rw [if_neg a2]
        by_cases a3 : p = 3 * y + 1
        · rw [if_pos a3]; omega
        · rw [if_neg a3]
          by_cases a4 : p = 3 * y + 2
          · rw [if_pos a4]; omega
          · rw [if_neg a4]; omega
  have x1 := ex one 1 (Or.inl rfl) (Or.inl rfl)
  have x2 := ex one 2 (Or.inl rfl) (Or.inr rfl)
  have y1 := ex two 1 (Or.inr rfl) (Or.inl rfl)
  have y2 := ex two 2 (Or.inr rfl) (Or.inr rfl)
  have inA : E1 A := by have := (rn.1 _ x1).1; rw [(gq _ x1).1.mpr rfl] at this; exact this
  have inA1 : E1 (A + 1) := by have := (rn.1 _ x2).1; rw [(gq _ x2).2.1.mpr rfl] at this; exact this
  have inB : E1 B := by have := (rn.1 _ y1).1; rw [(gq _ y1).2.2.1.mpr rfl] at this; exact this
  have inB1 : E1 (B + 1) := by have := (rn.1 _ y2).1; rw [(gq _ y2).2.2.2.1.mpr rfl] at this; exact this
  have hm4 : MT E4 L4 := m4.2.1.1
  have nh4 : ∀ n, n = d1 ∨ n = d2 ∨ n = q1 ∨ n = q2 → ¬ E4 (3 * n) := by
    intro n hh z
    rcases (inE4 _).mp z with z | z
    · exact fr n 0 (by omega) hh z
    · omega
  have notH : ∀ w, 1016 ≤ w → ¬ hd w := fun w hw z => by have := z.1; omega
  obtain ⟨sA', i1', v5, m5, t5, r5⟩ := mv_ok hm4 (RN.self E4 L4) m4 t4 (a := A) (b := 3 * d1) ((inE4 _).mpr (Or.inl inA)) (notH _ (by omega)) (Or.inr (by omega)) (nh4 d1 (by omega)) (by rw [nl4]; omega) (fun z => kk _ z (by omega))
  obtain ⟨sB', i2', v6, m6, t6, r6⟩ := mv_ok hm4 r5 m5 t5 (a := A + 1) (b := 3 * d2) (Or.inl ⟨(inE4 _).mpr (Or.inl inA1), by omega⟩) (notH _ (by omega)) (Or.inr (by omega)) (nEr (nh4 d2 (by omega)) (by omega)) (by rw [v5.gl, nl4]; omega) (fun z => kk _ z (by omega))
  obtain ⟨sC', i3', v7, m7, t7, r7⟩ := mv_ok hm4 r6 m6 t6 (a := B) (b := 3 * q1) (Or.inl ⟨Or.inl ⟨(inE4 _).mpr (Or.inl inB), by omega⟩, by omega⟩) (notH _ (by omega)) (Or.inr (by omega)) (nEr (nEr (nh4 q1 (by omega)) (by omega)) (by omega)) (by rw [v6.gl, v5.gl, nl4]; omega) (fun z => kk _ z (by omega))
  obtain ⟨sD', i4', v8, m8, t8, r8⟩ := mv_ok hm4 r7 m7 t7 (a := B + 1) (b := 3 * q2) (Or.inl ⟨Or.inl ⟨Or.inl ⟨(inE4 _).mpr (Or.inl inB1), by omega⟩, by omega⟩, by omega⟩) (notH _ (by omega)) (Or.inr (by omega)) (nEr (nEr (nEr (nh4 q2 (by omega)) (by omega)) (by omega)) (by omega)) (by rw [v7.gl, v6.gl, v5.gl, nl4]; omega) (fun z => kk _ z (by omega))
  have cD : CM (mK (mK (mK (mK t 2) 2) 1) 1) sD' := (((((((g2.sl v1).sl v2).sl v3).sl v4).sl v5).sl v6).sl v7).sl v8
  have E4lt : ∀ p, E4 p → p < 1016 ∨ p = A ∨ p = A + 1 ∨ p = B ∨ p = B + 1 := by
    intro p hp
    rcases (inE4 p).mp hp with z | z
    · obtain ⟨p0, hp0, z0⟩ := rn.2.1 p z
      have lt := xP_lt hp0.1
      have := gq p0 hp0
      omega
    · left; omega
  have rf := r8.cong (τ := fun p => if p = A then 3 * d1 else if p = A + 1 then 3 * d2 else if p = B then 3 * q1 else if p = B + 1 then 3 * q2 else p) hm4 (fun p hp => by
    show (if p = A then 3 * d1 else if p = A + 1 then 3 * d2 else if p = B then 3 * q1 else if p = B + 1 then 3 * q2 else p) = _
    unfold sg
    by_cases a : p = A
    · rw [if_pos a, if_pos a, if_neg (show ¬ 3 * d1 = A + 1 by omega), if_neg (show ¬ 3 * d1 = B by omega), if_neg (show ¬ 3 * d1 = B + 1 by omega)]
    · rw [if_neg a, if_neg a]
      by_cases b : p = A + 1
      · rw [if_pos b, if_pos b, if_neg (show ¬ 3 * d2 = B by omega), if_neg (show ¬ 3 * d2 = B + 1 by omega)]
      · rw [if_neg b, if_neg b]
        by_cases c : p = B
        · rw [if_pos c, if_pos c, if_neg (show ¬ 3 * q1 = B + 1 by omega)]
        · rw [if_neg c, if_neg c])
  generalize hσ : (fun p => if p = A then 3 * d1 else if p = A + 1 then 3 * d2 else if p = B then 3 * q1 else if p = B + 1 then 3 * q2 else p) = τ at rf
  have τA : τ A = 3 * d1 := by rw [← hσ]; simp
  have τA1 : τ (A + 1) = 3 * d2 := by rw [← hσ]; simp
  have τB : τ B = 3 * q1 := by
    rw [← hσ]
    show (if B = A then 3 * d1 else if B = A + 1 then 3 * d2 else if B = B then 3 * q1 else if B = B + 1 then 3 * q2 else B) = _
    rw [if_neg (by omega), if_neg (by omega), if_pos rfl]
  have τB1 : τ (B + 1) = 3 * q2 := by
    rw [← hσ]
    show (if B + 1 = A then 3 * d1 else if B + 1 = A + 1 then 3 * d2 else if B + 1 = B then 3 * q1 else if B + 1 = B + 1 then 3 * q2 else B + 1) = _
    rw [if_neg (by omega), if_neg (by omega), if_neg (by omega), if_pos rfl]
  have τo : ∀ p, p ≠ A → p ≠ A + 1 → p ≠ B → p ≠ B + 1 → τ p = p := fun p a b c d => by
    rw [← hσ]
    show (if p = A then 3 * d1 else if p = A + 1 then 3 * d2 else if p = B then 3 * q1 else if p = B + 1 then 3 * q2 else p) = p
    rw [if_neg a, if_neg b, if_neg c, if_neg d]
  -- the names, from the first ones on
  have gE : ∀ p, Em (xP r) (3 * x) (3 * y) p → E1 (wg x y p) ∧ L1 (wg x y p) = wg x y (lk r p) := fun p hp => rn.1 p hp
  generalize hρ : (fun p => τ (wg x y p)) = σ
  have σ1 : σ (3 * one + 1) = 3 * d1 := by rw [← hρ]; show τ (wg x y (3 * one + 1)) = _; rw [(gq _ x1).1.mpr rfl, τA]
  have σ2 : σ (3 * one + 2) = 3 * d2 := by rw [← hρ]; show τ (wg x y (3 * one + 2)) = _; rw [(gq _ x2).2.1.mpr rfl, τA1]
  have σ3 : σ (3 * two + 1) = 3 * q1 := by rw [← hρ]; show τ (wg x y (3 * two + 1)) = _; rw [(gq _ y1).2.2.1.mpr rfl, τB]
  have σ4 : σ (3 * two + 2) = 3 * q2 := by rw [← hρ]; show τ (wg x y (3 * two + 2)) = _; rw [(gq _ y2).2.2.2.1.mpr rfl, τB1]
  have σo : ∀ p, Em (xP r) (3 * x) (3 * y) p → p ≠ 3 * one + 1 → p ≠ 3 * one + 2 → p ≠ 3 * two + 1 → p ≠ 3 * two + 2 → σ p = p := by
    intro p hp a b c d
    have lt := xP_lt hp.1
    rw [← hρ]
    show τ (wg x y p) = p
    rw [(gq p hp).2.2.2.2 a b c d, τo p (by omega) (by omega) (by omega) (by omega)]
  have inj : ∀ p q, Em (xP r) (3 * x) (3 * y) p → Em (xP r) (3 * x) (3 * y) q → σ p = σ q → p = q := by
    intro p q hp hq z
    rw [← hρ] at z
    exact rn.2.2 p q hp hq (rf.2.2 _ _ ((inE4 _).mpr (Or.inl (gE p hp).1)) ((inE4 _).mpr (Or.inl (gE q hq).1)) z)
  have σlt : ∀ p, Em (xP r) (3 * x) (3 * y) p → σ p < 1016 := by
    intro p hp
    have lt := xP_lt hp.1
    by_cases a : p = 3 * one + 1
    · rw [a, σ1]; omega
    · by_cases b : p = 3 * one + 2
      · rw [b, σ2]; omega
      · by_cases c : p = 3 * two + 1
        · rw [c, σ3]; omega
        · by_cases d : p = 3 * two + 2
          · rw [d, σ4]; omega
          · rw [σo p hp a b c d]; exact lt
  -- the reference
  have ru5 : nI (ru r x) = nI 5 := by rw [h0]
  have e8 : ∀ j, 6 ≤ j → j < 30 → mK (mK (mK (mK t 2) 2) 1) 1 j = t j := sn4
  obtain ⟨rT, hrT⟩ : ∃ rT, rT = ur (mK (mK (mK (mK t 2) 2) 1) 1) (8 + ru r x) (t (8 + ru r x) + 1) := ⟨_, rfl⟩
  obtain ⟨st2, hB⟩ : ∃ st2, st2 = sA (sA (sA (sA st1 22 (upd (st1.2 22) 0 (nI (3 * d1)))) 22 (upd (upd (st1.2 22) 0 (nI (3 * d1))) 1 (nI (3 * d2)))) 22 (upd (upd (upd (st1.2 22) 0 (nI (3 * d1))) 1 (nI (3 * d2))) 2 (nI (3 * q1)))) 22 (upd (upd (upd (upd (st1.2 22) 0 (nI (3 * d1))) 1 (nI (3 * d2))) 2 (nI (3 * q1))) 3 (nI (3 * q2))) := ⟨_, rfl⟩
  have z20 : st2.2 20 = st1.2 20 := by rw [hB]; rfl
  have z21 : st2.2 21 = st1.2 21 := by rw [hB]; rfl
  have z22 : st2.2 22 = upd (upd (upd (upd (st1.2 22) 0 (nI (3 * d1))) 1 (nI (3 * d2))) 2 (nI (3 * q1))) 3 (nI (3 * q2)) := by rw [hB]; rfl
  have fs2 : FS st1 st2 := by
    rw [hB]
    exact (((FS.A st1 (Or.inr (Or.inr (Or.inl rfl))) _).tr (FS.A _ (Or.inr (Or.inr (Or.inl rfl))) _)).tr (FS.A _ (Or.inr (Or.inr (Or.inl rfl))) _)).tr (FS.A _ (Or.inr (Or.inr (Or.inl rfl))) _)
  obtain ⟨rI, hrI⟩ : ∃ rI, rI = aL (aL (aL (aL rT (3 * d1 + 1) (3 * q1 + 1)) (3 * d1 + 2) (3 * q2 + 1)) (3 * d2 + 1) (3 * q1 + 2)) (3 * d2 + 2) (3 * q2 + 2) := ⟨_, rfl⟩
  have lkI : lk rI = lk2 (lk2 (lk2 (lk2 (lk r) (3 * d1 + 1) (3 * q1 + 1)) (3 * d1 + 2) (3 * q2 + 1)) (3 * d2 + 1) (3 * q1 + 2)) (3 * d2 + 2) (3 * q2 + 2) := by
    rw [hrI, lk_aL, lk_aL, lk_aL, lk_aL, hrT, lk_ur (by omega), lkn, tl]
  have o4 : ∀ k, k < 4 → oo one two k = 3 * one + 1 ∧ k = 0 ∨ oo one two k = 3 * one + 2 ∧ k = 1 ∨ oo one two k = 3 * two + 1 ∧ k = 2 ∨ oo one two k = 3 * two + 2 ∧ k = 3 := fun k hk => by
    have : k = 0 ∨ k = 1 ∨ k = 2 ∨ k = 3 := by omega
    rcases this with rfl | rfl | rfl | rfl
    · exact Or.inl ⟨rfl, rfl⟩
    · exact Or.inr (Or.inl ⟨rfl, rfl⟩)
    · exact Or.inr (Or.inr (Or.inl ⟨rfl, rfl⟩))
    · exact Or.inr (Or.inr (Or.inr ⟨rfl, rfl⟩))
  have oE : ∀ k, k < 4 → Em (xP r) (3 * x) (3 * y) (oo one two k) := fun k hk => by
    rcases o4 k hk with ⟨z, _⟩ | ⟨z, _⟩ | ⟨z, _⟩ | ⟨z, _⟩ <;> rw [z] <;> assumption
  obtain ⟨r', g4, g5, g6, g7⟩ := m_hands_ok (st := st2) (E := Em (xP r) (3 * x) (3 * y)) (L := lk r) (σ := σ) (o := oo one two) (s := fun k => if k = 0 then 3 * d1 else if k = 1 then 3 * d2 else if k = 2 then 3 * q1 else 3 * q2) (many := 4) (by omega) hmt inj (fun k hk => by
      refine ⟨oE k hk, ?_⟩
      rcases o4 k hk with ⟨z, rfl⟩ | ⟨z, rfl⟩ | ⟨z, rfl⟩ | ⟨z, rfl⟩ <;> rw [z]
      · exact σ1
      · exact σ2
      · exact σ3
      · exact σ4) (fun p hp => ⟨σlt p hp, xP_lt hp.1⟩) (fun k hk => by
      rw [z21, (f3 k (by omega)).2, show ur r (8 + ru r x) (r (8 + ru r x) + 1) (630 + oo one two k) = r (630 + oo one two k) from ur_n (by omega)]
      rfl) (fun k hk => by
      rw [z22]
      rcases o4 k hk with ⟨z, rfl⟩ | ⟨z, rfl⟩ | ⟨z, rfl⟩ | ⟨z, rfl⟩ <;> simp [upd_at]) (fun k hk => by
      have gE := (hmt _ (oE k hk)).1
      have glt := xP_lt gE.1
      rw [z20]
      by_cases w : ∃ j, j < 4 ∧ lk r (oo one two k) = oo one two j
      · obtain ⟨j, hj, ej⟩ := w
        refine Or.inr ⟨j, hj, oI_j hj (by rw [(f3 j hj).1, ej]) (fun i hi z => ?_), ej⟩
        rw [(f3 i (by omega)).1, ej, nI_eq (by have := oo_lt (k := i) o12.1 o12.2.1; omega) (by have := oo_lt (k := j) o12.1 o12.2.1; omega)] at z
        rcases o4 i (by omega) with ⟨z1, z2⟩ | ⟨z1, z2⟩ | ⟨z1, z2⟩ | ⟨z1, z2⟩ <;> rcases o4 j hj with ⟨z3, z4⟩ | ⟨z3, z4⟩ | ⟨z3, z4⟩ | ⟨z3, z4⟩ <;> omega
      · refine Or.inl ⟨oI_e (fun j hj z => w ⟨j, hj, ?_⟩), σo _ gE (fun z => w ⟨0, by omega, z⟩) (fun z => w ⟨1, by omega, z⟩) (fun z => w ⟨2, by omega, z⟩) (fun z => w ⟨3, by omega, z⟩)⟩
        rw [(f3 j hj).1, nI_eq (by have := oo_lt (k := j) o12.1 o12.2.1; omega) (by omega)] at z
        exact z.symm) rI
  -- no old place bears a new inner name
  have σin : ∀ p n j, Em (xP r) (3 * x) (3 * y) p → (n = d1 ∨ n = d2 ∨ n = q1 ∨ n = q2) → (j = 1 ∨ j = 2) → 3 * n + j ≠ σ p := by
    intro p n j hp hn hj z
    have e4 : E4 (3 * n + j) := (inE4 _).mpr (Or.inr ⟨by omega, by omega⟩)
    have τn : τ (3 * n + j) = 3 * n + j := τo _ (by omega) (by omega) (by omega) (by omega)
    rw [← hρ] at z
    have := rf.2.2 _ _ e4 ((inE4 _).mpr (Or.inl (gE p hp).1)) (τn.trans z)
    exact fr n j (by omega) hn (by rw [this]; exact (gE p hp).1)
  have link : ∀ p, Em (xP r) (3 * x) (3 * y) p → lk r' (σ p) = σ (lk r p) := by
    intro p hp
    apply g7 p hp
    by_cases w : ∃ j, j < 4 ∧ (p = oo one two j ∨ lk r p = oo one two j)
    · exact Or.inl w
    · refine Or.inr ?_
      have a : ∀ j, j < 4 → p ≠ oo one two j := fun j hj z => w ⟨j, hj, Or.inl z⟩
      have b : ∀ j, j < 4 → lk r p ≠ oo one two j := fun j hj z => w ⟨j, hj, Or.inr z⟩
      have s1 : σ p = p := σo p hp (a 0 (by omega)) (a 1 (by omega)) (a 2 (by omega)) (a 3 (by omega))
      have s2 : σ (lk r p) = lk r p := σo _ (hmt p hp).1 (b 0 (by omega)) (b 1 (by omega)) (b 2 (by omega)) (b 3 (by omega))
      have ni : ∀ n j, (n = d1 ∨ n = d2 ∨ n = q1 ∨ n = q2) → (j = 1 ∨ j = 2) → p ≠ 3 * n + j := fun n j hn hj z => σin p n j hp hn hj (by rw [s1, z])
      rw [s1, s2, lkI, lk2_o _ (ni d2 2 (by omega) (by omega)) (ni q2 2 (by omega) (by omega)), lk2_o _ (ni d2 1 (by omega) (by omega)) (ni q1 2 (by omega) (by omega)), lk2_o _ (ni d1 2 (by omega) (by omega)) (ni q2 1 (by omega) (by omega)), lk2_o _ (ni d1 1 (by omega) (by omega)) (ni q1 1 (by omega) (by omega))]
  have inner : ∀ n j, (n = d1 ∨ n = d2 ∨ n = q1 ∨ n = q2) → (j = 1 ∨ j = 2) → lk r' (3 * n + j) = L4 (3 * n + j) := by
    intro n j hn hj
    rw [g6 _ (fun p hp => σin p n j hp hn hj), lkI, ← hL4]
    unfold lk2
    simp only [ur_at]
    by_cases c1 : 3 * n + j = 3 * q2 + 2
    · rw [if_pos c1, if_pos c1]
    · rw [if_neg c1, if_neg c1]
      by_cases c2 : 3 * n + j = 3 * d2 + 2
      · rw [if_pos c2, if_pos c2]
      · rw [if_neg c2, if_neg c2]
        by_cases c3 : 3 * n + j = 3 * q1 + 2
        · rw [if_pos c3, if_pos c3]
        · rw [if_neg c3, if_neg c3]
          by_cases c4 : 3 * n + j = 3 * d2 + 1
          · rw [if_pos c4, if_pos c4]
          · rw [if_neg c4, if_neg c4]
            by_cases c5 : 3 * n + j = 3 * q2 + 1
            · rw [if_pos c5, if_pos c5]
            · rw [if_neg c5, if_neg c5]
              by_cases c6 : 3 * n + j = 3 * d1 + 2
              · rw [if_pos c6, if_pos c6]
              · rw [if_neg c6, if_neg c6]
                by_cases c7 : 3 * n + j = 3 * q1 + 1
                · rw [if_pos c7, if_pos c7]
                · rw [if_neg c7, if_neg c7]
                  by_cases c8 : 3 * n + j = 3 * d1 + 1
                  · rw [if_pos c8, if_pos c8]
                  · omega
  obtain ⟨uu1, uu2⟩ := n_155_ok (v := ru r x) (by omega) cD
  have lo : ∀ j, j < 630 → r' j = ur (mK (mK (mK (mK t 2) 2) 1) 1) (8 + ru r x) (mK (mK (mK (mK t 2) 2) 1) 1 (8 + ru r x) + 1) j := fun j hj => by
    rw [g5 j hj, hrI, aL_lo hj, aL_lo hj, aL_lo hj, aL_lo hj, hrT, e8 (8 + ru r x) (by omega) (by omega)]
  have lo2 : ∀ j, 14 ≤ j → j < 330 → r' j = mK (mK (mK (mK t 2) 2) 1) 1 j := fun j h1 h2 => by rw [lo j (by omega), ur_n (by omega)]
  have lo3 : ∀ j, 14 ≤ j → j < 30 → r' j = t j := fun j h1 h2 => by rw [lo2 j h1 (by omega), e8 j (by omega) (by omega)]
  have kr : ∀ m, m < 300 → r' (30 + m) = if m = q2 then 2 else if m = q1 then 2 else if m = d2 then 3 else if m = d1 then 3 else t (30 + m) := fun m hm => by rw [lo2 _ (by omega) (by omega), kn]
  have krn : ∀ m, (m = d1 ∨ m = d2 ∨ m = q1 ∨ m = q2) → 1 < r' (30 + m) := by
    intro m hh
    rw [kr m (by omega)]
    split
    · omega
    · split
      · omega
      · split
        · omega
        · split <;> omega
  have kro : ∀ m, m < 300 → ¬ (m = d1 ∨ m = d2 ∨ m = q1 ∨ m = q2) → r' (30 + m) = t (30 + m) := by
    intro m hm hh
    rw [kr m hm, if_neg (by omega), if_neg (by omega), if_neg (by omega), if_neg (by omega)]
  have cm : CM r' (nsA sD' 3 (upd (na sD' 3) (ru r x) (na sD' 3 (ru r x) + 1))) := CM_lo lo (by rw [ur_n (by omega)]; obtain ⟨⟨z0, z1, z2⟩, _⟩ := wd; omega) uu2
  have xt : ∀ p, xP t p → Em (xP r) (3 * x) (3 * y) p ∧ σ p = p := by
    intro p hp
    obtain ⟨a, b⟩ := (xr p).mp hp
    have hE : Em (xP r) (3 * x) (3 * y) p := ⟨a, by omega, by omega⟩
    exact ⟨hE, σo p hE (by omega) (by omega) (by omega) (by omega)⟩
  have xnew : ∀ p, p < 900 → (p / 3 = d1 ∨ p / 3 = d2 ∨ p / 3 = q1 ∨ p / 3 = q2) → xP r' p := fun p h9 hh => Or.inl ⟨h9, by have := krn _ hh; omega, Or.inr (krn _ hh)⟩
  have xold : ∀ p, (p < 900 → ¬ (p / 3 = d1 ∨ p / 3 = d2 ∨ p / 3 = q1 ∨ p / 3 = q2)) → (xP r' p ↔ xP t p) := by
    intro p hh
    unfold xP
    by_cases q : p < 900
    · rw [kro _ (by omega) (hh q)]
      constructor
      · rintro (a | a)
        · exact Or.inl a
        · omega
      · rintro (a | a)
        · exact Or.inl a
        · omega
    · constructor
      · rintro (a | ⟨a, b, c⟩)
        · omega
        · rw [lo3 _ (by omega) (by omega)] at c
          exact Or.inr ⟨a, b, c⟩
      · rintro (a | ⟨a, b, c⟩)
        · omega
        · rw [← lo3 _ (by omega) (by omega)] at c
          exact Or.inr ⟨a, b, c⟩
  obtain ⟨EF, hEF⟩ : ∃ EF, EF = Er (Er (Er (Er E4 A (3 * d1)) (A + 1) (3 * d2)) B (3 * q1)) (B + 1) (3 * q2) := ⟨_, rfl⟩
  obtain ⟨LF, hLF⟩ : ∃ LF, LF = rl (rl (rl (rl L4 A (3 * d1)) (A + 1) (3 * d2)) B (3 * q1)) (B + 1) (3 * q2) := ⟨_, rfl⟩
  rw [← hEF, ← hLF] at rf m8
  rw [← hEF] at t8
  have fromE : ∀ p, Em (xP r) (3 * x) (3 * y) p → EF (σ p) := fun p hp => by
    rw [← hρ]
    exact (rf.1 _ ((inE4 _).mpr (Or.inl (gE p hp).1))).1
  have fromN : ∀ n j, (n = d1 ∨ n = d2 ∨ n = q1 ∨ n = q2) → (j = 1 ∨ j = 2) → EF (3 * n + j) := fun n j hn hj => by
    have := (rf.1 (3 * n + j) ((inE4 _).mpr (Or.inr ⟨by omega, by omega⟩))).1
    rw [τo _ (by omega) (by omega) (by omega) (by omega)] at this
    exact this
  have hE : ∀ p, xP r' p ↔ EF p := by
    intro p
    constructor
    · intro a
      by_cases nw : p < 900 ∧ (p / 3 = d1 ∨ p / 3 = d2 ∨ p / 3 = q1 ∨ p / 3 = q2)
      · by_cases m0 : p % 3 = 0
        · have hh : p = 3 * d1 ∨ p = 3 * d2 ∨ p = 3 * q1 ∨ p = 3 * q2 := by omega
          rcases hh with z | z | z | z
          · rw [z, ← σ1]; exact fromE _ x1
          · rw [z, ← σ2]; exact fromE _ x2
          · rw [z, ← σ3]; exact fromE _ y1
          · rw [z, ← σ4]; exact fromE _ y2
        · have := fromN (p / 3) (p % 3) nw.2 (by omega)
          rw [show 3 * (p / 3) + p % 3 = p by omega] at this
          exact this
      · have ht := (xold p (fun h9 z => nw ⟨h9, z⟩)).mp a
        obtain ⟨b1, b2⟩ := xt p ht
        rw [← b2]
        exact fromE p b1
    · intro a
      obtain ⟨q, hq, z⟩ := rf.2.1 p a
      rcases (inE4 q).mp hq with w | w
      · obtain ⟨q0, hq0, z0⟩ := rn.2.1 q w
        have zs : p = σ q0 := by rw [z, z0, ← hρ]
        by_cases c1 : q0 = 3 * one + 1
        · rw [zs, c1, σ1]; exact xnew _ (by omega) (by omega)
        · by_cases c2 : q0 = 3 * one + 2
          · rw [zs, c2, σ2]; exact xnew _ (by omega) (by omega)
          · by_cases c3 : q0 = 3 * two + 1
            · rw [zs, c3, σ3]; exact xnew _ (by omega) (by omega)
            · by_cases c4 : q0 = 3 * two + 2
              · rw [zs, c4, σ4]; exact xnew _ (by omega) (by omega)
              · rw [σo q0 hq0 c1 c2 c3 c4] at zs
                subst zs
                have ht : xP t p := (xr p).mpr ⟨hq0.1, fun z => by
                  have n1 := hq0.2
                  omega⟩
                refine (xold p (fun h9 z => ?_)).mpr ht
                unfold xP at ht
                rcases z with z | z | z | z <;> rw [z] at ht <;> omega
      · have h16 : q < 1016 := by omega
        rw [τo q (by omega) (by omega) (by omega) (by omega)] at z
        rw [z]
        exact xnew q (by omega) w.1
  have hL : ∀ p, EF p → lk r' p = LF p := by
    intro p a
    obtain ⟨q, hq, z⟩ := rf.2.1 p a
    have hl := (rf.1 q hq).2
    rw [← z] at hl
    rw [hl]
    rcases (inE4 q).mp hq with w | w
    · obtain ⟨q0, hq0, z0⟩ := rn.2.1 q w
      have zs : p = σ q0 := by rw [z, z0, ← hρ]
      rw [zs, link q0 hq0, oldL4 q w, z0, (gE q0 hq0).2, ← hρ]
    · have h16 : q < 1016 := by omega
      have zq : p = q := by rw [z, τo q (by omega) (by omega) (by omega) (by omega)]
      have := inner (q / 3) (q % 3) w.1 (by omega)
      rw [show 3 * (q / 3) + q % 3 = q by omega] at this
      rw [zq, this]
      have hin : (L4 q) / 3 = d1 ∨ (L4 q) / 3 = d2 ∨ (L4 q) / 3 = q1 ∨ (L4 q) / 3 = q2 := by
        rw [← hL4]
        exact inner_in w.1 w.2
      rw [τo _ (by omega) (by omega) (by omega) (by omega)]
  have krr : ∀ m, m < 300 → Kr r' m = Kr (mK (mK (mK (mK t 2) 2) 1) 1) m := fun m hm => lo2 _ (by omega) (by omega)
  have nd : CN EF LF (Kr r') (nsA sD' 3 (upd (na sD' 3) (ru r x) (na sD' 3 (ru r x) + 1))) := by
    refine ⟨m8.1, m8.2.1.cong (fun _ => Iff.rfl) (fun _ _ => rfl) (fun p _ h9 => krr _ (by omega)), fun m hm => ?_⟩
    rw [krr m hm]
    exact m8.2.2 m hm
  have nlD : nl sD' = nl sn := by rw [v8.gl, v7.gl, v6.gl, v5.gl, nl4]
  have fin := NC_fin (t := r') (sn := nsA sD' 3 (upd (na sD' 3) (ru r x) (na sD' 3 (ru r x) + 1))) (WM_lo lo (WM_ur (by omega) (by omega) wd)) (WR_lo (fun j hj => by
      rcases hj with rfl | hj
      · rw [lo 6 (by omega), ur_n (by omega), e8 6 (by omega) (by omega), ts 6 (by omega) (by omega)]
      · rw [lo3 j (by omega) (by omega), ts j (by omega) (by omega)]) hv.2.1) cm nd t8 (by show 1016 ≤ nl sD'; rw [nlD]; omega) hE hL
  refine ⟨r', st2, _, ?_, f2.tr fs2, ?_, fin.1, fin.2, ?_, ?_⟩
  · have eM1 : mK (ur t (8 + ru r x) (t (8 + ru r x) + 1)) 2 = ur (mK t 2) (8 + ru r x) (t (8 + ru r x) + 1) := mK_ur (by omega) (by omega)
    have eN1 : mN (ur t (8 + ru r x) (t (8 + ru r x) + 1)) = d1 := by rw [ed1]; exact mN_ur (by omega) (by omega)
    have eM2 : mK (ur (mK t 2) (8 + ru r x) (t (8 + ru r x) + 1)) 2 = ur (mK (mK t 2) 2) (8 + ru r x) (t (8 + ru r x) + 1) := mK_ur (by omega) (by omega)
    have eN2 : mN (ur (mK t 2) (8 + ru r x) (t (8 + ru r x) + 1)) = d2 := by rw [ed2]; exact mN_ur (by omega) (by omega)
    have eM3 : mK (ur (mK (mK t 2) 2) (8 + ru r x) (t (8 + ru r x) + 1)) 1 = ur (mK (mK (mK t 2) 2) 1) (8 + ru r x) (t (8 + ru r x) + 1) := mK_ur (by omega) (by omega)
    have eN3 : mN (ur (mK (mK t 2) 2) (8 + ru r x) (t (8 + ru r x) + 1)) = q1 := by rw [eq1]; exact mN_ur (by omega) (by omega)
    have eM4 : mK (ur (mK (mK (mK t 2) 2) 1) (8 + ru r x) (t (8 + ru r x) + 1)) 1 = rT := by rw [hrT]; exact mK_ur (by omega) (by omega)
    have eN4 : mN (ur (mK (mK (mK t 2) 2) 1) (8 + ru r x) (t (8 + ru r x) + 1)) = q2 := by rw [eq2]; exact mN_ur (by omega) (by omega)
    have u0 : ∀ s : Nat → Nat, s 1 < s 0 → ur s (8 + ru r x) (t (8 + ru r x) + 1) 1 < ur s (8 + ru r x) (t (8 + ru r x) + 1) 0 := fun s hs => by rw [ur_n (by omega), ur_n (by omega)]; exact hs
    rw [hm]
    unfold m_reduces_89
    simp only [nm_eq]
    rw [f1, bd_s, m_frees_ok w1 hx (by rw [k1]; exact kx), bd_s, m_frees_ok w2 hy ky8, bd_s, eT, if_neg (show ¬ nI (ru r x) = 0 from nI_ne0 (by omega) (by omega)), if_pos (show (3 : Int32) ≤ nI (ru r x) from nI_le (a := 3) (by omega) (by omega)), if_pos (show (5 : Int32) ≤ nI (ru r x) from nI_le (a := 5) (by omega) (by omega))]
    rw [i2, m_makes_ok (WM_ur (by omega) (by omega) tw) (u0 t ha), bd_s, eN1, eM1]
    simp only
    rw [m_makes_ok (WM_ur (by omega) (by omega) wa) (u0 _ hb), bd_s, eN2, eM2]
    simp only
    rw [i1, m_makes_ok (WM_ur (by omega) (by omega) wb) (u0 _ hc), bd_s, eN3, eM3]
    simp only
    rw [m_makes_ok (WM_ur (by omega) (by omega) wc) (u0 _ hd4), bd_s, eN4, eM4]
    simp only
    rw [i3, pk_mul, pk_mul, pk_mul, pk_mul, nI_add, nI_add, nI_add, nI_add, nI_add, nI_add, nI_add, nI_add, sR_o _ _ (by decide), sR_A _ _ (by decide), sR_o _ _ (by decide), sR_A _ _ (by decide), sR_o _ _ (by decide), sR_A _ _ (by decide), sR_o _ _ (by decide), sR_A _ _ (by decide), m_links_ok (by omega) (by omega), bd_s, m_links_ok (by omega) (by omega), bd_s, m_links_ok (by omega) (by omega), bd_s, m_links_ok (by omega) (by omega), bd_s, ← hrI, i4]
    rw [hB] at g4 ⊢
    exact bd_of g4 _
  · unfold n_rewrite
    have kne : ¬ kI (r (30 + x)) = kI (r (30 + y)) := by
      rw [kI_p kx, kI_p ky, nI_eq (by omega) (by omega)]
      rcases h12 with ⟨rfl, rfl⟩ | ⟨rfl, rfl⟩ <;> omega
    have er : n_rewrite_131 s9 (nI (ru r x)) (nI B) (nI A) = some (nI (ru r x), nsA sD' 3 (upd (na sD' 3) (ru r x) (na sD' 3 (ru r x) + 1))) := by
      unfold n_rewrite_131 n_commute
      rw [i2, a1, bd_s, b1, bd_s, i1, c1, bd_s, g1, bd_s, i3, pk_mul, pk_mul, pk_mul, pk_mul, nI_add, nI_add, nI_add, nI_add, nI_add, nI_add, nI_add, nI_add, nI_add, nI_add, e1, bd_s, e2, bd_s, e3, bd_s, e4, bd_s, i1', bd_s, i2', bd_s, i3', bd_s, i4', bd_s, bd_s, uu1]
      rfl
    rw [n_partnerOf_ok h hv hx kx hy e, bd_s, n_ruleOf_ok h hv hp, bd_s, n_kindOf_in h.1 hx, bd_s, n_kindOf_in h.1 hy, bd_s, p1, bd_s, p2, bd_s, p3, bd_s, p4, bd_s, p5, bd_s, if_neg kne, if_pos (show nI (ru r x) = 5 by rw [h0]; rfl), kI_p kx]
    unfold n_rewrite_116
    rcases hAB with ⟨rfl, rfl, ho, ht⟩ | ⟨rfl, rfl, ho, ht⟩
    · have kx2 : r (30 + x) = 2 := by rw [← ho]; exact k1'
      rw [kx2, if_pos (show nI (2 - 1) = 1 from rfl), if_neg (show ¬ nI (2 - 1) = 2 by decide)]
      exact er
    · have kx2 : r (30 + x) = 3 := by rw [← ht]; exact k2'
      rw [kx2, if_neg (show ¬ nI (3 - 1) = 1 by decide), if_pos (show nI (3 - 1) = 2 from rfl)]
      exact er
  · exact (show SN sn s9 from ⟨sn9.1, sn9.2.1, sn9.2.2⟩).tr (a3.sn.tr (b3.sn.tr (c3.sn.tr (g3.sn.tr (v1.sn.tr (v2.sn.tr (v3.sn.tr (v4.sn.tr (v5.sn.tr (v6.sn.tr (v7.sn.tr (v8.sn.tr ⟨rfl, rfl, rfl⟩))))))))))))
  · refine PK_of hv e e' hx hy xy (fun p a b c d f => ?_)
    have hb := b.2
    have hc := c.2
    have h9 := b.1
    have pE : Em (xP r) (3 * x) (3 * y) p := ⟨a, d, f⟩
    have l := link p pE
    rw [σo p pE (by omega) (by omega) (by omega) (by omega), σo _ (hmt p pE).1 (by omega) (by omega) (by omega) (by omega)] at l
    refine ⟨l, ?_⟩
    have kt : t (30 + p / 3) = r (30 + p / 3) := by rw [tk _ (by omega), if_neg (by omega), if_neg (by omega)]
    have kp : 0 < r (30 + p / 3) := (xP_hd (r := r) (x := p / 3) (by omega)).mp (by rw [show 3 * (p / 3) = p by omega]; exact a)
    rw [kro _ (by omega), kt]
    rintro (z | z | z | z) <;> rw [z] at kt kp <;> omega
/-- a pair that can go, goes, on both sides alike -/
theorem reduce_ok {st : OSt} {r : Nat → Nat} {sn : NSt} (hv : NV r) (h : NC r sn) (hn : 1020 ≤ nl sn) {x : Nat} (hr : rd r x = true) : RO st r sn x := by
  unfold rd at hr
  rw [Bool.and_eq_true, Bool.or_eq_true, decide_eq_true_iff, decide_eq_true_iff] at hr
  obtain ⟨hp, h5⟩ := hr
  have hle := ru_le hv hp
  have : ru r x = 0 ∨ (ru r x = 1 ∨ ru r x = 2) ∨ (ru r x = 3 ∨ ru r x = 4) ∨ ru r x = 5 := by omega
  rcases this with z | z | z | z
  · exact red_0 hv h hn hp z
  · exact red_12 hv h hn hp z
  · exact red_34 hv h hn hp z
  · exact red_5 hv h hn hp z (h5.resolve_left (fun w => w z))
