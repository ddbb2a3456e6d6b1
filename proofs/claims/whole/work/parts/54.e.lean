/-! an eraser and another one -/
theorem CN.no {E : Nat → Prop} {L K : Nat → Nat} {sn : NSt} (h : CN E L K sn) {n j : Nat} (hn : n < 300) (hj : j < 3) (hk : K n = 0) : ¬ E (3 * n + j) := fun z => by
  have := h.2.1.2.2.1 _ z (by omega)
  rw [show (3 * n + j) / 3 = n by omega] at this
  omega
/-- a node made: links stay -/
theorem CN.mk {E : Nat → Prop} {L r : Nat → Nat} {sn sn' : NSt} {k : Nat} (h : CN E L (Kr r) sn) (s : SK sn sn') (hw : WM r) (hr : r 1 < r 0) (hk : k ≤ 2) (c : CM (mK r k) sn') : CN E L (Kr (mK r k)) sn' := by
  have hn := mN_lt hw hr
  have w := mK_WM hw hr hk
  refine h.sk s (fun m hm => ⟨c.2.2.2.1 m hm, (w.2.1 m hm).1⟩) (fun p hp h9 => ?_)
  unfold Kr
  rw [mK_k, if_neg]
  intro z
  have := h.2.1.2.2.1 p hp h9
  unfold Kr at this
  rw [z] at this
  omega
theorem RT.sk {E : Nat → Prop} {sn sn' : NSt} (h : RT E sn) (s : SK sn sn') : RT E sn' := fun i hi hE => by
  rw [s.2.1]
  exact h i hi hE
theorem mK_lk {r : Nat → Nat} {k : Nat} (hn : mN r < 300) : lk (mK r k) = lk r := funext fun p => by
  unfold lk
  rw [show 630 + p = 330 + (300 + p) by omega, mK_l hn]
theorem red_34 {st : OSt} {r : Nat → Nat} {sn : NSt} (hv : NV r) (h : NC r sn) (hn : 1020 ≤ nl sn) {x : Nat} (hp : iP r x = true) (h0 : ru r x = 3 ∨ ru r x = 4) : RO st r sn x := by
  obtain ⟨y, ⟨hx, hy, xy⟩, ⟨e, e'⟩, ⟨kx, kx3⟩, ⟨ky, ky3⟩⟩ := iP_y hv hp
  have hru : ru r x ≤ 4 ∧ 3 ≤ ru r x := by omega
  obtain ⟨one, two, h12, hm, h34, _⟩ := m_red_start (st := st) hv hp hx hy e kx kx3 ky ky3
  obtain ⟨k1', k2'⟩ := h34 h0
  obtain ⟨s5, s6, s7, s8, s9, E1, L1, ⟨p1, p2, p3, p4, p5⟩, c9, n9, t9, rn, hmt, sn9⟩ := n_free2_ok h hv hn hx hy xy kx ky e e'
  obtain ⟨tw, tl, tk, ts, t1, t0, r2⟩ := t_facts hv hx hy xy kx ky
  have o12 : one < 300 ∧ two < 300 := by omega
  obtain ⟨st1, f1, f2, f3⟩ := m94_ok (st := st) (r := ur r (8 + ru r x) (r (8 + ru r x) + 1)) (v1 := nI x) (v2 := nI y) (v3 := nI (ru r x)) o12.1 o12.2
  have w1 : WM (ur r (8 + ru r x) (r (8 + ru r x) + 1)) := WM_ur (by omega) (by omega) hv.1
  have k1 : ∀ n, ur r (8 + ru r x) (r (8 + ru r x) + 1) (30 + n) = r (30 + n) := fun n => ur_n (by omega)
  have w2 := fK_WM w1 hx (by rw [k1]; exact kx)
  have eT : fK (fK (ur r (8 + ru r x) (r (8 + ru r x) + 1)) x) y = ur (fK (fK r x) y) (8 + ru r x) (fK (fK r x) y (8 + ru r x) + 1) := by
    rw [fK_ur (by omega) (by omega), fK_ur (by omega) (by omega), ts (8 + ru r x) (by omega) (by omega)]
  have ky8 : 0 < fK (ur r (8 + ru r x) (r (8 + ru r x) + 1)) x (30 + y) := by rw [fK_k hx hy, if_neg (by omega), k1]; exact ky
  have xr := t_xP hv hx hy xy kx ky
  have hr1 : r 1 ≤ r 0 := by obtain ⟨⟨z0, z1, z2⟩, _⟩ := hv.1; omega
  generalize hT : fK (fK r x) y = t at *
  -- two nodes are made
  have hr0 : t 1 < t 0 := by omega
  have n1 := mN_lt tw hr0
  have w3 := mK_WM tw hr0 (k := 0) (by omega)
  have hr3 : mK t 0 1 < mK t 0 0 := by rw [mK_1, mK_o (by omega) (by omega) (by omega) (by omega) (by omega)]; omega
  have n2 := mN_lt w3 hr3
  have ne12 : mN (mK t 0) ≠ mN t := fun z => by
    have := n2.2.2
    rw [z, mK_n] at this
    omega
  have n2t : t (30 + mN (mK t 0)) = 0 := by
    have := n2.2.2
    rw [mK_k, if_neg ne12] at this
    exact this
  obtain ⟨sa, a1, a2, a3⟩ := n_makes_ok c9 tw hr0 (k := 0)
  have na1 := n9.mk a3 tw hr0 (by omega) a2
  obtain ⟨sb, b1, b2, b3⟩ := n_makes_ok a2 w3 hr3 (k := 0)
  have nb1 := na1.mk b3 w3 hr3 (by omega) b2
  have tb := (t9.sk a3).sk b3
  have w4 := mK_WM w3 hr3 (k := 0) (by omega)
  have kn : ∀ m, mK (mK t 0) 0 (30 + m) = if m = mN (mK t 0) then 1 else if m = mN t then 1 else t (30 + m) := fun m => by rw [mK_k, mK_k]
  -- the wires
  obtain ⟨W, hW, hWc⟩ : ∃ W, (W = 1016 ∧ one = x ∨ W = 1018 ∧ one = y) ∧ 1016 ≤ W ∧ W + 1 < nl sn := by
    rcases h12 with ⟨z, _⟩ | ⟨z, _⟩
    · exact ⟨1016, Or.inl ⟨rfl, z⟩, by omega, by omega⟩
    · exact ⟨1018, Or.inr ⟨rfl, z⟩, by omega, by omega⟩
  have ex : ∀ j, j = 1 ∨ j = 2 → Em (xP r) (3 * x) (3 * y) (3 * one + j) := by
    intro j hj
    have a1 : (3 * one + j) / 3 = one := by omega
    exact ⟨Or.inl ⟨by omega, by rw [a1]; omega, Or.inr (by rw [a1]; exact k1')⟩, by omega, by omega⟩
  have x1 := ex 1 (Or.inl rfl)
  have x2 := ex 2 (Or.inr rfl)
  have two0 : ∀ p, xP r p → p < 900 → p / 3 = two → p = 3 * two := by
    intro p hp h9 hz
    unfold xP at hp
    rw [hz, k2'] at hp
    omega
  have gq : ∀ p, Em (xP r) (3 * x) (3 * y) p → (wg x y p = W ↔ p = 3 * one + 1) ∧ (wg x y p = W + 1 ↔ p = 3 * one + 2) ∧ (p ≠ 3 * one + 1 → p ≠ 3 * one + 2 → wg x y p = p) := by
    intro p hp
    have lt := xP_lt hp.1
    have q2 : p ≠ 3 * two + 1 ∧ p ≠ 3 * two + 2 := by
      constructor
      · intro z
        have := two0 p hp.1 (by omega) (by omega)
        omega
      · intro z
        have := two0 p hp.1 (by omega) (by omega)
        omega
    unfold wg
    by_cases a1 : p = 3 * x + 1
    · rw [if_pos a1]; omega
    · rw [if_neg a1]
      by_cases a2 : p = 3 * x + 2
      · rw [if_pos a2]; omega
      · rw [if_neg a2]
        by_cases a3 : p = 3 * y + 1
        · rw [if_pos a3]; omega
        · rw [if_neg a3]
          by_cases a4 : p = 3 * y + 2
          · rw [if_pos a4]; omega
          · rw [if_neg a4]; omega
  have g1 : wg x y (3 * one + 1) = W := (gq _ x1).1.mpr rfl
  have g2 : wg x y (3 * one + 2) = W + 1 := (gq _ x2).2.1.mpr rfl
  have q1 := (rn.1 _ x1).1
  have q2 := (rn.1 _ x2).1
  rw [g1] at q1
  rw [g2] at q2
  have nlb : nl sb = nl sn := by rw [b3.1, a3.1, sn9.1]
  have no1 : ¬ E1 (3 * mN t) := n9.no (j := 0) n1.1 (by omega) n1.2.2
  have no2 : ¬ E1 (3 * mN (mK t 0)) := n9.no (j := 0) n2.1 (by omega) n2t
  obtain ⟨sc, d1, d2, d3, d4, d5⟩ := mv_ok hmt rn nb1 tb q1 (fun z => by have := z.1; omega) (Or.inr hWc.1) no1 (by rw [nlb]; omega) (fun _ => by
    unfold Kr
    rw [show 3 * mN t / 3 = mN t by omega, kn, if_neg (Ne.symm ne12), if_pos rfl]
    omega)
  have q2' : Er E1 W (3 * mN t) (W + 1) := Or.inl ⟨q2, by omega⟩
  have no2' : ¬ Er E1 W (3 * mN t) (3 * mN (mK t 0)) := fun z => by
    rcases z with z | z
    · exact no2 z.1
    · omega
  obtain ⟨sd, g3, g4, g5, g6, g7⟩ := mv_ok hmt d5 d3 d4 q2' (fun z => by have := z.1; omega) (Or.inr (by omega)) no2' (by rw [d2.gl, nlb]; omega) (fun _ => by
    unfold Kr
    rw [show 3 * mN (mK t 0) / 3 = mN (mK t 0) by omega, kn, if_pos rfl]
    omega)
  have c4 : CM (mK (mK t 0) 0) sd := (b2.sl d2).sl g4
  -- the names in the end
  have rf := g7.cong (τ := fun p => if p = 3 * one + 1 then 3 * mN t else if p = 3 * one + 2 then 3 * mN (mK t 0) else p) hmt (fun p hp => by
    obtain ⟨z1, z2, z3⟩ := gq p hp
    have lt := xP_lt hp.1
    unfold sg
    by_cases a : p = 3 * one + 1
    · rw [if_pos a, if_pos (z1.mpr a), if_neg (by omega)]
    · rw [if_neg a, if_neg (mt z1.mp a)]
      by_cases b : p = 3 * one + 2
      · rw [if_pos b, if_pos (z2.mpr b)]
      · rw [if_neg b, if_neg (mt z2.mp b), z3 a b])
  generalize hσ : (fun p => if p = 3 * one + 1 then 3 * mN t else if p = 3 * one + 2 then 3 * mN (mK t 0) else p) = σ at rf
  have σ1 : σ (3 * one + 1) = 3 * mN t := by rw [← hσ]; simp
  have σ2 : σ (3 * one + 2) = 3 * mN (mK t 0) := by rw [← hσ]; simp
  have σo : ∀ p, p ≠ 3 * one + 1 → p ≠ 3 * one + 2 → σ p = p := fun p a b => by
    rw [← hσ]
    show (if p = 3 * one + 1 then 3 * mN t else if p = 3 * one + 2 then 3 * mN (mK t 0) else p) = p
    rw [if_neg a, if_neg b]
  -- the reference
  have hr1' : ur t (8 + ru r x) (t (8 + ru r x) + 1) 1 < ur t (8 + ru r x) (t (8 + ru r x) + 1) 0 := by rw [ur_n (by omega), ur_n (by omega)]; exact hr0
  have w1' : WM (ur t (8 + ru r x) (t (8 + ru r x) + 1)) := WM_ur (by omega) (by omega) tw
  have eM1 : mK (ur t (8 + ru r x) (t (8 + ru r x) + 1)) 0 = ur (mK t 0) (8 + ru r x) (t (8 + ru r x) + 1) := mK_ur (by omega) (by omega)
  have eN1 : mN (ur t (8 + ru r x) (t (8 + ru r x) + 1)) = mN t := mN_ur (by omega) (by omega)
  have hr2' : ur (mK t 0) (8 + ru r x) (t (8 + ru r x) + 1) 1 < ur (mK t 0) (8 + ru r x) (t (8 + ru r x) + 1) 0 := by rw [ur_n (by omega), ur_n (by omega)]; exact hr3
  have w2' : WM (ur (mK t 0) (8 + ru r x) (t (8 + ru r x) + 1)) := WM_ur (by omega) (by omega) w3
  have eM2 : mK (ur (mK t 0) (8 + ru r x) (t (8 + ru r x) + 1)) 0 = ur (mK (mK t 0) 0) (8 + ru r x) (t (8 + ru r x) + 1) := mK_ur (by omega) (by omega)
  have eN2 : mN (ur (mK t 0) (8 + ru r x) (t (8 + ru r x) + 1)) = mN (mK t 0) := mN_ur (by omega) (by omega)
  have lkT : lk (ur (mK (mK t 0) 0) (8 + ru r x) (t (8 + ru r x) + 1)) = lk r := by rw [lk_ur (by omega), mK_lk n2.1, mK_lk n1.1, tl]
  have e8 : t (8 + ru r x) = mK (mK t 0) 0 (8 + ru r x) := by rw [mK_s (by omega) (by omega), mK_s (by omega) (by omega)]
  generalize hB : sA (sA (sA (sA st1 20 (upd (st1.2 20) 2 (-1))) 20 (upd (upd (st1.2 20) 2 (-1)) 3 (-1))) 22 (upd (st1.2 22) 0 (nI (3 * mN t)))) 22 (upd (upd (st1.2 22) 0 (nI (3 * mN t))) 1 (nI (3 * mN (mK t 0)))) = st2
  have z20 : st2.2 20 = upd (upd (st1.2 20) 2 (-1)) 3 (-1) := by rw [← hB]; rfl
  have z21 : st2.2 21 = st1.2 21 := by rw [← hB]; rfl
  have z22 : st2.2 22 = upd (upd (st1.2 22) 0 (nI (3 * mN t))) 1 (nI (3 * mN (mK t 0))) := by rw [← hB]; rfl
  have fs2 : FS st1 st2 := by
    rw [← hB]
    exact (((FS.A st1 (Or.inl rfl) _).tr (FS.A _ (Or.inl rfl) _)).tr (FS.A _ (Or.inr (Or.inr (Or.inl rfl))) _)).tr (FS.A _ (Or.inr (Or.inr (Or.inl rfl))) _)
  have o0 : oo one two 0 = 3 * one + 1 := rfl
  have o1 : oo one two 1 = 3 * one + 2 := rfl
  have olt : ∀ k, k < 2 → oo one two k = 3 * one + 1 ∨ oo one two k = 3 * one + 2 := fun k hk => by
    have : k = 0 ∨ k = 1 := by omega
    rcases this with rfl | rfl
    · exact Or.inl rfl
    · exact Or.inr rfl
  have oE : ∀ k, k < 2 → Em (xP r) (3 * x) (3 * y) (oo one two k) := fun k hk => by
    rcases olt k hk with z | z <;> rw [z]
    · exact x1
    · exact x2
  obtain ⟨r', m1, m2, m3, m4⟩ := m_hands_ok (st := st2) (E := Em (xP r) (3 * x) (3 * y)) (L := lk r) (σ := σ) (o := oo one two) (s := fun k => if k = 0 then 3 * mN t else 3 * mN (mK t 0)) (many := 2) (by omega) hmt rf.2.2 (fun k hk => by
      refine ⟨oE k hk, ?_⟩
      have : k = 0 ∨ k = 1 := by omega
      rcases this with rfl | rfl
      · exact σ1
      · exact σ2) (fun p hp => by
      have lt := xP_lt hp.1
      refine ⟨?_, lt⟩
      by_cases a : p = 3 * one + 1
      · rw [a, σ1]; omega
      · by_cases b : p = 3 * one + 2
        · rw [b, σ2]; omega
        · rw [σo p a b]; exact lt) (fun k hk => by
      rw [z21, (f3 k (by omega)).2, show ur r (8 + ru r x) (r (8 + ru r x) + 1) (630 + oo one two k) = r (630 + oo one two k) from ur_n (by omega)]
      rfl) (fun k hk => by
      rw [z22]
      have : k = 0 ∨ k = 1 := by omega
      rcases this with rfl | rfl <;> simp [upd_at]) (fun k hk => by
      have gE := (hmt _ (oE k hk)).1
      have glt := xP_lt gE.1
      have v0 : (upd (upd (st1.2 20) 2 (-1)) 3 (-1)) 0 = nI (3 * one + 1) := by simp only [upd_at]; rw [if_neg (by decide), if_neg (by decide), (f3 0 (by omega)).1]; rfl
      have v1 : (upd (upd (st1.2 20) 2 (-1)) 3 (-1)) 1 = nI (3 * one + 2) := by simp only [upd_at]; rw [if_neg (by decide), if_neg (by decide), (f3 1 (by omega)).1]; rfl
      have v2 : (upd (upd (st1.2 20) 2 (-1)) 3 (-1)) 2 = -1 := by simp [upd_at]
      have v3 : (upd (upd (st1.2 20) 2 (-1)) 3 (-1)) 3 = -1 := by simp [upd_at]
      rw [z20]
      by_cases a : lk r (oo one two k) = 3 * one + 1
      · refine Or.inr ⟨0, by omega, oI_j (by omega) (by rw [v0, a]) (fun j hj => absurd hj (Nat.not_lt_zero _)), a⟩
      · by_cases b : lk r (oo one two k) = 3 * one + 2
        · refine Or.inr ⟨1, by omega, oI_j (by omega) (by rw [v1, b]) (fun j hj => ?_), b⟩
          have : j = 0 := by omega
          rw [this, v0, b]
          intro z
          rw [nI_eq (by omega) (by omega)] at z
          omega
        · refine Or.inl ⟨oI_e (fun j hj => ?_), σo _ a b⟩
          have : j = 0 ∨ j = 1 ∨ j = 2 ∨ j = 3 := by omega
          rcases this with rfl | rfl | rfl | rfl
          · rw [v0]; intro z; rw [nI_eq (by omega) (by omega)] at z; exact a z.symm
          · rw [v1]; intro z; rw [nI_eq (by omega) (by omega)] at z; exact b z.symm
          · rw [v2]; intro z; exact ne_m1 (by omega) z.symm
          · rw [v3]; intro z; exact ne_m1 (by omega) z.symm) (ur (mK (mK t 0) 0) (8 + ru r x) (t (8 + ru r x) + 1))
  have link : ∀ p, Em (xP r) (3 * x) (3 * y) p → lk r' (σ p) = σ (lk r p) := by
    intro p hp
    apply m4 p hp
    by_cases a : p = 3 * one + 1
    · exact Or.inl ⟨0, by omega, Or.inl a⟩
    · by_cases b : p = 3 * one + 2
      · exact Or.inl ⟨1, by omega, Or.inl b⟩
      · by_cases c : lk r p = 3 * one + 1
        · exact Or.inl ⟨0, by omega, Or.inr c⟩
        · by_cases d : lk r p = 3 * one + 2
          · exact Or.inl ⟨1, by omega, Or.inr d⟩
          · refine Or.inr ?_
            rw [σo p a b, σo _ c d, lkT]
  obtain ⟨u1, u2⟩ := n_155_ok (v := ru r x) (by omega) c4
  have lo : ∀ j, j < 630 → r' j = ur (mK (mK t 0) 0) (8 + ru r x) (mK (mK t 0) 0 (8 + ru r x) + 1) j := fun j hj => by rw [m2 j hj, e8]
  have lo2 : ∀ j, 14 ≤ j → j < 330 → r' j = mK (mK t 0) 0 j := fun j h1 h2 => by rw [lo j (by omega), ur_n (by omega)]
  have lo3 : ∀ j, 14 ≤ j → j < 30 → r' j = t j := fun j h1 h2 => by rw [lo2 j h1 (by omega), mK_s (by omega) (by omega), mK_s (by omega) (by omega)]
  have cm : CM r' (nsA sd 3 (upd (na sd 3) (ru r x) (na sd 3 (ru r x) + 1))) := CM_lo lo (by rw [ur_n (by omega)]; obtain ⟨⟨z0, z1, z2⟩, _⟩ := w4; omega) u2
  have kr : ∀ m, m < 300 → r' (30 + m) = if m = mN (mK t 0) then 1 else if m = mN t then 1 else t (30 + m) := fun m hm => by rw [lo2 _ (by omega) (by omega), kn]
  have xt : ∀ p, xP t p → Em (xP r) (3 * x) (3 * y) p ∧ σ p = p := by
    intro p hp
    obtain ⟨a, b⟩ := (xr p).mp hp
    refine ⟨⟨a, by omega, by omega⟩, σo p (by omega) (by omega)⟩
  have hE : ∀ p, xP r' p ↔ Er (Er E1 W (3 * mN t)) (W + 1) (3 * mN (mK t 0)) p := by
    intro p
    constructor
    · intro a
      by_cases c1 : p = 3 * mN t
      · have := (rf.1 _ x1).1
        rw [σ1] at this
        rw [c1]
        exact this
      · by_cases c2 : p = 3 * mN (mK t 0)
        · have := (rf.1 _ x2).1
          rw [σ2] at this
          rw [c2]
          exact this
        · have hp : xP t p := by
            unfold xP at a ⊢
            by_cases q : p < 900
            · rw [kr _ (by omega)] at a
              by_cases c3 : p / 3 = mN (mK t 0)
              · rw [if_pos c3] at a; omega
              · rw [if_neg c3] at a
                by_cases c4 : p / 3 = mN t
                · rw [if_pos c4] at a; omega
                · rw [if_neg c4] at a
                  rcases a with a | a
                  · exact Or.inl a
                  · omega
            · rcases a with a | ⟨b1, b2, b3⟩
              · omega
              · rw [lo3 _ (by omega) (by omega)] at b3
                exact Or.inr ⟨b1, b2, b3⟩
          obtain ⟨b1, b2⟩ := xt p hp
          have := (rf.1 p b1).1
          rw [b2] at this
          exact this
    · intro a
      obtain ⟨q, hq, z⟩ := rf.2.1 p a
      by_cases c1 : q = 3 * one + 1
      · rw [c1, σ1] at z
        rw [z]
        refine (xP_hd n1.1).mpr ?_
        rw [kr _ n1.1, if_neg (Ne.symm ne12), if_pos rfl]
        omega
      · by_cases c2 : q = 3 * one + 2
        · rw [c2, σ2] at z
          rw [z]
          refine (xP_hd n2.1).mpr ?_
          rw [kr _ n2.1, if_pos rfl]
          omega
        · rw [σo q c1 c2] at z
          subst z
          have ht : xP t p := (xr p).mpr ⟨hq.1, fun z => by
            have n1 := hq.2
            have n2 := two0 p hq.1 z.1
            omega⟩
          unfold xP at ht ⊢
          by_cases q : p < 900
          · rw [kr _ (by omega)]
            by_cases c3 : p / 3 = mN (mK t 0)
            · rw [c3] at ht; omega
            · rw [if_neg c3]
              by_cases c4 : p / 3 = mN t
              · rw [c4] at ht; omega
              · rw [if_neg c4]
                rcases ht with a | a
                · exact Or.inl a
                · omega
          · rcases ht with a | ⟨b1, b2, b3⟩
            · omega
            · rw [← lo3 _ (by omega) (by omega)] at b3
              exact Or.inr ⟨b1, b2, b3⟩
  have hL : ∀ p, Er (Er E1 W (3 * mN t)) (W + 1) (3 * mN (mK t 0)) p → lk r' p = rl (rl L1 W (3 * mN t)) (W + 1) (3 * mN (mK t 0)) p := by
    intro p a
    obtain ⟨q, hq, rfl⟩ := rf.2.1 p a
    rw [(rf.1 q hq).2, link q hq]
  have krr : ∀ m, m < 300 → Kr r' m = Kr (mK (mK t 0) 0) m := fun m hm => lo2 _ (by omega) (by omega)
  have nd : CN (Er (Er E1 W (3 * mN t)) (W + 1) (3 * mN (mK t 0))) (rl (rl L1 W (3 * mN t)) (W + 1) (3 * mN (mK t 0))) (Kr r') (nsA sd 3 (upd (na sd 3) (ru r x) (na sd 3 (ru r x) + 1))) := by
    refine ⟨g5.1, g5.2.1.cong (fun _ => Iff.rfl) (fun _ _ => rfl) (fun p _ h9 => krr _ (by omega)), fun m hm => ?_⟩
    rw [krr m hm]
    exact g5.2.2 m hm
  have fin := NC_fin (t := r') (sn := nsA sd 3 (upd (na sd 3) (ru r x) (na sd 3 (ru r x) + 1))) (WM_lo lo (WM_ur (by omega) (by omega) w4)) (WR_lo (fun j hj => by
      rcases hj with rfl | hj
      · rw [lo 6 (by omega), ur_n (by omega), mK_s (by omega) (by omega), mK_s (by omega) (by omega), ts 6 (by omega) (by omega)]
      · rw [lo3 j (by omega) (by omega), ts j (by omega) (by omega)]) hv.2.1) cm nd g6 (by show 1016 ≤ nl sd; rw [g4.gl, d2.gl, nlb]; omega) hE hL
  refine ⟨r', st2, _, ?_, f2.tr fs2, ?_, fin.1, fin.2, ?_, ?_⟩
  · rw [hm]
    unfold m_reduces_89
    simp only [nm_eq]
    rw [f1, bd_s, m_frees_ok w1 hx (by rw [k1]; exact kx), bd_s, m_frees_ok w2 hy ky8, bd_s, eT, if_neg (show ¬ nI (ru r x) = 0 from nI_ne0 (by omega) (by omega)), if_pos (show (3 : Int32) ≤ nI (ru r x) from nI_le (a := 3) (by omega) (by omega)), if_neg (show ¬ (5 : Int32) ≤ nI (ru r x) from nI_ge (b := 5) (by omega) (by omega))]
    rw [sR_o _ _ (by decide), sR_A _ _ (by decide), sR_o _ _ (by decide), sR_A _ _ (by decide), i0, m_makes_ok w1' hr1', bd_s, eN1, eM1]
    simp only
    rw [sR_o _ _ (by decide), sR_A _ _ (by decide), i3, pk_mul, m_makes_ok w2' hr2', bd_s, eN2, eM2]
    simp only
    rw [sR_o _ _ (by decide), sR_A _ _ (by decide), pk_mul]
    rw [i2]
    rw [← hB] at m1 ⊢
    exact bd_of m1 _
  · unfold n_rewrite
    have kne : ¬ kI (r (30 + x)) = kI (r (30 + y)) := by
      rw [kI_p kx, kI_p ky, nI_eq (by omega) (by omega)]
      rcases h12 with ⟨rfl, rfl⟩ | ⟨rfl, rfl⟩ <;> omega
    have er : ∀ w : Nat, w = W → n_rewrite_152 s9 (nI (ru r x)) (nI w) = some (nI (ru r x), nsA sd 3 (upd (na sd 3) (ru r x) (na sd 3 (ru r x) + 1))) := by
      intro w hw
      subst hw
      unfold n_rewrite_152 n_erase
      rw [i0, a1, bd_s, b1, bd_s, i3, pk_mul, pk_mul, i1, nI_add, d1, bd_s, g3, bd_s, bd_s, u1]
      rfl
    rw [n_partnerOf_ok h hv hx kx hy e, bd_s, n_ruleOf_ok h hv hp, bd_s, n_kindOf_in h.1 hx, bd_s, n_kindOf_in h.1 hy, bd_s, p1, bd_s, p2, bd_s, p3, bd_s, p4, bd_s, p5, bd_s, if_neg kne, if_neg (show ¬ nI (ru r x) = 5 by rw [i5, nI_eq (by omega) (by omega)]; omega), kI_p kx]
    rcases hW with ⟨rfl, ho⟩ | ⟨rfl, ho⟩
    · rw [if_neg (show ¬ nI (r (30 + x) - 1) = 0 from nI_ne0 (by rw [← ho]; omega) (by omega))]
      exact er 1016 rfl
    · rw [if_pos (show nI (r (30 + x) - 1) = 0 by
        have : r (30 + x) = 1 := by
          rcases h12 with ⟨z, _⟩ | ⟨_, z⟩
          · omega
          · rw [← z]; exact k2'
        rw [this]; rfl)]
      exact er 1018 rfl
  · exact (show SN sn s9 from ⟨sn9.1, sn9.2.1, sn9.2.2⟩).tr (a3.sn.tr (b3.sn.tr (d2.sn.tr (g4.sn.tr ⟨rfl, rfl, rfl⟩))))
  · refine PK_of hv e e' hx hy xy (fun p a b c d f => ?_)
    have hb := b.2
    have hc := c.2
    have h9 := b.1
    have pE : Em (xP r) (3 * x) (3 * y) p := ⟨a, d, f⟩
    have l := link p pE
    rw [σo p (by omega) (by omega), σo _ (by omega) (by omega)] at l
    refine ⟨l, ?_⟩
    have kt : t (30 + p / 3) = r (30 + p / 3) := by rw [tk _ (by omega), if_neg (by omega), if_neg (by omega)]
    have kp : 0 < r (30 + p / 3) := by
      have := (xP_hd (r := r) (x := p / 3) (by omega)).mp (by rw [show 3 * (p / 3) = p by omega]; exact a)
      exact this
    rw [kr _ (by omega), if_neg, if_neg, kt]
    · intro z; rw [z, n1.2.2] at kt; rw [z] at kp; omega
    · intro z; rw [z, n2t] at kt; rw [z] at kp; omega
