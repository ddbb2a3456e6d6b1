/-! by hand: a root split or doubled; two roots joined -/
theorem split_core {r : Nat → Nat} {sn : NSt} {st : OSt} (hv : NV r) (h : NC r sn) {a k : Nat} (ha : a < 16) (h1 : r (14 + a) = 1) (hk : k = 1 ∨ k = 2) (hr : r 1 + 1 ≤ r 0) (hev : r 6 + 2 ≤ 16) :
    ∃ x s1 s2 s3 sn' r1 r2 r', n_make sn (nI k) = some (nI x, s1) ∧ n_endRoot s1 (nI a) (nI (3 * x)) = some s2 ∧ n_makeRoot s2 (nI (3 * x + 1)) = some (nI (r 6), s3) ∧ n_makeRoot s3 (nI (3 * x + 2)) = some (nI (r 6 + 1), sn') ∧
      m_makes (sR st r) (nI k) = some (nI x, sR st r1) ∧ r1 6 = r 6 ∧ (∀ v1 v4, m_parts_54 20000 (sR st r1) v1 (nI x) v4 1 = some (sR st r2)) ∧ m_replaces (sR st r2) (nI a) (nI (3 * x)) = some (sR st r') ∧ NV r' ∧ NC r' sn' ∧ SN sn sn' := by
  have hm := m_makes_ok (st := st) hv.1 (show r 1 < r 0 by omega) (k := k)
  obtain ⟨s1, a1, a2, a3, a4, a5, a6, a7, a8⟩ := (quies (wl := fun _ => 0) hv h).mk (by omega) (k := k) (by omega)
  have hl := h.2.2.1
  generalize hx : mN r = x at *
  obtain ⟨⟨w, c, n, t⟩, e1, e2, e3, e4, e5⟩ := a3
  have ra : xP r (1000 + a) := root_xP ha h1
  have hL1 : lk (mK r k) = lk r := mK_lk (by rw [hx]; exact a5)
  have lt := hv.lk3 ra
  have k6 : mK r k 6 = r 6 := mK_s (by omega) (by omega)
  have kx : Kr (mK r k) x = k + 1 := by
    have := mK_n r k
    rw [hx] at this
    exact this
  have fr : ∀ j, j < 3 → ¬ xP r (3 * x + j) := fun j hj => (a7 j hj).1
  obtain ⟨s2, b1, b2, b3, b4, b5, b6⟩ := endRoot_ok (st := st) (x := 3 * x) n c t (by rw [a2.1]; exact hl) ha ra (fr 0 (by omega)) (by omega) (by rw [show 3 * x / 3 = x by omega, kx]; omega) (by rw [hL1]) lt
  have hev2 : ∀ i, i < 16 → r 6 ≤ i → ¬ xP r (1000 + i) := fun i hi he z => by
    unfold xP at z
    rw [show 1000 + i - 1000 = i by omega] at z
    rcases z with z | z
    · omega
    · have := (hv.2.1.2 i hi).2 z.2.2
      omega
  have ae : a < r 6 := (hv.2.1.2 a ha).2 h1
  obtain ⟨e, he⟩ : ∃ e, e = r 6 := ⟨_, rfl⟩
  rw [← he] at hev ae k6
  have hevE : ∀ i, i < 16 → e ≤ i → ¬ xP r (1000 + i) := fun i hi hh => hev2 i hi (by omega)
  have c12 : ni s2 12 = nI e := by rw [b3.2.1.2.2.1, k6]
  have nl2 : nl s2 = nl sn := by rw [b6.1, a2.1]
  -- the first new root
  have n2' : CN (Er (xP r) (1000 + a) (3 * x)) (rl (lk r) (1000 + a) (3 * x)) (Kr (mK r k)) (nsI s2 12 (nI (e + 1))) := b4
  have nE1 : ¬ Er (xP r) (1000 + a) (3 * x) (1000 + e) := nEr (hevE e (by omega) (by omega)) (by omega)
  have nE2' : ¬ Er (xP r) (1000 + a) (3 * x) (3 * x + 1) := nEr (fr 1 (by omega)) (by omega)
  obtain ⟨s3, d1, ⟨d2, d3⟩, d4⟩ := n_connect_ok n2' (a := 1000 + e) (b := 3 * x + 1) nE1 nE2' (by omega) (by show 1000 + e < nl s2; omega) (by show 3 * x + 1 < nl s2; omega) (fun z => by omega) (fun _ => by rw [show (3 * x + 1) / 3 = x by omega, kx]; omega)
  have t3 : RT (E2 (Er (xP r) (1000 + a) (3 * x)) (1000 + e) (3 * x + 1)) s3 := RT.add (sn := nsI s2 12 (nI (e + 1))) b5 d3
  have c13 : ni s3 12 = nI (e + 1) := by rw [d2.gi]; rfl
  have nl3 : nl s3 = nl sn := by rw [d2.gl]; exact nl2
  -- the second
  have n3' : CN (E2 (Er (xP r) (1000 + a) (3 * x)) (1000 + e) (3 * x + 1)) (lk2 (rl (lk r) (1000 + a) (3 * x)) (1000 + e) (3 * x + 1)) (Kr (mK r k)) (nsI s3 12 (nI (e + 1 + 1))) := d4
  have nE3 : ¬ E2 (Er (xP r) (1000 + a) (3 * x)) (1000 + e) (3 * x + 1) (1000 + (e + 1)) := nE2 (nEr (hevE (e + 1) (by omega) (by omega)) (by omega)) (by omega) (by omega)
  have nE4 : ¬ E2 (Er (xP r) (1000 + a) (3 * x)) (1000 + e) (3 * x + 1) (3 * x + 2) := nE2 (nEr (fr 2 (by omega)) (by omega)) (by omega) (by omega)
  obtain ⟨s4, f1, ⟨f2, f3⟩, f4⟩ := n_connect_ok n3' (a := 1000 + (e + 1)) (b := 3 * x + 2) nE3 nE4 (by omega) (by show 1000 + (e + 1) < nl s3; omega) (by show 3 * x + 2 < nl s3; omega) (fun z => by omega) (fun _ => by rw [show (3 * x + 2) / 3 = x by omega, kx]; omega)
  have t4 := RT.add (sn := nsI s3 12 (nI (e + 1 + 1))) t3 f3
  have nl4 : nl s4 = nl sn := by rw [f2.gl]; exact nl3
  -- the reference's row
  obtain ⟨u1, hu1⟩ : ∃ u, u = aL (ur (ur (mK r k) (14 + e) 1) 6 (e + 1)) (3 * x + 1) (1000 + e) := ⟨_, rfl⟩
  obtain ⟨u2, hu2⟩ : ∃ u, u = aL (ur (ur u1 (14 + (e + 1)) 1) 6 (e + 1 + 1)) (3 * x + 2) (1000 + (e + 1)) := ⟨_, rfl⟩
  have v16 : u1 6 = e + 1 := by rw [hu1, aL_lo (by omega), ur_s]
  have step : ∀ (s : Nat → Nat) (g p f : Nat) (v1 v4 : Int32), s 6 = f → f < 16 → (p = 1 ∨ p = 2) → m_parts_54 (g + 1) (sR st s) v1 (nI x) v4 (nI p) = m_parts_54 g (sR st (aL (ur (ur s (14 + f) 1) 6 (f + 1)) (3 * x + p) (1000 + f))) v1 (nI x) v4 (nI (p + 1)) := by
    intro s g p f v1 v4 hs hf hp
    rw [m_parts_54, if_neg (show ¬ (3 : Int32) ≤ nI p from nI_ge (b := 3) (by omega) (by omega))]
    simp only [nm_eq]
    rw [sR_2, nR_at, hs, i14, nI_add, gd_nI (by omega) (by omega), nc (by omega), i1, upd_nR, sR_A1, sR_2, nR_at, ur_n (show 6 ≠ 14 + f by omega), hs, nI_add, upd_nR, sR_A1, i3, pk_mul, nI_add, i1000, nI_add, m_links_ok (by omega) (by omega), bd_s, nI_add]
  have parts : ∀ v1 v4, m_parts_54 20000 (sR st (mK r k)) v1 (nI x) v4 1 = some (sR st u2) := by
    intro v1 v4
    show m_parts_54 (19997 + 1 + 1 + 1) (sR st (mK r k)) v1 (nI x) v4 (nI 1) = _
    rw [step _ _ 1 e v1 v4 k6 (by omega) (Or.inl rfl), ← hu1, step _ _ 2 (e + 1) v1 v4 v16 (by omega) (Or.inr rfl), ← hu2, m_parts_54, if_pos (by decide)]
  have lk2u : lk u2 = lk2 (lk2 (lk r) (3 * x + 1) (1000 + e)) (3 * x + 2) (1000 + (e + 1)) := by
    rw [hu2, lk_aL, lk_ur (by omega), lk_ur (by omega), hu1, lk_aL, lk_ur (by omega), lk_ur (by omega), hL1]
  have to : lk u2 (1000 + a) = lk r (1000 + a) := by
    rw [lk2u, lk2_o _ (by omega) (by omega), lk2_o _ (by omega) (by omega)]
  obtain ⟨r', hr'⟩ : ∃ u, u = aL (ur u2 (14 + a) 0) (3 * x) (lk r (1000 + a)) := ⟨_, rfl⟩
  have rep : m_replaces (sR st u2) (nI a) (nI (3 * x)) = some (sR st r') := by
    unfold m_replaces
    rw [i1000, nI_add, m_linkOf_ok (by omega), bd_s, i14, nI_add, gd_nI (by omega) (by omega), nm_eq, nc (by omega), sR_2, i0, upd_nR, sR_A1]
    rw [show u2 (630 + (1000 + a)) = lk r (1000 + a) from to, m_links_ok (by omega) lt, bd_s, hr']
  -- its numbers
  have lo : ∀ j, j < 630 → r' j = if j = 14 + a then 0 else if j = 6 then e + 1 + 1 else if j = 14 + (e + 1) then 1 else if j = 14 + e then 1 else mK r k j := by
    intro j hj
    rw [hr', aL_lo hj, ur_at]
    by_cases q1 : j = 14 + a
    · rw [if_pos q1, if_pos q1]
    · rw [if_neg q1, if_neg q1, hu2, aL_lo hj, ur_at]
      by_cases q2 : j = 6
      · rw [if_pos q2, if_pos q2]
      · rw [if_neg q2, if_neg q2, ur_at]
        by_cases q3 : j = 14 + (e + 1)
        · rw [if_pos q3, if_pos q3]
        · rw [if_neg q3, if_neg q3, hu1, aL_lo hj, ur_at, if_neg q2, ur_at]
  have lon : ∀ j, j < 630 → j ≠ 6 → (j < 14 ∨ 30 ≤ j) → r' j = mK r k j := fun j h0 h6 h14 => by
    rw [lo j h0, if_neg (by omega), if_neg h6, if_neg (by omega), if_neg (by omega)]
  have lk' : lk r' = lk2 (lk2 (lk2 (lk r) (3 * x + 1) (1000 + e)) (3 * x + 2) (1000 + (e + 1))) (3 * x) (lk r (1000 + a)) := by
    rw [hr', lk_aL, lk_ur (by omega), lk2u]
  have w5 : mK r k 5 ≤ 300 := by obtain ⟨⟨z0, z1, z2⟩, _⟩ := w; omega
  have wt : WM r' := by
    obtain ⟨⟨z0, z1, z2⟩, y1, y2, y3⟩ := w
    refine ⟨⟨by rw [lon 0 (by omega) (by omega) (by omega)]; exact z0, by rw [lon 4 (by omega) (by omega) (by omega), lon 1 (by omega) (by omega) (by omega), lon 5 (by omega) (by omega) (by omega)]; exact z1, by rw [lon 4 (by omega) (by omega) (by omega), lon 0 (by omega) (by omega) (by omega)]; exact z2⟩, ?_, ?_, ?_⟩
    · intro m hm'
      rw [lon _ (by omega) (by omega) (by omega), lon 4 (by omega) (by omega) (by omega)]
      exact y1 m hm'
    · intro i hi
      rw [lon 5 (by omega) (by omega) (by omega)] at hi
      have q := y2 i hi
      rw [lon (330 + i) (by omega) (by omega) (by omega), lon 4 (by omega) (by omega) (by omega), lon (30 + mK r k (330 + i)) (by omega) (by omega) (by omega)]
      exact q
    · intro i j hij hj
      rw [lon 5 (by omega) (by omega) (by omega)] at hj
      rw [lon (330 + i) (by omega) (by omega) (by omega), lon (330 + j) (by omega) (by omega) (by omega)]
      exact y3 i j hij hj
  have rt14 : ∀ i, i < 16 → r' (14 + i) = if i = a then 0 else if i = e + 1 then 1 else if i = e then 1 else r (14 + i) := fun i hi => by
    rw [lo _ (by omega)]
    by_cases q1 : i = a
    · rw [if_pos (by omega), if_pos q1]
    · rw [if_neg (by omega), if_neg q1, if_neg (by omega)]
      by_cases q2 : i = e + 1
      · rw [if_pos (by omega), if_pos q2]
      · rw [if_neg (by omega), if_neg q2]
        by_cases q3 : i = e
        · rw [if_pos (by omega), if_pos q3]
        · rw [if_neg (by omega), if_neg q3, mK_s (by omega) (by omega)]
  have r6' : r' 6 = e + 1 + 1 := by rw [lo 6 (by omega), if_neg (by omega), if_pos rfl]
  have wr : WR r' := by
    refine ⟨by rw [r6']; omega, fun i hi => ?_⟩
    rw [rt14 i hi, r6']
    have q := hv.2.1.2 i hi
    split
    · omega
    · split
      · omega
      · split
        · omega
        · exact ⟨q.1, fun z => by have := q.2 z; omega⟩
  have cm : CM r' s4 := by
    obtain ⟨⟨c6, c7, c8, c9⟩, ⟨c11, c10, c12', c13'⟩, c3, c0, c2⟩ := b3
    have g : ∀ j, ni s4 j = if j = 12 then nI (e + 1 + 1) else ni s2 j := fun j => by
      rw [f2.gi, ni_I]
      by_cases q : j = 12
      · rw [if_pos q, if_pos q]
      · rw [if_neg q, if_neg q, d2.gi, ni_I, if_neg q]
    have ga : ∀ j, j ≠ 1 → na s4 j = na s2 j := fun j hj => by rw [f2.ga hj, na_I, d2.ga hj, na_I]
    refine ⟨⟨by rw [g, if_neg (by omega), lon 0 (by omega) (by omega) (by omega)]; exact c6, by rw [g, if_neg (by omega), lon 1 (by omega) (by omega) (by omega)]; exact c7, by rw [g, if_neg (by omega), lon 2 (by omega) (by omega) (by omega)]; exact c8, by rw [g, if_neg (by omega), lon 3 (by omega) (by omega) (by omega)]; exact c9⟩, ⟨by rw [g, if_neg (by omega), lon 4 (by omega) (by omega) (by omega)]; exact c11, by rw [g, if_neg (by omega), lon 5 (by omega) (by omega) (by omega)]; exact c10, by rw [g, if_pos rfl, r6'], by rw [g, if_neg (by omega), lon 7 (by omega) (by omega) (by omega)]; exact c13'⟩, ?_, ?_, ?_⟩
    · intro i hi; rw [ga 3 (by omega), lon _ (by omega) (by omega) (by omega)]; exact c3 i hi
    · intro m hm'; rw [ga 0 (by omega), lon _ (by omega) (by omega) (by omega)]; exact c0 m hm'
    · intro i hi
      rw [lon 5 (by omega) (by omega) (by omega)] at hi
      rw [ga 2 (by omega), lon _ (by omega) (by omega) (by omega)]
      exact c2 i hi
  have kr : ∀ m, m < 300 → Kr r' m = Kr (mK r k) m := fun m hm' => lon _ (by omega) (by omega) (by omega)
  have xk : ∀ p, p < 900 → (xP r' p ↔ (xP r p ∨ p / 3 = x)) := by
    intro p h9
    unfold xP
    rw [lon _ (by omega) (by omega) (by omega), mK_k, hx]
    by_cases q : p / 3 = x
    · rw [if_pos q]
      omega
    · rw [if_neg q]
      constructor
      · rintro (z | z)
        · exact Or.inl (Or.inl z)
        · omega
      · rintro ((z | z) | z)
        · exact Or.inl z
        · omega
        · omega
  have xr' : ∀ i, i < 16 → (xP r' (1000 + i) ↔ (i ≠ a ∧ (i = e ∨ i = e + 1 ∨ xP r (1000 + i)))) := by
    intro i hi
    have q : ∀ s : Nat → Nat, xP s (1000 + i) ↔ s (14 + i) = 1 := fun s => by
      unfold xP
      rw [show 1000 + i - 1000 = i by omega]
      exact ⟨fun z => z.elim (fun z => by omega) (fun z => z.2.2), fun z => Or.inr ⟨by omega, by omega, z⟩⟩
    rw [q, q, rt14 i hi]
    split
    · omega
    · split
      · omega
      · split
        · omega
        · omega
  have hE : ∀ p, xP r' p ↔ E2 (E2 (Er (xP r) (1000 + a) (3 * x)) (1000 + e) (3 * x + 1)) (1000 + (e + 1)) (3 * x + 2) p := by
    intro p
    unfold E2 Er
    by_cases h9 : p < 900
    · rw [xk p h9]
      constructor
      · rintro (z | z)
        · exact Or.inl (Or.inl (Or.inl ⟨z, by omega⟩))
        · have : p = 3 * x ∨ p = 3 * x + 1 ∨ p = 3 * x + 2 := by omega
          rcases this with y | y | y
          · exact Or.inl (Or.inl (Or.inr y))
          · exact Or.inl (Or.inr (Or.inr y))
          · exact Or.inr (Or.inr y)
      · rintro (((⟨z, _⟩ | z) | z | z) | z | z)
        · exact Or.inl z
        all_goals (right; omega)
    · by_cases h10 : 1000 ≤ p ∧ p < 1016
      · obtain ⟨i, hi, rfl⟩ : ∃ i, i < 16 ∧ p = 1000 + i := ⟨p - 1000, by omega, by omega⟩
        rw [xr' i hi]
        constructor
        · rintro ⟨z1, z | z | z⟩
          · exact Or.inl (Or.inr (Or.inl (by omega)))
          · exact Or.inr (Or.inl (by omega))
          · exact Or.inl (Or.inl (Or.inl ⟨z, by omega⟩))
        · rintro (((⟨z, z2⟩ | z) | z | z) | z | z)
          · exact ⟨by omega, Or.inr (Or.inr z)⟩
          · omega
          · exact ⟨by omega, Or.inl (by omega)⟩
          · omega
          · exact ⟨by omega, Or.inr (Or.inl (by omega))⟩
          · omega
      · constructor
        · intro z
          unfold xP at z
          omega
        · rintro (((⟨z, _⟩ | z) | z | z) | z | z)
          · unfold xP at z; omega
          all_goals omega
  have hL : ∀ p, E2 (E2 (Er (xP r) (1000 + a) (3 * x)) (1000 + e) (3 * x + 1)) (1000 + (e + 1)) (3 * x + 2) p → lk r' p = lk2 (lk2 (rl (lk r) (1000 + a) (3 * x)) (1000 + e) (3 * x + 1)) (1000 + (e + 1)) (3 * x + 2) p := by
    intro p hp
    have tr := (hv.2.2 _ ra).1
    have t1 : lk r (1000 + a) ≠ 3 * x := fun z => fr 0 (by omega) (by rw [Nat.add_zero, ← z]; exact tr)
    have t2 : lk r (1000 + a) ≠ 3 * x + 1 := fun z => fr 1 (by omega) (by rw [← z]; exact tr)
    have t3 : lk r (1000 + a) ≠ 3 * x + 2 := fun z => fr 2 (by omega) (by rw [← z]; exact tr)
    have t4 : lk r (1000 + a) ≠ 1000 + e := fun z => hevE e (by omega) (by omega) (by rw [← z]; exact tr)
    have t5 : lk r (1000 + a) ≠ 1000 + (e + 1) := fun z => hevE (e + 1) (by omega) (by omega) (by rw [← z]; exact tr)
    rw [lk']
    unfold rl
    by_cases q1 : p = 3 * x + 2
    · rw [q1, lk2_b, lk2_o _ (by omega) (Ne.symm t3), lk2_a _ (by omega)]
    · by_cases q2 : p = 1000 + (e + 1)
      · rw [q2, lk2_a _ (by omega), lk2_o _ (by omega) (Ne.symm t5), lk2_b]
      · rw [lk2_o (lk2 (lk2 (lk r) (lk r (1000 + a)) (3 * x)) (1000 + e) (3 * x + 1)) q2 q1]
        by_cases q3 : p = 3 * x + 1
        · rw [q3, lk2_b, lk2_o _ (by omega) (Ne.symm t2), lk2_o _ (by omega) (by omega), lk2_a _ (by omega)]
        · by_cases q4 : p = 1000 + e
          · rw [q4, lk2_a _ (by omega), lk2_o _ (by omega) (Ne.symm t4), lk2_o _ (by omega) (by omega), lk2_b]
          · rw [lk2_o (lk2 (lk r) (lk r (1000 + a)) (3 * x)) q4 q3]
            by_cases q5 : p = 3 * x
            · rw [q5, lk2_b, lk2_a _ (Ne.symm t1)]
            · by_cases q6 : p = lk r (1000 + a)
              · rw [q6, lk2_b, lk2_a _ t1]
              · rw [lk2_o _ q5 q6, lk2_o _ q1 q2, lk2_o _ q3 q4, lk2_o _ q6 q5]
  have fin := quies_fin wt wr cm f4 kr t4 (by rw [nl4]; exact hl) hE hL
  refine ⟨x, s1, s2, s3, s4, mK r k, u2, r', a1, b1, ?_, ?_, hm, by rw [k6, he], parts, rep, fin.1, fin.2, ?_⟩
  · unfold n_makeRoot
    rw [c12, if_pos (show nI e < (16 : Int32) from nI_lt (b := 16) (by omega) (by omega)), nm_eq, nI_1, i1000, nI_add, d1, bd_s, he]
  · unfold n_makeRoot
    rw [c13, if_pos (show nI (e + 1) < (16 : Int32) from nI_lt (b := 16) (by omega) (by omega)), nm_eq, nI_1, i1000, nI_add, f1, bd_s, he]
  · exact a2.tr (b6.tr ((show SN s2 s3 from ⟨d2.gl, d2.gh, (d2.gi 14).trans rfl⟩).tr ⟨f2.gl, f2.gh, (f2.gi 14).trans rfl⟩))
theorem CM_7 {r : Nat → Nat} {sn : NSt} (c : CM r sn) {t : Nat → Nat} (h : ∀ j, j < 630 → j ≠ 7 → (j < 14 ∨ 30 ≤ j) → t j = r j) (h5 : r 5 ≤ 300) {v : Int32} (h7 : v = nI (t 7)) : CM t (nsI sn 13 v) := by
  obtain ⟨⟨c6, c7, c8, c9⟩, ⟨c11, c10, c12, c13⟩, c3, c0, c2⟩ := c
  refine ⟨⟨by rw [h 0 (by omega) (by omega) (by omega)]; exact c6, by rw [h 1 (by omega) (by omega) (by omega)]; exact c7, by rw [h 2 (by omega) (by omega) (by omega)]; exact c8, by rw [h 3 (by omega) (by omega) (by omega)]; exact c9⟩, ⟨by rw [h 4 (by omega) (by omega) (by omega)]; exact c11, by rw [h 5 (by omega) (by omega) (by omega)]; exact c10, by rw [h 6 (by omega) (by omega) (by omega)]; exact c12, h7⟩, ?_, ?_, ?_⟩
  · intro i hi; rw [h _ (by omega) (by omega) (by omega)]; exact c3 i hi
  · intro m hm'; rw [h _ (by omega) (by omega) (by omega)]; exact c0 m hm'
  · intro i hi
    rw [h 5 (by omega) (by omega) (by omega)] at hi
    rw [h _ (by omega) (by omega) (by omega)]
    exact c2 i hi
