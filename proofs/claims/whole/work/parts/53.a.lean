/-! two erasers; two alike -/
theorem red_0 {st : OSt} {r : Nat → Nat} {sn : NSt} (hv : NV r) (h : NC r sn) (hn : 1020 ≤ nl sn) {x : Nat} (hp : iP r x = true) (h0 : ru r x = 0) : RO st r sn x := by
  obtain ⟨y, ⟨hx, hy, xy⟩, ⟨e, e'⟩, ⟨kx, kx3⟩, ⟨ky, ky3⟩⟩ := iP_y hv hp
  have er := ru_y e
  have kx1 : r (30 + x) = 1 := by rw [er] at h0; split at h0 <;> omega
  have ky1 : r (30 + y) = 1 := by rw [er] at h0; split at h0 <;> omega
  obtain ⟨one, two, h12, hm, _, _⟩ := m_red_start (st := st) hv hp hx hy e kx kx3 ky ky3
  obtain ⟨s5, s6, s7, s8, s9, E1, L1, ⟨p1, p2, p3, p4, p5⟩, c9, n9, t9, rn, hmt, sn9⟩ := n_free2_ok h hv hn hx hy xy kx ky e e'
  obtain ⟨tw, tl, tk, ts, t1, t0, _⟩ := t_facts hv hx hy xy kx ky
  have o12 : one < 300 ∧ two < 300 := by omega
  obtain ⟨st1, f1, f2, f3⟩ := m94_ok (st := st) (r := ur r (8 + ru r x) (r (8 + ru r x) + 1)) (v1 := nI x) (v2 := nI y) (v3 := nI (ru r x)) o12.1 o12.2
  obtain ⟨g1, g2⟩ := n_155_ok (v := ru r x) (by omega) c9
  have w1 : WM (ur r (8 + ru r x) (r (8 + ru r x) + 1)) := WM_ur (by omega) (by omega) hv.1
  have k1 : ∀ n, ur r (8 + ru r x) (r (8 + ru r x) + 1) (30 + n) = r (30 + n) := fun n => ur_n (by omega)
  have w2 := fK_WM w1 hx (by rw [k1]; exact kx)
  have eT : fK (fK (ur r (8 + ru r x) (r (8 + ru r x) + 1)) x) y = ur (fK (fK r x) y) (8 + ru r x) (fK (fK r x) y (8 + ru r x) + 1) := by
    rw [fK_ur (by omega) (by omega), fK_ur (by omega) (by omega), ts (8 + ru r x) (by omega) (by omega)]
  have ky8 : 0 < fK (ur r (8 + ru r x) (r (8 + ru r x) + 1)) x (30 + y) := by rw [fK_k hx hy, if_neg (by omega), k1]; exact ky
  have nop : ∀ z, z < 300 → r (30 + z) = 1 → ∀ p, xP r p → p < 900 → p / 3 = z → p = 3 * z := by
    intro z hz hk p hp h9 hz3
    unfold xP at hp
    rw [hz3, hk] at hp
    omega
  have hw : ∀ p, Em (xP r) (3 * x) (3 * y) p → wg x y p = p := by
    intro p hp
    have a1 : ¬ (p < 900 ∧ p / 3 = x) := fun z => hp.2.1 (nop x hx kx1 p hp.1 z.1 z.2)
    have a2 : ¬ (p < 900 ∧ p / 3 = y) := fun z => hp.2.2 (nop y hy ky1 p hp.1 z.1 z.2)
    unfold wg
    rw [if_neg (by omega), if_neg (by omega), if_neg (by omega), if_neg (by omega)]
  have hE : ∀ p, xP (ur (fK (fK r x) y) (8 + ru r x) (fK (fK r x) y (8 + ru r x) + 1)) p ↔ E1 p := by
    intro p
    rw [xP_lo (fun j h1 h2 => ur_n (by omega)) p, t_xP hv hx hy xy kx ky]
    constructor
    · rintro ⟨a, b⟩
      have hE : Em (xP r) (3 * x) (3 * y) p := ⟨a, fun z => b ⟨by omega, Or.inl (by omega)⟩, fun z => b ⟨by omega, Or.inr (by omega)⟩⟩
      have := (rn.1 p hE).1
      rw [hw p hE] at this
      exact this
    · intro a
      obtain ⟨q, hq, z⟩ := rn.2.1 p a
      rw [hw q hq] at z
      subst z
      refine ⟨hq.1, fun z => ?_⟩
      rcases z.2 with z2 | z2
      · exact hq.2.1 (nop x hx kx1 _ hq.1 z.1 z2)
      · exact hq.2.2 (nop y hy ky1 _ hq.1 z.1 z2)
  have hL : ∀ p, E1 p → lk (ur (fK (fK r x) y) (8 + ru r x) (fK (fK r x) y (8 + ru r x) + 1)) p = L1 p := by
    intro p a
    obtain ⟨q, hq, z⟩ := rn.2.1 p a
    have := (rn.1 q hq).2
    rw [lk_ur (by omega), tl]
    rw [← z, hw _ (hmt q hq).1] at this
    rw [this, z, hw q hq]
  have fin := NC_fin (t := ur (fK (fK r x) y) (8 + ru r x) (fK (fK r x) y (8 + ru r x) + 1)) (sn := nsA s9 3 (upd (na s9 3) (ru r x) (na s9 3 (ru r x) + 1))) (WM_ur (by omega) (by omega) tw) (WR_lo (fun j hj => by rw [ur_n (by omega)]; exact ts j (by omega) (by omega)) hv.2.1) g2 (by rw [Kr_ur (by omega)]; exact n9) t9 (by show 1016 ≤ nl s9; rw [sn9.1]; omega) hE hL
  refine ⟨_, st1, _, ?_, f2, ?_, fin.1, fin.2, ?_, ?_⟩
  · rw [hm]
    unfold m_reduces_89
    rw [f1, bd_s, m_frees_ok w1 hx (by rw [k1]; exact kx), bd_s, m_frees_ok w2 hy ky8, bd_s, eT, if_pos (show nI (ru r x) = 0 by rw [h0]; rfl)]
  · unfold n_rewrite
    rw [n_partnerOf_ok h hv hx kx hy e, bd_s, n_ruleOf_ok h hv hp, bd_s, n_kindOf_in h.1 hx, bd_s, n_kindOf_in h.1 hy, bd_s, p1, bd_s, p2, bd_s, p3, bd_s, p4, bd_s, p5, bd_s, kx1, ky1, if_pos rfl, if_pos (show kI 1 = 0 from rfl), g1]
  · exact ⟨sn9.1, sn9.2.1, sn9.2.2⟩
  · refine PK_of hv e e' hx hy xy (fun p a b c d f => ?_)
    rw [lk_ur (by omega), tl]
    refine ⟨rfl, ?_⟩
    rw [ur_n (by omega), tk _ (by have := b.1; omega), if_neg, if_neg]
    · intro z; have := b.2; omega
    · intro z; have := b.2; omega
/-- a matching that is as it was at a place far from what goes -/
theorem ctr_far {E : Nat → Prop} {M : Nat → Nat} (h : MT E M) {a b p : Nat} (hp : E p) (ha : E a) (hb : E b) (na : M p ≠ a) (nb : M p ≠ b) : ctr M a b p = M p := by
  unfold ctr
  by_cases q : M a = b
  · rw [if_pos q]
  · rw [if_neg q, lk2_o]
    · intro e; exact na (by rw [e]; exact (h a ha).2.1)
    · intro e; exact nb (by rw [e]; exact (h b hb).2.1)
theorem red_12 {st : OSt} {r : Nat → Nat} {sn : NSt} (hv : NV r) (h : NC r sn) (hn : 1020 ≤ nl sn) {x : Nat} (hp : iP r x = true) (h0 : ru r x = 1 ∨ ru r x = 2) : RO st r sn x := by
  obtain ⟨y, ⟨hx, hy, xy⟩, ⟨e, e'⟩, ⟨kx, kx3⟩, ⟨ky, ky3⟩⟩ := iP_y hv hp
  have er := ru_y e
  have hk : r (30 + x) = r (30 + y) ∧ r (30 + x) = ru r x + 1 := by rw [er] at h0 ⊢; split at h0 <;> rename_i q <;> (try rw [if_pos q]) <;> omega
  have hru : ru r x ≤ 2 ∧ 1 ≤ ru r x := by omega
  obtain ⟨one, two, h12, hm, _, _⟩ := m_red_start (st := st) hv hp hx hy e kx kx3 ky ky3
  obtain ⟨s5, s6, s7, s8, s9, E1, L1, ⟨p1, p2, p3, p4, p5⟩, c9, n9, t9, rn, hmt, sn9⟩ := n_free2_ok h hv hn hx hy xy kx ky e e'
  obtain ⟨tw, tl, tk, ts, t1, t0, _⟩ := t_facts hv hx hy xy kx ky
  have o12 : one < 300 ∧ two < 300 := by omega
  obtain ⟨st1, f1, f2, f3⟩ := m94_ok (st := st) (r := ur r (8 + ru r x) (r (8 + ru r x) + 1)) (v1 := nI x) (v2 := nI y) (v3 := nI (ru r x)) o12.1 o12.2
  have w1 : WM (ur r (8 + ru r x) (r (8 + ru r x) + 1)) := WM_ur (by omega) (by omega) hv.1
  have k1 : ∀ n, ur r (8 + ru r x) (r (8 + ru r x) + 1) (30 + n) = r (30 + n) := fun n => ur_n (by omega)
  have w2 := fK_WM w1 hx (by rw [k1]; exact kx)
  have eT : fK (fK (ur r (8 + ru r x) (r (8 + ru r x) + 1)) x) y = ur (fK (fK r x) y) (8 + ru r x) (fK (fK r x) y (8 + ru r x) + 1) := by
    rw [fK_ur (by omega) (by omega), fK_ur (by omega) (by omega), ts (8 + ru r x) (by omega) (by omega)]
  have ky8 : 0 < fK (ur r (8 + ru r x) (r (8 + ru r x) + 1)) x (30 + y) := by rw [fK_k hx hy, if_neg (by omega), k1]; exact ky
  -- the four places
  have ex : ∀ j, j = 1 ∨ j = 2 → Em (xP r) (3 * x) (3 * y) (3 * x + j) ∧ Em (xP r) (3 * x) (3 * y) (3 * y + j) := by
    intro j hj
    have a1 : (3 * x + j) / 3 = x := by omega
    have a2 : (3 * y + j) / 3 = y := by omega
    refine ⟨⟨Or.inl ⟨by omega, by rw [a1]; omega, Or.inr (by rw [a1]; omega)⟩, by omega, by omega⟩, ⟨Or.inl ⟨by omega, by rw [a2]; omega, Or.inr (by rw [a2]; omega)⟩, by omega, by omega⟩⟩
  have x1 := (ex 1 (Or.inl rfl)).1
  have y1 := (ex 1 (Or.inl rfl)).2
  have x2 := (ex 2 (Or.inr rfl)).1
  have y2 := (ex 2 (Or.inr rfl)).2
  have gx1 : wg x y (3 * x + 1) = 1016 := by unfold wg; rw [if_pos rfl]
  have gx2 : wg x y (3 * x + 2) = 1017 := by unfold wg; rw [if_neg (by omega), if_pos rfl]
  have gy1 : wg x y (3 * y + 1) = 1018 := by unfold wg; rw [if_neg (by omega), if_neg (by omega), if_pos rfl]
  have gy2 : wg x y (3 * y + 2) = 1019 := by unfold wg; rw [if_neg (by omega), if_neg (by omega), if_neg (by omega), if_pos rfl]
  have go : ∀ p, p < 1016 → p ≠ 3 * x + 1 → p ≠ 3 * x + 2 → p ≠ 3 * y + 1 → p ≠ 3 * y + 2 → wg x y p = p := by
    intro p _ a b c d
    unfold wg
    rw [if_neg a, if_neg b, if_neg c, if_neg d]
  -- the class splices
  have d13 : 3 * x + 1 ≠ 3 * y + 1 := by omega
  have d24 : 3 * x + 2 ≠ 3 * y + 2 := by omega
  obtain ⟨ra, la⟩ := rn.ct hmt x1 y1 d13
  have ma := hmt.ct x1 y1 d13
  have x2a : Em (Em (xP r) (3 * x) (3 * y)) (3 * x + 1) (3 * y + 1) (3 * x + 2) := ⟨x2, by omega, by omega⟩
  have y2a : Em (Em (xP r) (3 * x) (3 * y)) (3 * x + 1) (3 * y + 1) (3 * y + 2) := ⟨y2, by omega, by omega⟩
  obtain ⟨rb, lb⟩ := ra.ct ma x2a y2a d24
  have mb := ma.ct x2a y2a d24
  rw [gx1, gy1] at ra la
  rw [gx1, gy1, gx2, gy2] at rb lb
  have q1 := (rn.1 _ x1).1
  have q2 := (rn.1 _ y1).1
  rw [gx1] at q1
  rw [gy1] at q2
  obtain ⟨s15, b1, b2, b3, b4, b5⟩ := n_spl_ok n9 c9 t9 q1 q2 (by omega) (fun z => by have := z.1; omega) (fun z => by have := z.1; omega) (Or.inr (by omega)) (Or.inr (by omega))
  have q3 := (ra.1 _ x2a).1
  have q4 := (ra.1 _ y2a).1
  rw [gx2] at q3
  rw [gy2] at q4
  obtain ⟨s16, d1, d2, d3, d4, d5⟩ := n_spl_ok b3 b2 b4 q3 q4 (by omega) (fun z => by have := z.1; omega) (fun z => by have := z.1; omega) (Or.inr (by omega)) (Or.inr (by omega))
  rw [la] at b2 d2
  rw [lb] at d2
  obtain ⟨g1, g2⟩ := n_155_ok (v := ru r x) (by omega) d2
  -- the reference strips
  have ol : ∀ k, k < 4 → Em (xP r) (3 * x) (3 * y) (oo one two k) := by
    intro k hk
    unfold oo
    have : k = 0 ∨ k = 1 ∨ k = 2 ∨ k = 3 := by omega
    rcases h12 with ⟨rfl, rfl⟩ | ⟨rfl, rfl⟩ <;> rcases this with rfl | rfl | rfl | rfl <;> simp <;> assumption
  have lt1 : lk (ur (fK (fK r x) y) (8 + ru r x) (fK (fK r x) y (8 + ru r x) + 1)) = lk r := by rw [lk_ur (by omega), tl]
  obtain ⟨P', r', a1, a2, a3, a4⟩ := strips_ok (st := st1) (r := ur (fK (fK r x) y) (8 + ru r x) (fK (fK r x) y (8 + ru r x) + 1)) (o := oo one two) (fun k hk => (f3 k hk).1) (fun k hk => by
      rw [lt1, (f3 k hk).2, show ur r (8 + ru r x) (r (8 + ru r x) + 1) (630 + oo one two k) = r (630 + oo one two k) from ur_n (by omega)]
      rfl) (fun k hk => by
      rw [lt1]
      exact ⟨xP_lt (ol k hk).1, xP_lt (hmt _ (ol k hk)).1.1⟩) (fun i j hi hj hij => by
      unfold oo
      rcases h12 with ⟨rfl, rfl⟩ | ⟨rfl, rfl⟩ <;> split <;> split <;> omega) (fun k hk => by rw [lt1]; exact (hmt _ (ol k hk)).2.1) (fun k hk => by rw [lt1]; exact (hmt _ (ol k hk)).2.2)
  rw [lt1] at a3 a4
  have same : lp (lk r) (oo one two 0) (oo one two 2) = lp (lk r) (3 * x + 1) (3 * y + 1) ∧ ctr (lk r) (oo one two 0) (oo one two 2) = ctr (lk r) (3 * x + 1) (3 * y + 1) ∧ lp (ctr (lk r) (3 * x + 1) (3 * y + 1)) (oo one two 1) (oo one two 3) = lp (ctr (lk r) (3 * x + 1) (3 * y + 1)) (3 * x + 2) (3 * y + 2) ∧ ctr (ctr (lk r) (3 * x + 1) (3 * y + 1)) (oo one two 1) (oo one two 3) = ctr (ctr (lk r) (3 * x + 1) (3 * y + 1)) (3 * x + 2) (3 * y + 2) := by
    have u1 := ctr_sym hmt x1 y1 d13
    have u2 := ctr_sym ma x2a y2a d24
    rcases h12 with ⟨rfl, rfl⟩ | ⟨rfl, rfl⟩
    · exact ⟨rfl, rfl, rfl, rfl⟩
    · exact ⟨u1.2.symm, u1.1.symm, u2.2.symm, u2.1.symm⟩
  rw [same.1, same.2.1, same.2.2.1] at a3
  rw [same.2.1, same.2.2.2] at a4
  -- the rows agree
  have lo : ∀ j, j < 630 → r' j = ur (ur (ur (fK (fK r x) y) 7 (fK (fK r x) y 7 + lp (lk r) (3 * x + 1) (3 * y + 1))) 7 ((ur (fK (fK r x) y) 7 (fK (fK r x) y 7 + lp (lk r) (3 * x + 1) (3 * y + 1))) 7 + lp (ctr (lk r) (3 * x + 1) (3 * y + 1)) (3 * x + 2) (3 * y + 2))) (8 + ru r x) ((ur (ur (fK (fK r x) y) 7 (fK (fK r x) y 7 + lp (lk r) (3 * x + 1) (3 * y + 1))) 7 ((ur (fK (fK r x) y) 7 (fK (fK r x) y 7 + lp (lk r) (3 * x + 1) (3 * y + 1))) 7 + lp (ctr (lk r) (3 * x + 1) (3 * y + 1)) (3 * x + 2) (3 * y + 2))) (8 + ru r x) + 1) j := by
    intro j hj
    by_cases j7 : j = 7
    · subst j7
      rw [a3, ur_n (by omega), ur_n (by omega), ur_s, ur_s]
    · rw [a2 j hj j7, ur_at, ur_at]
      split
      · rw [ur_n (by omega), ur_n (by omega)]
      · rw [ur_n j7, ur_n j7]
  have lo2 : ∀ j, 14 ≤ j → j < 330 → r' j = fK (fK r x) y j := fun j h1 h2 => by
    rw [lo j (by omega), ur_n (by omega), ur_n (by omega), ur_n (by omega)]
  have cm : CM r' (nsA s16 3 (upd (na s16 3) (ru r x) (na s16 3 (ru r x) + 1))) := CM_lo lo (by rw [ur_n (by omega), ur_n (by omega), ur_n (by omega)]; obtain ⟨⟨z0, z1, z2⟩, _⟩ := tw; omega) g2
  have far : ∀ p, Em (Em (Em (xP r) (3 * x) (3 * y)) (3 * x + 1) (3 * y + 1)) (3 * x + 2) (3 * y + 2) p → wg x y p = p := fun p hp => go p (xP_lt hp.1.1.1) hp.1.2.1 hp.2.1 hp.1.2.2 hp.2.2
  have hE : ∀ p, xP r' p ↔ Em (Em E1 1016 1018) 1017 1019 p := by
    intro p
    rw [xP_lo lo2 p, t_xP hv hx hy xy kx ky]
    constructor
    · rintro ⟨a, b⟩
      have hE : Em (Em (Em (xP r) (3 * x) (3 * y)) (3 * x + 1) (3 * y + 1)) (3 * x + 2) (3 * y + 2) p := ⟨⟨⟨a, by omega, by omega⟩, by omega, by omega⟩, by omega, by omega⟩
      have := (rb.1 p hE).1
      rw [far p hE] at this
      exact this
    · intro a
      obtain ⟨q, hq, z⟩ := rb.2.1 p a
      rw [far q hq] at z
      subst z
      refine ⟨hq.1.1.1, fun z => ?_⟩
      have n1 := hq.1.1.2
      have n2 := hq.1.2
      have n3 := hq.2
      omega
  have hL : ∀ p, Em (Em E1 1016 1018) 1017 1019 p → lk r' p = ctr (ctr L1 1016 1018) 1017 1019 p := by
    intro p a
    obtain ⟨q, hq, z⟩ := rb.2.1 p a
    have u := (rb.1 q hq).2
    rw [far q hq] at z
    subst z
    rw [far _ hq, far _ (mb _ hq).1] at u
    rw [u]
    refine a4 _ (fun k hk => ?_)
    have n1 := hq.1.2
    have n3 := hq.2
    have : k = 0 ∨ k = 1 ∨ k = 2 ∨ k = 3 := by omega
    unfold oo
    rcases h12 with ⟨rfl, rfl⟩ | ⟨rfl, rfl⟩ <;> rcases this with rfl | rfl | rfl | rfl <;> simp <;> omega
  have kr : ∀ m, m < 300 → Kr r' m = Kr (fK (fK r x) y) m := fun m hm => lo2 (30 + m) (by omega) (by omega)
  have n16 : CN (Em (Em E1 1016 1018) 1017 1019) (ctr (ctr L1 1016 1018) 1017 1019) (Kr r') (nsA s16 3 (upd (na s16 3) (ru r x) (na s16 3 (ru r x) + 1))) := by
    refine ⟨d3.1, d3.2.1.cong (fun _ => Iff.rfl) (fun _ _ => rfl) (fun p _ h9 => kr _ (by omega)), fun m hm => ?_⟩
    rw [kr m hm]
    exact d3.2.2 m hm
  have wr' : WM r' := WM_lo (fun j hj => lo j hj) (WM_ur (by omega) (by omega) (WM_ur (by omega) (by omega) (WM_ur (by omega) (by omega) tw)))
  have fin := NC_fin (t := r') (sn := nsA s16 3 (upd (na s16 3) (ru r x) (na s16 3 (ru r x) + 1))) wr' (WR_lo (fun j hj => by rw [lo j (by omega), ur_n (by omega), ur_n (by omega), ur_n (by omega)]; exact ts j (by omega) (by omega)) hv.2.1) cm n16 d4 (by show 1016 ≤ nl s16; rw [d5.1, b5.1, sn9.1]; omega) hE hL
  refine ⟨r', sA st1 23 P', _, ?_, f2.tr (FS.A st1 (Or.inr (Or.inr (Or.inr rfl))) P'), ?_, fin.1, fin.2, ?_, ?_⟩
  · rw [hm]
    unfold m_reduces_89
    rw [f1, bd_s, m_frees_ok w1 hx (by rw [k1]; exact kx), bd_s, m_frees_ok w2 hy ky8, bd_s, eT, if_neg (show ¬ nI (ru r x) = 0 from nI_ne0 (by omega) (by omega)), if_neg (show ¬ (3 : Int32) ≤ nI (ru r x) from nI_ge (b := 3) (by omega) (by omega)), a1, bd_s]
    rfl
  · unfold n_rewrite
    rw [n_partnerOf_ok h hv hx kx hy e, bd_s, n_ruleOf_ok h hv hp, bd_s, n_kindOf_in h.1 hx, bd_s, n_kindOf_in h.1 hy, bd_s, p1, bd_s, p2, bd_s, p3, bd_s, p4, bd_s, p5, bd_s, ← hk.1, if_pos rfl, kI_p kx, if_neg (show ¬ nI (r (30 + x) - 1) = 0 from nI_ne0 (by omega) (by omega)), i1016, i1018, b1, bd_s, i1017, i1019, d1, bd_s, g1]
  · exact (show SN sn s9 from ⟨sn9.1, sn9.2.1, sn9.2.2⟩).tr (b5.tr (d5.tr ⟨rfl, rfl, rfl⟩))
  · refine PK_of hv e e' hx hy xy (fun p a b c d f => ?_)
    have hb := b.2
    have hc := c.2
    have pE : Em (xP r) (3 * x) (3 * y) p := ⟨a, d, f⟩
    have u1 : ctr (lk r) (3 * x + 1) (3 * y + 1) p = lk r p := ctr_far hmt pE x1 y1 (by omega) (by omega)
    have u2 : ctr (ctr (lk r) (3 * x + 1) (3 * y + 1)) (3 * x + 2) (3 * y + 2) p = ctr (lk r) (3 * x + 1) (3 * y + 1) p := ctr_far ma ⟨pE, by omega, by omega⟩ x2a y2a (by rw [u1]; omega) (by rw [u1]; omega)
    refine ⟨?_, ?_⟩
    · rw [a4 p, u2, u1]
      intro k hk
      have : k = 0 ∨ k = 1 ∨ k = 2 ∨ k = 3 := by omega
      unfold oo
      rcases h12 with ⟨rfl, rfl⟩ | ⟨rfl, rfl⟩ <;> rcases this with rfl | rfl | rfl | rfl <;> simp <;> omega
    · have := b.1
      rw [lo2 _ (by omega) (by omega), tk _ (by omega), if_neg (by omega), if_neg (by omega)]
