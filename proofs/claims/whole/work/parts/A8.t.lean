/-! steps in thought -/
theorem cp39 (st : OSt) (r : Nat → Nat) : ∃ g, m_copies 1646 ((sR st r).2 1) 1646 ((sR st r).2 39) 0 0 = some g ∧ ∀ j, j < 1646 → g j = nI (r j) := by
  refine ⟨_, m_copies_ok (a := 0) (b := 0) (by omega) (by omega) (by omega) (by omega), fun j hj => ?_⟩
  rw [if_pos (by omega), Nat.sub_zero, Nat.zero_add, sR_2, nR_at]
theorem cpBack {ka b : Nat} {f : Nat → Int32} {ro : Nat → Nat} (st : OSt) (r' : Nat → Nat) (hb : b + 1646 ≤ ka) (hk : ka < 30000) (hf : ∀ j, j < 1646 → f (b + j) = nI (ro j)) : ∃ r'', m_copies ka f 1646 ((sR st r').2 1) (nI b) 0 = some (nR r'') ∧ ∀ j, j < 1646 → r'' j = ro j := by
  refine ⟨fun j => if j < 1646 then ro j else r' j, ?_, fun j hj => if_pos hj⟩
  rw [show m_copies ka f 1646 ((sR st r').2 1) (nI b) 0 = _ from m_copies_ok (a := b) (b := 0) hb (by omega) hk (by omega)]
  congr 1
  funext j
  show _ = nI (if j < 1646 then ro j else r' j)
  by_cases z : j < 1646
  · rw [if_pos (by omega), if_pos z, Nat.sub_zero, hf j z]
  · rw [if_neg (by omega), if_neg z, sR_2, nR_at]
theorem w2_any (a : Int32) : (∃ o, o ≤ 2 ∧ a = nI o ∧ ¬ a < 0 ∧ a ≤ 2 ∧ m_within a 0 2 = some 1) ∨ ((a < 0 ∨ (¬ a < 0 ∧ ¬ a ≤ 2)) ∧ m_within a 0 2 = some 0) := by
  unfold m_within
  by_cases z : a < 0
  · right
    rw [if_pos z]
    exact ⟨Or.inl z, rfl⟩
  · obtain ⟨j, hj, rfl⟩ := ge_j z
    by_cases w : j ≤ 2
    · left
      refine ⟨j, w, rfl, z, nI_le (b := 2) w (by omega), ?_⟩
      rw [if_neg z, if_neg (show ¬ (2 : Int32) < nI j from nI_nlt (a := 2) (by omega) (by omega))]
    · right
      refine ⟨Or.inr ⟨z, nI_ge (a := 2) (by omega) hj⟩, ?_⟩
      rw [if_neg z, if_pos (show (2 : Int32) < nI j from nI_lt (a := 2) (by omega) hj)]
theorem L_tried {V : VS} {sr : OSt} {ta : Nat → Int32} {sc sh sn : NSt} {st : OSt} {r : Nat → Nat} (h : RI V sr ta sc sh sn st r) (a b s w : Int32) : ∃ x sh' st' r', r_tried sc sh a b s w = some (x, sh') ∧ m_tried (sR st r) a b s w = some (x, sR st' r') ∧ RI V sr ta sc sh' sn st' r' := by
  rcases run_any a b with ⟨o, m, o1, m1, rfl, rfl, q1, q2, q3⟩ | ⟨q1, q3⟩
  · rcases w2_any w with ⟨c, c1, rfl, c2, c3, c4⟩ | ⟨c1, c4⟩
    · obtain ⟨x7, b1, b2, b3⟩ := n_become_ok (sn := sh) h.1.2 (by rw [h.2.1.2.1]; omega) (by rw [h.2.1.2.1]; omega) h.1.1
      obtain ⟨g, g1, g2⟩ := cp39 (sI st 0 0) r
      obtain ⟨n', r', st', sn', e1, e2, e3, e4, e5, e6, e7⟩ := steps_ok (st := sA (sI st 0 0) 39 g) o1 m1 h.1.1 b2 (by rw [b3, h.2.1.2.1]; omega) s
      have f39 : ∀ j, j < 1646 → st'.2 39 (0 + j) = nI (r j) := fun j hj => by
        rw [Nat.zero_add, e6.a39, sA_2, if_pos rfl, g2 j hj]
      obtain ⟨r'', p1, p2⟩ := cpBack (ka := 1646) (b := 0) st' r' (by omega) (by omega) f39
      have p1' : m_copies 1646 ((sR st' r').2 39) 1646 ((sR st' r').2 1) 0 0 = some (nR r'') := by
        rw [sR_o st' r' (k := 39) (by decide)]
        exact p1
      have hR : RI V sr ta sc sn' sn st' r'' := h.thou (((KP.i0 st).tr (KP.A39 _ _)).tr e6.kp) p2 (e5.trans (b3.trans h.2.1.2.1))
      have eC : r_tried sc sh (nI o) (nI m) s (nI c) = if nI c = 0 then some (nI n', sn') else if nI c = 1 then some (ni sn' 14, sn') else some (nI (fb_ct (iP r') 300), sn') := by
        unfold r_tried
        rw [q1, bd_s, if_neg n10i, q2, bd_s, if_neg n10i, if_neg c2, if_pos c3, b1, bd_s, e2, bd_s]
        simp only
        rw [n_size_ok e4, bd_s]
      have eR : m_tried (sR st r) (nI o) (nI m) s (nI c) = if nI c = 0 then some (nI n', sR st' r'') else if nI c = 1 then some (st'.1 25, sR st' r'') else some (nI (fb_ct (iP r') 300), sR st' r'') := by
        unfold m_tried
        rw [nm_eq, sR_I, q3, bd_s, if_neg n10i, c4, bd_s, if_neg n10i, g1, bd_s, sR_A _ _ (by decide), e1, bd_s]
        simp only
        rw [m_pairs_ok e3, bd_s, p1', bd_s, sR_A1, sR_1]
        rfl
      rw [eC, eR]
      by_cases z0 : nI c = 0
      · exact ⟨_, _, st', r'', by rw [if_pos z0], by rw [if_pos z0], hR⟩
      · by_cases z1 : nI c = 1
        · exact ⟨_, _, st', r'', by rw [if_neg z0, if_pos z1], by rw [if_neg z0, if_pos z1, e7], hR⟩
        · exact ⟨_, _, st', r'', by rw [if_neg z0, if_neg z1], by rw [if_neg z0, if_neg z1], hR⟩
    · refine ⟨-1, sh, sI st 0 0, r, ?_, ?_, h.same (KP.i0 st)⟩
      · unfold r_tried
        rw [q1, bd_s, if_neg n10i, q2, bd_s, if_neg n10i]
        rcases c1 with c1 | ⟨c1, c2⟩
        · rw [if_pos c1]
        · rw [if_neg c1, if_neg c2]
      · unfold m_tried
        rw [nm_eq, sR_I, q3, bd_s, if_neg n10i, c4, bd_s, if_pos rfl]
  · refine ⟨-1, sh, sI st 0 0, r, ?_, ?_, h.same (KP.i0 st)⟩
    · unfold r_tried
      rcases q1 with q1 | ⟨q1, q2⟩
      · rw [q1, bd_s, if_pos rfl]
      · rw [q1, bd_s, if_neg n10i, q2, bd_s, if_pos rfl]
    · unfold m_tried
      rw [nm_eq, sR_I, q3, bd_s, if_pos rfl]
theorem rounds_loop (sc : NSt) : ∀ (fuel n : Nat) (st : OSt) (r1 : Nat → Nat) (s1 : NSt), n ≤ 501 → 501 - n < fuel → NV r1 → NC r1 s1 → nl s1 = 1020 → ∃ n' r' st' s', n' ≤ 501 ∧ m_rounds_20 fuel (sR st r1) (nI n) = some (sR st' r', nI n') ∧ r_rounds_13 fuel sc s1 (nI n) = some (if n' ≤ 500 then nI n' else -2, s') ∧ nl s' = 1020 ∧ FA st st' := by
  intro fuel
  induction fuel with
  | zero => intro n st r1 s1 _ h; omega
  | succ k ih =>
    intro n st r1 s1 hn hf hv hc hl
    rw [m_rounds_20, r_rounds_13]
    by_cases q : n = 501
    · have c : (500 : Int32) < nI n := nI_lt (a := 500) (by omega) (by omega)
      rw [if_pos c, if_pos c]
      exact ⟨n, r1, st, s1, hn, rfl, by rw [if_neg (by omega)], hl, FA.rf st⟩
    · have c : ¬ (500 : Int32) < nI n := nI_nlt (a := 500) (by omega) (by omega)
      rw [if_neg c, if_neg c]
      obtain ⟨w, r', st', sn', e1, e2, e3, e4, e5, e6, e7⟩ := round_ok (st := st) hv hc (by omega)
      rw [e1, e2, bd_s, bd_s]
      simp only
      by_cases z : w = 0
      · rw [z, if_pos (show nI 0 ≤ 0 by decide), if_pos (show nI 0 = 0 from rfl)]
        exact ⟨n, r', st', sn', hn, rfl, by rw [if_pos (by omega)], e5.trans hl, e6⟩
      · rw [if_neg (show ¬ nI w ≤ 0 from nI_ge (a := 0) (by omega) (by omega)), if_neg (nI_ne0 (by omega) (by omega)), nI_1]
        obtain ⟨n', r'', st'', s', k1, k2, k3, k4, k5⟩ := ih (n + 1) st' r' sn' (by omega) (by omega) e3 e4 (e5.trans hl)
        exact ⟨n', r'', st'', s', k1, k2, k3, k4, e6.tr k5⟩
theorem L_rounds {V : VS} {sr : OSt} {ta : Nat → Int32} {sc sh sn : NSt} {st : OSt} {r : Nat → Nat} (h : RI V sr ta sc sh sn st r) : ∃ x sh' st' r', r_rounds sc sh = some (x, sh') ∧ m_rounds (sR st r) = some (x, sR st' r') ∧ RI V sr ta sc sh' sn st' r' := by
  obtain ⟨x7, b1, b2, b3⟩ := n_become_ok (sn := sh) h.1.2 (by rw [h.2.1.2.1]; omega) (by rw [h.2.1.2.1]; omega) h.1.1
  obtain ⟨g, g1, g2⟩ := cp39 (sI st 0 0) r
  obtain ⟨n', r', st', s', k1, k2, k3, k4, k5⟩ := rounds_loop sc 20000 0 (sA (sI st 0 0) 39 g) r x7 (by omega) (by omega) h.1.1 b2 (b3.trans h.2.1.2.1)
  have f39 : ∀ j, j < 1646 → st'.2 39 (0 + j) = nI (r j) := fun j hj => by
    rw [Nat.zero_add, k5.a39, sA_2, if_pos rfl, g2 j hj]
  obtain ⟨r'', p1, p2⟩ := cpBack (ka := 1646) (b := 0) st' r' (by omega) (by omega) f39
  have p1' : m_copies 1646 ((sR st' r').2 39) 1646 ((sR st' r').2 1) 0 0 = some (nR r'') := by
    rw [sR_o st' r' (k := 39) (by decide)]
    exact p1
  refine ⟨if n' ≤ 500 then nI n' else -2, s', st', r'', ?_, ?_, h.thou (((KP.i0 st).tr (KP.A39 _ _)).tr k5.kp) p2 k4⟩
  · unfold r_rounds
    rw [b1, bd_s]
    exact k3
  · unfold m_rounds
    rw [nm_eq, sR_I, g1, bd_s, sR_A _ _ (by decide), show m_rounds_20 20000 (sR (sA (sI st 0 0) 39 g) r) 0 = _ from k2, bd_s]
    simp only
    rw [p1', bd_s, sR_A1]
    by_cases z : n' ≤ 500
    · rw [if_pos z, if_pos (show nI n' ≤ (500 : Int32) from nI_le (b := 500) z (by omega))]
    · rw [if_neg z, if_neg (show ¬ nI n' ≤ (500 : Int32) from nI_ge (a := 500) (by omega) (by omega))]
/-! likeness -/
def FB (st st' : OSt) : Prop := (∀ k, k ≠ 28 → k ≠ 32 → k ≠ 35 → st'.1 k = st.1 k) ∧ ∀ k, k ≠ 1 → k ≠ 29 → k ≠ 30 → k ≠ 31 → k ≠ 33 → k ≠ 34 → k ≠ 36 → st'.2 k = st.2 k
theorem FB.kp {a b : OSt} (h : FB a b) : KP a b := ⟨⟨h.1 3 (by decide) (by decide) (by decide), h.2 2 (by decide) (by decide) (by decide) (by decide) (by decide) (by decide) (by decide), h.2 38 (by decide) (by decide) (by decide) (by decide) (by decide) (by decide) (by decide), h.2 41 (by decide) (by decide) (by decide) (by decide) (by decide) (by decide) (by decide)⟩, h.1 37 (by decide) (by decide) (by decide), h.2 40 (by decide) (by decide) (by decide) (by decide) (by decide) (by decide) (by decide)⟩
theorem FB.a39 {a b : OSt} (h : FB a b) : b.2 39 = a.2 39 := h.2 39 (by decide) (by decide) (by decide) (by decide) (by decide) (by decide) (by decide)
theorem laysBy14 {r : Nat → Nat} {t : Nat} (ht : t ≤ 632) : ∀ (fuel i : Nat) (st : OSt), i ≤ t → t - i < fuel → st.1 32 = nI t → (∀ j, j < i → st.2 36 j = st.2 33 j) → ∃ st', m_laysBy_14 fuel (sR st r) (nI i) = some (sR st' r) ∧ st'.1 = st.1 ∧ (∀ k, k ≠ 36 → st'.2 k = st.2 k) ∧ ∀ j, j < t → st'.2 36 j = st.2 33 j := by
  intro fuel
  induction fuel with
  | zero => intro i st _ h; omega
  | succ n ih =>
    intro i st hi hf h32 hj
    rw [m_laysBy_14, sR_1, h32]
    by_cases q : i = t
    · rw [if_pos (nI_le (by omega) (by omega))]
      exact ⟨st, rfl, rfl, fun _ _ => rfl, fun j hj' => hj j (by omega)⟩
    · rw [if_neg (nI_ge (by omega) (by omega)), gd_nI (by omega) (by omega), gd_nI (by omega) (by omega), nm_eq, nc (by omega), sR_o _ _ (by decide), sR_o _ _ (by decide), sR_A _ _ (by decide), nI_1]
      obtain ⟨st', k1, k2, k3, k4⟩ := ih (i + 1) (sA st 36 (upd (st.2 36) i (st.2 33 i))) (by omega) (by omega) h32 (fun j hj' => by
        rw [sA_2, if_pos rfl, sA_2, if_neg (by decide), upd_at]
        by_cases z : j = i
        · rw [if_pos z, z]
        · rw [if_neg z]; exact hj j (by omega))
      refine ⟨st', k1, k2, fun k hk => (k3 k hk).trans (by rw [sA_2, if_neg hk]), fun j hj' => (k4 j hj').trans (by rw [sA_2, if_neg (by decide)])⟩
theorem laysBy_ok {r : Nat → Nat} {sn : NSt} (hv : NV r) (hc : NC r sn) (ss st : OSt) : ∃ s1 st' t, g_look ss sn = some s1 ∧ m_laysBy (sR st r) = some (sR st' r) ∧ FB st st' ∧ s1.1 5 = nI t ∧ st'.1 35 = nI t ∧ t ≤ 632 ∧ ∀ i, i < t → cd (s1.2 4 i) (st'.2 36 i) := by
  obtain ⟨s1, st1, mc, tc, e1, e2, ⟨⟨l1, l2, l3, l4⟩, _, l5, _, l6⟩, e4⟩ := looks_ok hv hc ss st
  obtain ⟨st', k1, k2, k3, k4⟩ := laysBy14 (r := r) l6 20000 0 (sI st1 35 (nI tc)) (by omega) (by omega) l4 (fun j hj => absurd hj (Nat.not_lt_zero _))
  refine ⟨s1, st', tc, e1, ?_, ⟨fun k h1 h2 h3 => ?_, fun k h1 h2 h3 h4 h5 h6 h7 => ?_⟩, l3, ?_, l6, fun i hi => ?_⟩
  · unfold m_laysBy
    rw [e2, bd_s, nm_eq, sR_1, l4, sR_I, show m_laysBy_14 20000 (sR (sI st1 35 (nI tc)) r) 0 = _ from k1, bd_s]
  · rw [k2, sI_1, if_neg h3, e4.1 k h1 h2]
  · rw [k3 k h7, sI_2, e4.2 k h1 h2 h3 h4 h5 h6]
  · rw [k2]; rfl
  · rw [k4 i hi]
    exact l5 i hi
theorem areAlike_ok {r : Nat → Nat} {sn : NSt} (hv : NV r) (hc : NC r sn) (so st : OSt) {s1 : OSt} {t : Nat} (h1 : s1.1 5 = nI t) (h2 : st.1 35 = nI t) (ht : t ≤ 632) (hd : ∀ i, i < t → cd (s1.2 4 i) (st.2 36 i)) : ∃ s2 st' b, g_look so sn = some s2 ∧ m_areAlike (sR st r) = some ((if b = true then 1 else 0), sR st' r) ∧ g_isLike s1 s2 = some (if b = true then 1 else 0) ∧ FL st st' := by
  obtain ⟨s2, st1, mc, tc, e1, e2, ⟨⟨l1, l2, l3, l4⟩, _, l5, _, l6⟩, e4⟩ := looks_ok hv hc so st
  obtain ⟨b1, p1, p2⟩ := g_isLike_ok h1 l3 ht l6
  obtain ⟨b2, q1, q2⟩ := m_alike20_ok (r := r) (st := st1) l4 ((e4.1 35 (by decide) (by decide)).trans h2) ht l6
  have e36 : st1.2 36 = st.2 36 := e4.2 36 (by decide) (by decide) (by decide) (by decide) (by decide) (by decide)
  have eb : b1 = b2 := by
    rw [Bool.eq_iff_iff, p2, q2, e36]
    constructor
    · rintro ⟨z1, z2⟩
      exact ⟨z1, fun i hi => (cd_eq (hd i hi) (l5 i (by omega))).mp (z2 i hi)⟩
    · rintro ⟨z1, z2⟩
      exact ⟨z1, fun i hi => (cd_eq (hd i hi) (l5 i (by omega))).mpr (z2 i hi)⟩
  refine ⟨s2, st1, b1, e1, ?_, p1, e4⟩
  unfold m_areAlike
  rw [e2, bd_s, eb]
  exact q1
theorem b01 (b : Bool) : (if b = true then (1 : Int32) else 0) = 0 ↔ b = false := by
  cases b <;> decide
theorem L_alike {V : VS} {sr : OSt} {ta : Nat → Int32} {sc sh sn : NSt} {st : OSt} {r : Nat → Nat} (h : RI V sr ta sc sh sn st r) (ss so : OSt) (a b c s : Int32) : ∃ x sh' ss' so' st' r', r_alike sc sh ss so a b c s = some (x, sh', ss', so') ∧ m_alike (sR st r) a b c s = some (x, sR st' r') ∧ RI V sr ta sc sh' sn st' r' := by
  rcases run_any a c with ⟨o, m, o1, m1, rfl, rfl, q1, q2, q3⟩ | ⟨q1, q3⟩
  · rcases ord_any b with ⟨u, u1, rfl, u3, u4⟩ | ⟨u3, u4⟩
    · obtain ⟨x7, b1, b2, b3⟩ := n_become_ok (sn := sh) h.1.2 (by rw [h.2.1.2.1]; omega) (by rw [h.2.1.2.1]; omega) h.1.1
      obtain ⟨g, g1, g2⟩ := cp39 (sI st 0 0) r
      obtain ⟨n1, r1, st1, sn1, e1, e2, e3, e4, e5, e6, e7⟩ := steps_ok (st := sA (sI st 0 0) 39 g) o1 m1 h.1.1 b2 (by rw [b3, h.2.1.2.1]; omega) s
      have lr1 := e5.trans (b3.trans h.2.1.2.1)
      obtain ⟨s1, st2, t, f1, f2, f3, f4, f5, f6, f7⟩ := laysBy_ok e3 e4 ss (sI st1 26 (nI n1))
      have k2 : KP st st2 := (((KP.i0 st).tr (KP.A39 _ _)).tr e6.kp).tr ((KP.I26 _ _).tr f3.kp)
      have a2 : st2.2 39 = g := by rw [f3.a39, sI_2, e6.a39, sA_2, if_pos rfl]
      obtain ⟨r2, p1, p2⟩ := cpBack (ka := 1646) (b := 0) (f := g) (ro := r) st2 r1 (by omega) (by omega) (fun j hj => by rw [Nat.zero_add]; exact g2 j hj)
      have p1' : m_copies 1646 ((sR st2 r1).2 39) 1646 ((sR st2 r1).2 1) 0 0 = some (nR r2) := by
        rw [sR_o st2 r1 (k := 39) (by decide), a2]
        exact p1
      obtain ⟨v1, v2⟩ := NVC_cong p2 h.1.1 h.1.2
      obtain ⟨x8, c1, c2, c3⟩ := n_become_ok (sn := sn1) v2 (by omega) (by omega) v1
      obtain ⟨n3, r3, st3, sn3, d1, d2, d3, d4, d5, d6, d7⟩ := steps_ok (st := st2) u1 m1 v1 c2 (by omega) s
      have lr3 := d5.trans (c3.trans lr1)
      have e35 : (sI st3 26 (nI n3)).1 35 = nI t := by
        rw [sI_1, if_neg (by decide), d6.1 35 (by decide) (by decide), f5]
      have e36 : (sI st3 26 (nI n3)).2 36 = st2.2 36 := by
        rw [sI_2, d6.2 36 (by decide) (by decide) (by decide) (by decide) (by decide) (by decide)]
      obtain ⟨s2, st4, bb, i1', i2', i3', i4'⟩ := areAlike_ok d3 d4 so (sI st3 26 (nI n3)) f4 e35 f6 (fun i hi => by rw [e36]; exact f7 i hi)
      have k4 : KP st st4 := (k2.tr d6.kp).tr ((KP.I26 _ _).tr i4'.kp)
      have a4 : st4.2 39 = g := by rw [i4'.a39, sI_2, d6.a39, a2]
      obtain ⟨r4, w1, w2⟩ := cpBack (ka := 1646) (b := 0) (f := g) (ro := r) st4 r3 (by omega) (by omega) (fun j hj => by rw [Nat.zero_add]; exact g2 j hj)
      have w1' : m_copies 1646 ((sR st4 r3).2 39) 1646 ((sR st4 r3).2 1) 0 0 = some (nR r4) := by
        rw [sR_o st4 r3 (k := 39) (by decide), a4]
        exact w1
      obtain ⟨vb, hvb⟩ : ∃ v : Int32, v = if bb = true then 1 else 0 := ⟨_, rfl⟩
      have e111 : ∀ k0, m_alike_111 (sR (sI st3 26 (nI n3)) r3) k0 = some (if k0 = 0 then vb else -2, sR st4 r4) := by
        intro k0
        unfold m_alike_111
        rw [i2', bd_s]
        simp only
        rw [w1', bd_s, sR_A1]
        by_cases z : k0 = 0
        · rw [if_pos z, if_pos z, hvb]
          cases bb <;> rfl
        · rw [if_neg z, if_neg z]
      have e62 : ∀ k0, m_alike_62 (sR (sI st1 26 (nI n1)) r1) (nI u) (nI m) s k0 = some (if k0 = 0 ∧ fb_ct (rd r3) 300 = 0 then vb else -2, sR st4 r4) := by
        intro k0
        unfold m_alike_62 m_alike_106
        rw [f2, bd_s, p1', bd_s, sR_A1, d1, bd_s, nm_eq]
        simp only
        rw [sR_I, m_pairs_ok d3, bd_s, e111, e111]
        have ct : fb_ct (uP r3 1) 300 = fb_ct (rd r3) 300 := rfl
        by_cases z : k0 = 0
        · rw [if_pos z, ct]
          by_cases y : fb_ct (rd r3) 300 = 0
          · rw [y, if_pos (show nI 0 ≤ 0 by decide), if_pos (show (0 : Int32) = 0 from rfl), if_pos (show k0 = 0 ∧ (0 : Nat) = 0 from ⟨z, rfl⟩)]
          · have hle : fb_ct (rd r3) 300 ≤ 300 := fb_ct_le _ _
            rw [if_neg (show ¬ nI (fb_ct (rd r3) 300) ≤ 0 from nI_ge (a := 0) (by omega) (by omega)), if_neg n10i, if_neg (fun q => y q.2)]
        · rw [if_neg z, if_neg n10i, if_neg (fun q => z q.1)]
      have eR : m_alike (sR st r) (nI o) (nI u) (nI m) s = some (if fb_ct (rd r1) 300 = 0 ∧ fb_ct (rd r3) 300 = 0 then vb else -2, sR st4 r4) := by
        unfold m_alike
        rw [nm_eq, sR_I, q3, bd_s, if_neg n10i, u4, bd_s, if_neg n10i, g1, bd_s, sR_A _ _ (by decide), e1, bd_s, nm_eq]
        simp only
        rw [sR_I, m_pairs_ok e3, bd_s, e62, e62]
        have ct : fb_ct (uP r1 1) 300 = fb_ct (rd r1) 300 := rfl
        rw [ct]
        by_cases y : fb_ct (rd r1) 300 = 0
        · rw [y, if_pos (show nI 0 ≤ 0 by decide)]
          by_cases x : fb_ct (rd r3) 300 = 0
          · rw [if_pos (show (0 : Int32) = 0 ∧ fb_ct (rd r3) 300 = 0 from ⟨rfl, x⟩), if_pos (show (0 : Nat) = 0 ∧ fb_ct (rd r3) 300 = 0 from ⟨rfl, x⟩)]
          · rw [if_neg (fun q => x q.2), if_neg (fun q => x q.2)]
        · have hle : fb_ct (rd r1) 300 ≤ 300 := fb_ct_le _ _
          rw [if_neg (show ¬ nI (fb_ct (rd r1) 300) ≤ 0 from nI_ge (a := 0) (by omega) (by omega)), if_neg (fun q => n10i q.1), if_neg (fun q => y q.1)]
      have rp1 := n_readyPairs_ok e4 e3
      have rp3 := n_readyPairs_ok d4 d3
      rw [eR]
      by_cases y : fb_ct (rd r1) 300 = 0
      · have L6 : r_looksAtEnd6 sc sh ss (nI o) (nI m) s = some (1, sn1, s1) := by
          unfold r_looksAtEnd6
          rw [b1, bd_s, e2, bd_s]
          simp only
          rw [rp1, bd_s, y, if_pos (show nI 0 ≤ 0 by decide), f1, bd_s]
        by_cases x : fb_ct (rd r3) 300 = 0
        · have L7 : r_looksAtEnd7 sc sn1 so (nI u) (nI m) s = some (1, sn3, s2) := by
            unfold r_looksAtEnd7
            rw [c1, bd_s, d2, bd_s]
            simp only
            rw [rp3, bd_s, x, if_pos (show nI 0 ≤ 0 by decide), i1', bd_s]
          refine ⟨vb, sn3, s1, s2, st4, r4, ?_, by rw [if_pos ⟨y, x⟩], h.thou k4 w2 lr3⟩
          unfold r_alike
          rw [q1, bd_s, if_neg n10i, u3, bd_s, if_neg n10i, q2, bd_s, if_neg n10i, L6, bd_s]
          simp only
          rw [if_neg n10i, L7, bd_s]
          simp only
          rw [if_neg n10i, i3', bd_s, hvb]
          cases bb <;> rfl
        · have hle : fb_ct (rd r3) 300 ≤ 300 := fb_ct_le _ _
          have L7 : r_looksAtEnd7 sc sn1 so (nI u) (nI m) s = some (0, sn3, so) := by
            unfold r_looksAtEnd7
            rw [c1, bd_s, d2, bd_s]
            simp only
            rw [rp3, bd_s, if_neg (show ¬ nI (fb_ct (rd r3) 300) ≤ 0 from nI_ge (a := 0) (by omega) (by omega))]
          refine ⟨-2, sn3, s1, so, st4, r4, ?_, by rw [if_neg (fun q => x q.2)], h.thou k4 w2 lr3⟩
          unfold r_alike
          rw [q1, bd_s, if_neg n10i, u3, bd_s, if_neg n10i, q2, bd_s, if_neg n10i, L6, bd_s]
          simp only
          rw [if_neg n10i, L7, bd_s]
          simp only
          rw [if_pos trivial]
      · have hle : fb_ct (rd r1) 300 ≤ 300 := fb_ct_le _ _
        have L6 : r_looksAtEnd6 sc sh ss (nI o) (nI m) s = some (0, sn1, ss) := by
          unfold r_looksAtEnd6
          rw [b1, bd_s, e2, bd_s]
          simp only
          rw [rp1, bd_s, if_neg (show ¬ nI (fb_ct (rd r1) 300) ≤ 0 from nI_ge (a := 0) (by omega) (by omega))]
        refine ⟨-2, sn1, ss, so, st4, r4, ?_, by rw [if_neg (fun q => y q.1)], h.thou k4 w2 lr1⟩
        unfold r_alike
        rw [q1, bd_s, if_neg n10i, u3, bd_s, if_neg n10i, q2, bd_s, if_neg n10i, L6, bd_s]
        simp only
        rw [if_pos trivial]
    · refine ⟨-1, sh, ss, so, sI st 0 0, r, ?_, ?_, h.same (KP.i0 st)⟩
      · unfold r_alike
        rw [q1, bd_s, if_neg n10i, u3, bd_s, if_pos rfl]
      · unfold m_alike
        rw [nm_eq, sR_I, q3, bd_s, if_neg n10i, u4, bd_s, if_pos rfl]
  · refine ⟨-1, sh, ss, so, sI st 0 0, r, ?_, ?_, h.same (KP.i0 st)⟩
    · unfold r_alike
      rcases q1 with q1 | ⟨q1, q2⟩
      · rw [q1, bd_s, if_pos rfl]
      · rcases ord_any b with ⟨u, u1, u2, u3, u4⟩ | ⟨u3, u4⟩
        · rw [q1, bd_s, if_neg n10i, u3, bd_s, if_neg n10i, q2, bd_s, if_pos rfl]
        · rw [q1, bd_s, if_neg n10i, u3, bd_s, if_pos rfl]
    · unfold m_alike
      rw [nm_eq, sR_I, q3, bd_s, if_pos rfl]
