/-! images, what is taken back, numbers and lists -/
theorem L_number {V : VS} {sr : OSt} {ta : Nat → Int32} {sc sh sn : NSt} {st : OSt} {r : Nat → Nat} (h : RI V sr ta sc sh sn st r) (a : Int32) : (n_hasRoot sc a = some 0 ∧ m_number_ (sR st r) a = some (0, sR (sI st 0 1) r)) ∨ (n_hasRoot sc a = some 1 ∧ ∃ x, n_numberAt sc (1000 + a) = some x ∧ m_number_ (sR st r) a = some (x, sR (sI st 0 0) r)) := by
  rcases root_any (st := st) h.1.1 h.1.2 a with ⟨i, i16, rfl, hi, q1, q2⟩ | ⟨q1, q2⟩
  · right
    obtain ⟨x, e1, e2, _⟩ := number_ok (st := sI st 0 0) h.1.1 h.1.2 (p0 := 1000 + i) (Or.inr (by omega)) (root_xP i16 hi)
    refine ⟨q1, x, ?_, ?_⟩
    · rw [i1000, nI_add]
      exact e1
    · unfold m_number_
      rw [q2, bd_s, if_neg n10i, nm_eq, sR_I, sR_1, if_pos (show (sI st 0 0).1 0 ≤ 0 from (by decide : (0 : Int32) ≤ 0)), i1000, nI_add, e2, bd_s]
  · left
    refine ⟨q1, ?_⟩
    unfold m_number_
    rw [q2, bd_s, if_pos rfl, nm_eq, sR_I, sR_1, if_neg (show ¬ (sI st 0 1).1 0 ≤ 0 from (by decide : ¬ (1 : Int32) ≤ 0))]
theorem L_list {V : VS} {sr : OSt} {ta : Nat → Int32} {sc sh sn : NSt} {st : OSt} {r : Nat → Nat} (h : RI V sr ta sc sh sn st r) (a b : Int32) : (n_hasRoot sc a = some 0 ∧ m_list_ (sR st r) a b = some (0, sR (sI st 0 1) r)) ∨ (n_hasRoot sc a = some 1 ∧ ∃ x, n_listAt sc (1000 + a) b = some x ∧ m_list_ (sR st r) a b = some (x, sR (sI st 0 0) r)) := by
  rcases root_any (st := st) h.1.1 h.1.2 a with ⟨i, i16, rfl, hi, q1, q2⟩ | ⟨q1, q2⟩
  · right
    obtain ⟨x, e1, e2⟩ := list_ok (st := sI st 0 0) h.1.1 h.1.2 b (p0 := 1000 + i) (Or.inr (by omega)) (root_xP i16 hi)
    refine ⟨q1, x, ?_, ?_⟩
    · rw [i1000, nI_add]
      exact e1
    · unfold m_list_ m_list__14
      rw [q2, bd_s, if_neg n10i, nm_eq, sR_I, sR_1, if_pos (show (sI st 0 0).1 0 ≤ 0 from (by decide : (0 : Int32) ≤ 0)), i1000, nI_add]
      exact e2
  · left
    refine ⟨q1, ?_⟩
    unfold m_list_ m_list__14
    rw [q2, bd_s, if_pos rfl, nm_eq, sR_I, sR_1, if_neg (show ¬ (sI st 0 1).1 0 ≤ 0 from (by decide : ¬ (1 : Int32) ≤ 0))]
theorem KP.i1 (st : OSt) : KP st (sI st 0 1) := ⟨⟨rfl, rfl, rfl, rfl⟩, rfl, rfl⟩
theorem L_undo {V : VS} {sr : OSt} {ta : Nat → Int32} {sc sh sn : NSt} {st : OSt} {r : Nat → Nat} (h : RI V sr ta sc sh sn st r) : (sr.1 11 = 0 ∧ m_undo (sR st r) = some (-1, sR (sI st 0 0) r)) ∨ ∃ (f k : Nat) (q' : Nat → Nat) (s' x : NSt) (st' : OSt) (r' : Nat → Nat), sr.1 10 = nI f ∧ sr.1 11 = nI (k + 1) ∧ f < 12 ∧ k < 12 ∧ V ((f + k) % 12 + 2) = some (q', s') ∧ n_become sc s' = some x ∧ m_undo (sR st r) = some (nI k, sR st' r') ∧ RI V (sI sr 11 (nI k)) ta x sh sn st' r' := by
  obtain ⟨hn, hl, ⟨T, B, a0, a1, a2, a3⟩, ⟨f, c, ⟨b1, b2, b3, b4⟩, b5, b6⟩, d, e⟩ := h
  rcases c with _ | k
  · left
    refine ⟨b2, ?_⟩
    unfold m_undo
    rw [nm_eq, sR_I, sR_1, if_pos (show (sI st 0 0).1 37 = 0 from b5)]
  · right
    obtain ⟨q', s', rk, k1, k2, k3, k4⟩ := b6 k (by omega)
    obtain ⟨x, e1, e2, e3⟩ := n_become_ok (sn := sc) k3 (by omega) (by omega) k2
    obtain ⟨r', p1, p2⟩ := cpBack (ka := 19752) (b := 1646 * k) (f := st.2 38) (ro := rk) (sI (sI st 0 0) 37 (nI k)) r (by omega) (by omega) k4
    obtain ⟨v1, v2⟩ := NVC_cong p2 k2 e2
    refine ⟨f, k, q', s', x, sI (sI st 0 0) 37 (nI k), r', b1, b2, b3, by omega, k1, e1, ?_, ⟨v1, v2⟩, ⟨e3.trans hl.1, hl.2⟩, ⟨T, B, a0, a1, a2, a3⟩, ⟨f, k, ⟨b1, rfl, b3, by omega⟩, rfl, fun j hj => b6 j (by omega)⟩, d, e⟩
    unfold m_undo
    rw [nm_eq, sR_I, sR_1, show (sI st 0 0).1 37 = nI (k + 1) from b5, if_neg (nI_ne0 (by omega) (by omega)), nm_eq, show nI (k + 1) - 1 = nI k from n_sub (a := k + 1) (b := 1) (by omega), sR_I, sR_1, show (sI (sI st 0 0) 37 (nI k)).1 37 = nI k from rfl, i1646, pk_mul, sR_o _ _ (by decide), show (sI (sI st 0 0) 37 (nI k)).2 38 = st.2 38 from rfl, p1, bd_s, sR_A1, sR_1]
    rfl
theorem iA_of {V : VS} {sr : OSt} {j : Nat} (j2 : j < 2) : iA V sr (nI j) = if sr.2 8 j = 0 then none else imO V j := by
  unfold iA
  rw [if_neg (nI_pos (by omega)), if_neg (show ¬ (2 : Int32) ≤ nI j from nI_ge (b := 2) j2 (by omega)), nc (by omega)]
theorem iA_out {V : VS} {sr : OSt} {a : Int32} (h : a < 0 ∨ (2 : Int32) ≤ a) : iA V sr a = none := by
  unfold iA
  by_cases w : a < 0
  · rw [if_pos w]
  · rw [if_neg w, if_pos (h.resolve_left w)]
theorem w1_any (a : Int32) : (∃ j, j < 2 ∧ a = nI j ∧ m_within a 0 1 = some 1) ∨ ((a < 0 ∨ (2 : Int32) ≤ a) ∧ m_within a 0 1 = some 0) := by
  unfold m_within
  by_cases z : a < 0
  · right
    rw [if_pos z]
    exact ⟨Or.inl z, rfl⟩
  · obtain ⟨j, hj, rfl⟩ := ge_j z
    by_cases w : j < 2
    · left
      refine ⟨j, w, rfl, ?_⟩
      rw [if_neg z, if_neg (show ¬ (1 : Int32) < nI j from nI_nlt (a := 1) (by omega) (by omega))]
    · right
      refine ⟨Or.inr (nI_le (a := 2) (by omega) hj), ?_⟩
      rw [if_neg z, if_pos (show (1 : Int32) < nI j from nI_lt (a := 1) (by omega) hj)]
theorem L_likeImage {V : VS} {sr : OSt} {ta : Nat → Int32} {sc sh sn : NSt} {st : OSt} {r : Nat → Nat} (h : RI V sr ta sc sh sn st r) (ss so : OSt) (a : Int32) : (iA V sr a = none ∧ m_likeImage (sR st r) a = some (-1, sR (sI st 0 0) r)) ∨ ∃ (i : Nat) (q' : Nat → Nat) (s' : NSt) (s1 s2 : OSt) (b : Int32) (st' : OSt) (r' : Nat → Nat), i < 14 ∧ iA V sr a = some (q' 15) ∧ V i = some (q', s') ∧ g_look ss sc = some s1 ∧ g_look so s' = some s2 ∧ g_isLike s1 s2 = some b ∧ m_likeImage (sR st r) a = some ((if b = 0 then 0 else 1), sR st' r') ∧ RI V sr ta sc sh sn st' r' := by
  rcases w1_any a with ⟨j, j2, rfl, w1⟩ | ⟨z, w1⟩
  · obtain ⟨e1, e2, e3⟩ := h.2.2.2.2.2 j j2
    rw [iA_of j2]
    by_cases z : sr.2 8 j = 0
    · left
      refine ⟨if_pos z, ?_⟩
      unfold m_likeImage
      rw [nm_eq, sR_I, w1, bd_s, if_neg n10i, gd_nI (by omega) (by omega), nc (by omega), sR_o _ _ (by decide), if_pos (show (sI st 0 0).2 40 j = 0 from e2.trans z)]
    · right
      obtain ⟨q', s', rk, k1, k2, k3, k4⟩ := e3 (e1.resolve_left z)
      obtain ⟨s1, st1, t, f1, f2, f3, f4, f5, f6, f7⟩ := laysBy_ok h.1.1 h.1.2 ss (sI st 0 0)
      obtain ⟨g, g1, g2⟩ := cp39 st1 r
      have e41 : st1.2 41 = st.2 41 := f3.kp.1.2.2.2
      obtain ⟨r2, p1, p2⟩ := cpBack (ka := 3292) (b := 1646 * j) (f := st.2 41) (ro := rk) (sA st1 39 g) r (by omega) (by omega) k4
      obtain ⟨v1, v2⟩ := NVC_cong p2 k2 k3
      obtain ⟨s2, st4, bb, i1', i2', i3', i4'⟩ := areAlike_ok v1 v2 so (sA st1 39 g) f4 (by rw [sA_1]; exact f5) f6 (fun i hi => by rw [sA_2, if_neg (by decide)]; exact f7 i hi)
      have a4 : st4.2 39 = g := by rw [i4'.a39, sA_2, if_pos rfl]
      obtain ⟨r4, w1', w2⟩ := cpBack (ka := 1646) (b := 0) (f := g) (ro := r) st4 r2 (by omega) (by omega) (fun j hj => by rw [Nat.zero_add]; exact g2 j hj)
      have hR := h.thou (((KP.i0 st).tr f3.kp).tr ((KP.A39 _ _).tr i4'.kp)) w2 h.2.1.2.1
      refine ⟨j, q', s', s1, s2, _, st4, r4, by omega, ?_, k1, f1, i1', i3', ?_, hR⟩
      · rw [if_neg z, imO_at j2]
        unfold vO
        rw [k1]
        rfl
      · unfold m_likeImage
        rw [nm_eq, sR_I, w1, bd_s, if_neg n10i, gd_nI (by omega) (by omega), nc (by omega), sR_o _ _ (by decide), if_neg (show ¬ (sI st 0 0).2 40 j = 0 from fun y => z (e2.symm.trans y)), f2, bd_s, g1, bd_s, sR_A _ _ (by decide), sR_o _ _ (by decide), show (sA st1 39 g).2 41 = st.2 41 from e41, i1646, pk_mul, p1, bd_s, sR_A1, i2', bd_s]
        simp only
        rw [sR_o st4 r2 (k := 39) (by decide), a4, show m_copies 1646 g 1646 ((sR st4 r2).2 1) 0 0 = _ from w1', bd_s, sR_A1]
        cases bb <;> rfl
  · left
    refine ⟨iA_out z, ?_⟩
    unfold m_likeImage
    rw [nm_eq, sR_I, w1, bd_s, if_pos rfl]
theorem L_image {x00 : NSt} (h00 : n_clear (n0 0) 200 = some x00) {V : VS} {sr : OSt} {ta : Nat → Int32} {sc sh sn : NSt} {st : OSt} {r : Nat → Nat} (h : RI V sr ta sc sh sn st r) (a b : Int32) :
    ((a < 0 ∨ (2 : Int32) ≤ a) ∧ m_image (sR st r) a b = some (0, sR (sI st 0 0) r)) ∨
    (∃ j, j < 2 ∧ a = nI j ∧ ¬ b = 0 ∧ iA V sr (nI j) = none ∧ m_image (sR st r) a b = some (0, sR (sI st 0 0) r)) ∨
    (∃ (j i : Nat) (q' : Nat → Nat) (s' x : NSt) (st' : OSt) (r' : Nat → Nat), j < 2 ∧ a = nI j ∧ ¬ b = 0 ∧ i < 14 ∧ iA V sr (nI j) = some (q' 15) ∧ V i = some (q', s') ∧ n_become sc s' = some x ∧ m_image (sR st r) a b = some (1, sR st' r') ∧ RI V (sI (sI sr 10 0) 11 0) ta x sh sn st' r') ∨
    (∃ (j : Nat) (st' : OSt), j < 2 ∧ a = nI j ∧ b = 0 ∧ m_image (sR st r) a b = some (1, sR st' r) ∧ ∀ (q' : Nat → Nat) (s0 s' : NSt), (V j = some (q', s0) ∨ (V j = none ∧ s0 = x00)) → n_become s0 sc = some s' → RI (vup V j (some (q', s'))) (sA sr 8 (upd (sr.2 8) j 1)) ta sc sh sn st' r) := by
  have h' := h
  obtain ⟨hn, hl, ⟨T, B, a0, a1, a2, a3⟩, ⟨f, c, b1, b5, b6⟩, d, e⟩ := h
  rcases w1_any a with ⟨j, j2, rfl, w1⟩ | ⟨z, w1⟩
  · obtain ⟨e1, e2, e3⟩ := e j j2
    by_cases y : b = 0
    · right; right; right
      obtain ⟨g, hg, hg1, hg2⟩ : ∃ g, m_copies 1646 ((sR (sI st 0 0) r).2 1) 3292 ((sR (sI st 0 0) r).2 41) 0 (nI (1646 * j)) = some g ∧ (∀ i, i < 1646 → g (1646 * j + i) = nI (r i)) ∧ ∀ i, (i < 1646 * j ∨ 1646 * j + 1646 ≤ i) → g i = st.2 41 i := by
        refine ⟨_, m_copies_ok (a := 0) (b := 1646 * j) (by omega) (by omega) (by omega) (by omega), fun i hi => ?_, fun i hi => ?_⟩
        · rw [if_pos (by omega), Nat.zero_add, show 1646 * j + i - 1646 * j = i by omega, sR_2, nR_at]
        · rw [if_neg (by omega), sR_o _ _ (by decide)]
          rfl
      refine ⟨j, sA (sA (sI st 0 0) 41 g) 40 (upd (st.2 40) j 1), j2, rfl, y, ?_, ?_⟩
      · unfold m_image m_image_29
        rw [nm_eq, sR_I, w1, bd_s, if_neg n10i, if_pos y, if_pos y, i1646, pk_mul, hg, bd_s, gd_nI (by omega) (by omega), nm_eq, nc (by omega), nb1, sR_A _ _ (by decide), sR_o _ _ (by decide), sR_A _ _ (by decide)]
        rfl
      · intro q' s0 s' hv hb
        obtain ⟨n1, n2⟩ := REM.new h00 h' hv hb
        refine ⟨hn, hl, ⟨T, B, a0, a1, a2, a3⟩, ⟨f, c, b1, b5, fun k hk => ?_⟩, fun i q s hq => ?_, fun k hk => ?_⟩
        · rw [vup_n (by omega)]
          exact b6 k hk
        · by_cases w : i = j
          · rw [w, vup_s] at hq
            have := Option.some.inj hq
            rw [show s = s' from (congrArg Prod.snd this).symm]
            exact n2
          · rw [vup_n w] at hq
            exact d i q s hq
        · rw [sA_2, if_pos rfl, sA_2, if_pos rfl, sA_2, if_neg (by decide), sA_2, if_pos rfl, upd_at, upd_at]
          obtain ⟨k1, k2, k3⟩ := e k hk
          by_cases w : k = j
          · rw [if_pos w, if_pos w, w, vup_s]
            exact ⟨Or.inr rfl, rfl, fun _ => ⟨q', s', r, rfl, hn.1, n1, hg1⟩⟩
          · rw [if_neg w, if_neg w, vup_n w]
            exact ⟨k1, k2, fun q => (k3 q).of (fun i hi => hg2 _ (by omega))⟩
    · by_cases z : sr.2 8 j = 0
      · right; left
        refine ⟨j, j2, rfl, y, by rw [iA_of j2, if_pos z], ?_⟩
        unfold m_image
        rw [nm_eq, sR_I, w1, bd_s, if_neg n10i, if_neg y, gd_nI (by omega) (by omega), nc (by omega), sR_o _ _ (by decide), if_pos (show (sI st 0 0).2 40 j = 0 from e2.trans z)]
      · right; right; left
        obtain ⟨q', s', rk, k1, k2, k3, k4⟩ := e3 (e1.resolve_left z)
        obtain ⟨x, g1, g2, g3⟩ := n_become_ok (sn := sc) k3 (by omega) (by omega) k2
        obtain ⟨r', p1, p2⟩ := cpBack (ka := 3292) (b := 1646 * j) (f := st.2 41) (ro := rk) (sI st 0 0) r (by omega) (by omega) k4
        obtain ⟨v1, v2⟩ := NVC_cong p2 k2 g2
        refine ⟨j, j, q', s', x, sI (sI st 0 0) 37 0, r', j2, rfl, y, by omega, ?_, k1, g1, ?_, ⟨v1, v2⟩, ⟨g3.trans hl.1, hl.2⟩, ⟨T, B, a0, a1, a2, a3⟩, ⟨0, 0, ⟨rfl, rfl, by omega, by omega⟩, rfl, fun k hk => absurd hk (Nat.not_lt_zero _)⟩, d, e⟩
        · rw [iA_of j2, if_neg z, imO_at j2]
          unfold vO
          rw [k1]
          rfl
        · unfold m_image m_image_29
          rw [nm_eq, sR_I, w1, bd_s, if_neg n10i, if_neg y, gd_nI (by omega) (by omega), nc (by omega), sR_o _ _ (by decide), if_neg (show ¬ (sI st 0 0).2 40 j = 0 from fun q => z (e2.symm.trans q)), if_neg y, sR_o _ _ (by decide), show (sI st 0 0).2 41 = st.2 41 from rfl, i1646, pk_mul, p1, bd_s, sR_A1, nm_eq, sR_I]
  · left
    refine ⟨z, ?_⟩
    unfold m_image
    rw [nm_eq, sR_I, w1, bd_s, if_pos rfl]
/-- the start -/
theorem RI_start {x4 x250 : NSt} (h4 : n_clear (n0 4) 200 = some x4) (h250 : n_clear (n0 250) 200 = some x250) {st : OSt} {r : Nat → Nat} (hr : ∀ j, j < 1646 → r j = rE 200 j) (h3 : st.1 3 = 0) (h37 : st.1 37 = 0) (h40 : st.2 40 0 = 0 ∧ st.2 40 1 = 0) : RI (fun _ => none) o0 (fun _ => 0) x4 x4 x250 st r := by
  obtain ⟨y, e1, e2, e3, e4, e5, e6, e7, e8⟩ := clear_ok (sn := n0 4) (Nat.le_of_ble_eq_true rfl) (Nat.le_of_ble_eq_true rfl) (a := 200) (by omega) (fun _ => 0)
  have ey : x4 = y := Option.some.inj (h4.symm.trans e1)
  obtain ⟨y2, f1, f2, _⟩ := clear_ok (sn := n0 250) (Nat.le_of_ble_eq_true rfl) (Nat.le_of_ble_eq_true rfl) (a := 200) (by omega) (fun _ => 0)
  have ey2 : x250 = y2 := Option.some.inj (h250.symm.trans f1)
  subst ey
  subst ey2
  have xF : ∀ p, xP (rE 200) p ↔ False := fun p => by
    unfold xP
    constructor
    · rintro (⟨_, z, _⟩ | ⟨z0, _, z⟩)
      · rw [rE_n (by omega)] at z; omega
      · rw [rE_n (by omega)] at z; omega
    · exact fun z => z.elim
  have hw : WR (rE 200) := ⟨by rw [rE_n (by omega)]; omega, fun i hi => by rw [rE_n (by omega)]; omega⟩
  obtain ⟨a1, a2⟩ := quies_fin (t := rE 200) (E := fun _ => False) (L := fun _ => 0) (K := Kr (rE 200)) e5 hw e6 e7 (fun _ _ => rfl) e8 (by rw [e2]; exact Nat.le_of_ble_eq_true rfl) xF (fun p z => z.elim)
  obtain ⟨v1, v2⟩ := NVC_cong hr a1 a2
  refine ⟨⟨v1, v2⟩, ⟨e2, e2, f2⟩, ⟨0, fun _ => 0, by omega, rfl, h3, fun i hi => absurd hi (Nat.not_lt_zero _)⟩, ⟨0, 0, ⟨rfl, rfl, by omega, by omega⟩, h37, fun k hk => absurd hk (Nat.not_lt_zero _)⟩, (fun i q s hq => nomatch hq), fun k hk => ?_⟩
  have : k = 0 ∨ k = 1 := by omega
  rcases this with rfl | rfl
  · exact ⟨Or.inl rfl, h40.1, fun z => absurd z (by decide)⟩
  · exact ⟨Or.inl rfl, h40.2, fun z => absurd z (by decide)⟩
