/-! a pair is reduced, on both sides: what is common; erasers; alike ones -/
theorem lk_ur {r : Nat → Nat} {j v : Nat} (h : j < 630) : lk (ur r j v) = lk r := funext fun p => by
  unfold lk
  exact ur_n (by omega)
theorem Kr_ur {r : Nat → Nat} {j v : Nat} (h : j < 30) : Kr (ur r j v) = Kr r := funext fun p => by
  unfold Kr
  exact ur_n (by omega)
theorem xP_lo {r t : Nat → Nat} (h : ∀ j, 14 ≤ j → j < 330 → t j = r j) (p : Nat) : xP t p ↔ xP r p := by
  unfold xP
  by_cases q : p < 900
  · rw [h (30 + p / 3) (by omega) (by omega)]
    constructor
    · rintro (a | a)
      · exact Or.inl a
      · omega
    · rintro (a | a)
      · exact Or.inl a
      · omega
  · constructor
    · rintro (a | ⟨a, b, c⟩)
      · omega
      · rw [h _ (by omega) (by omega)] at c
        exact Or.inr ⟨a, b, c⟩
    · rintro (a | ⟨a, b, c⟩)
      · omega
      · rw [← h _ (by omega) (by omega)] at c
        exact Or.inr ⟨a, b, c⟩
theorem WR_lo {r t : Nat → Nat} (h : ∀ j, j = 6 ∨ (14 ≤ j ∧ j < 30) → t j = r j) (hr : WR r) : WR t := by
  obtain ⟨h1, h2⟩ := hr
  refine ⟨by rw [h 6 (Or.inl rfl)]; exact h1, fun i hi => ?_⟩
  rw [h (14 + i) (Or.inr ⟨by omega, by omega⟩), h 6 (Or.inl rfl)]
  exact h2 i hi
theorem NC_fin {t : Nat → Nat} {sn : NSt} {E : Nat → Prop} {L : Nat → Nat} (hw : WM t) (hr : WR t) (c : CM t sn) (n : CN E L (Kr t) sn) (rt : RT E sn) (hn : 1016 ≤ nl sn) (hE : ∀ p, xP t p ↔ E p) (hL : ∀ p, E p → lk t p = L p) : NV t ∧ NC t sn := by
  have cn : CN (xP t) (lk t) (Kr t) sn := n.cong hE hL
  exact ⟨⟨hw, hr, cn.2.1.1⟩, c, cn, hn, rt.cong hE⟩
/-- the counts of the rules -/
theorem n_155_ok {t : Nat → Nat} {sn : NSt} {v : Nat} (hv : v ≤ 5) (c : CM t sn) : n_rewrite_155 sn (nI v) = some (nI v, nsA sn 3 (upd (na sn 3) v (na sn 3 v + 1))) ∧ CM (ur t (8 + v) (t (8 + v) + 1)) (nsA sn 3 (upd (na sn 3) v (na sn 3 v + 1))) := by
  obtain ⟨⟨c6, c7, c8, c9⟩, ⟨c11, c10, c12, c13⟩, c3, c0, c2⟩ := c
  constructor
  · unfold n_rewrite_155
    rw [if_neg (nI_pos (by omega)), if_neg (show ¬ (6 : Int32) ≤ nI v from nI_ge (b := 6) (by omega) (by omega)), gd_nI (by omega) (by omega), gd_nI (by omega) (by omega), nm_eq, nc (by omega)]
  · refine ⟨⟨?_, ?_, ?_, ?_⟩, ⟨?_, ?_, ?_, ?_⟩, ?_, ?_, ?_⟩
    · rw [ur_n (by omega)]; exact c6
    · rw [ur_n (by omega)]; exact c7
    · rw [ur_n (by omega)]; exact c8
    · rw [ur_n (by omega)]; exact c9
    · rw [ur_n (by omega)]; exact c11
    · rw [ur_n (by omega)]; exact c10
    · rw [ur_n (by omega)]; exact c12
    · rw [ur_n (by omega)]; exact c13
    · intro k hk
      show upd (na sn 3) v (na sn 3 v + 1) k = _
      rw [upd_at, ur_at]
      by_cases q : k = v
      · rw [if_pos q, if_pos (by omega), c3 v (by omega), nI_1]
      · rw [if_neg q, if_neg (by omega)]
        exact c3 k hk
    · intro m hm
      rw [ur_n (by omega)]
      exact c0 m hm
    · intro k hk
      rw [ur_n (by omega)] at hk
      rw [ur_n (by omega)]
      exact c2 k hk
/-- what a step leaves as it was -/
def SN (sn sn' : NSt) : Prop := nl sn' = nl sn ∧ nh sn' = nh sn ∧ ni sn' 14 = ni sn 14
theorem SN.tr {a b c : NSt} (h : SN a b) (g : SN b c) : SN a c := ⟨g.1.trans h.1, g.2.1.trans h.2.1, g.2.2.trans h.2.2⟩
theorem SL.sn {a b : NSt} (h : SL a b) : SN a b := ⟨h.gl, h.gh, h.gi 14⟩
theorem SK.sn {a b : NSt} (h : SK a b) : SN a b := ⟨h.1, h.2.2.2.1, h.2.2.2.2⟩
/-- other pairs stay -/
def PK (r r' : Nat → Nat) (x : Nat) : Prop := ∀ z, iP r z = true → z ≠ x → iP r' z = true ∧ ru r' z = ru r z
theorem PK_of {r r' : Nat → Nat} (hv : NV r) {x y : Nat} (e : lk r (3 * x) = 3 * y) (e' : lk r (3 * y) = 3 * x) (hx : x < 300) (hy : y < 300) (xy : x < y) (h : ∀ p, xP r p → hd p → hd (lk r p) → p ≠ 3 * x → p ≠ 3 * y → lk r' p = lk r p ∧ r' (30 + p / 3) = r (30 + p / 3)) : PK r r' x := by
  intro z hz hne
  obtain ⟨y2, ⟨z3, y3, zy⟩, ⟨e1, e2⟩, ⟨a, b⟩, ⟨c, d⟩⟩ := iP_y hv hz
  have ny : z ≠ y := fun q => by
    subst q
    rw [e'] at e1
    omega
  have ny2 : y2 ≠ y := fun q => by
    subst q
    rw [e'] at e2
    omega
  have nx2 : y2 ≠ x := fun q => by
    subst q
    rw [e] at e2
    omega
  have h1 := h (3 * z) ((xP_hd z3).mpr a) ⟨by omega, by omega⟩ (by rw [e1]; exact ⟨by omega, by omega⟩) (by omega) (by omega)
  have h2 := h (3 * y2) ((xP_hd y3).mpr c) ⟨by omega, by omega⟩ (by rw [e2]; exact ⟨by omega, by omega⟩) (by omega) (by omega)
  rw [show 3 * z / 3 = z by omega] at h1
  rw [show 3 * y2 / 3 = y2 by omega] at h2
  have l1 : lk r' (3 * z) = 3 * y2 := h1.1.trans e1
  constructor
  · unfold iP
    rw [l1, h1.2]
    exact decide_eq_true ⟨z3, a, ⟨by omega, by omega⟩, by omega⟩
  · rw [ru_y l1, ru_y e1, h1.2, h2.2]
/-- the reference's beginning -/
theorem m_65_1 (st : OSt) (v1 v2 v3 : Int32) : m_reduces_65 st v1 v2 v3 1 = m_reduces_89 st v1 v2 v3 v1 v2 := by
  unfold m_reduces_65 m_reduces_77
  rw [if_neg (by decide), if_neg (by decide)]
theorem m_65_0 (st : OSt) (v1 v2 v3 : Int32) : m_reduces_65 st v1 v2 v3 0 = m_reduces_89 st v1 v2 v3 v2 v1 := by
  unfold m_reduces_65 m_reduces_77
  rw [if_pos rfl, if_pos rfl]
theorem m_red_start {st : OSt} {r : Nat → Nat} (hv : NV r) {x y : Nat} (hp : iP r x = true) (hx : x < 300) (hy : y < 300) (e : lk r (3 * x) = 3 * y) (kx : 0 < r (30 + x)) (kx3 : r (30 + x) ≤ 3) (ky : 0 < r (30 + y)) (ky3 : r (30 + y) ≤ 3) :
    ∃ one two, ((one = x ∧ two = y) ∨ (one = y ∧ two = x)) ∧ m_reduces (sR st r) (nI x) = m_reduces_89 (sR st (ur r (8 + ru r x) (r (8 + ru r x) + 1))) (nI x) (nI y) (nI (ru r x)) (nI one) (nI two) ∧ (ru r x = 3 ∨ ru r x = 4 → 1 < r (30 + one) ∧ r (30 + two) = 1) ∧ (ru r x = 5 → r (30 + one) = 2 ∧ r (30 + two) = 3) := by
  have h5 := ru_le hv hp
  have er := ru_y e
  unfold m_reduces
  simp only [nm_eq]
  rw [m_facing_ok hx (by omega), bd_s, if_pos (by omega), e, show 3 * y / 3 = y by omega, m_ruleOf_ok hv hp, bd_s, i8, nI_add, gd_nI (by omega) (by omega), gd_nI (by omega) (by omega), nc (by omega), sR_2, nR_at, nI_1, upd_nR, sR_A1]
  have kk : ∀ n, ur r (8 + ru r x) (r (8 + ru r x) + 1) (30 + n) = r (30 + n) := fun n => ur_n (by omega)
  have k1 : m_kindOf (sR st (ur r (8 + ru r x) (r (8 + ru r x) + 1))) (nI x) = some (nI (r (30 + x) - 1)) := by
    rw [m_kindOf_ok hx (by rw [kk]; exact kx), kk]
  by_cases q34 : ru r x = 3 ∨ ru r x = 4
  · have red : (if nI (ru r x) = 3 then m_reduces_35 (sR st (ur r (8 + ru r x) (r (8 + ru r x) + 1))) (nI x) (nI y) (nI (ru r x)) else if nI (ru r x) = 4 then m_reduces_35 (sR st (ur r (8 + ru r x) (r (8 + ru r x) + 1))) (nI x) (nI y) (nI (ru r x)) else bd (m_kindOf (sR st (ur r (8 + ru r x) (r (8 + ru r x) + 1))) (nI x)) fun x6 => if x6 = 1 then m_reduces_65 (sR st (ur r (8 + ru r x) (r (8 + ru r x) + 1))) (nI x) (nI y) (nI (ru r x)) 1 else m_reduces_65 (sR st (ur r (8 + ru r x) (r (8 + ru r x) + 1))) (nI x) (nI y) (nI (ru r x)) 0) = m_reduces_35 (sR st (ur r (8 + ru r x) (r (8 + ru r x) + 1))) (nI x) (nI y) (nI (ru r x)) := by
      rcases q34 with q | q
      · rw [if_pos (show nI (ru r x) = 3 by rw [q]; rfl)]
      · rw [if_neg (show ¬ nI (ru r x) = 3 by rw [q]; decide), if_pos (show nI (ru r x) = 4 by rw [q]; rfl)]
    rw [red]
    unfold m_reduces_35
    rw [k1, bd_s]
    by_cases z : 1 < r (30 + x)
    · rw [if_neg (show ¬ nI (r (30 + x) - 1) ≤ 0 from nI_ge (a := 0) (by omega) (by omega)), m_65_1]
      refine ⟨x, y, Or.inl ⟨rfl, rfl⟩, rfl, fun _ => ⟨z, ?_⟩, fun q => by omega⟩
      rw [er] at q34
      split at q34 <;> omega
    · rw [if_pos (show nI (r (30 + x) - 1) ≤ 0 from nI_le (b := 0) (by omega) (by omega)), m_65_0]
      refine ⟨y, x, Or.inr ⟨rfl, rfl⟩, rfl, fun _ => ⟨?_, by omega⟩, fun q => by omega⟩
      rw [er] at q34
      split at q34 <;> omega
  · have n3 : ¬ nI (ru r x) = 3 := by rw [i3, nI_eq (by omega) (by omega)]; omega
    have n4 : ¬ nI (ru r x) = 4 := by rw [i4, nI_eq (by omega) (by omega)]; omega
    rw [if_neg n3, if_neg n4, k1, bd_s]
    by_cases z : r (30 + x) = 2
    · rw [z, if_pos (show nI (2 - 1) = 1 from rfl), m_65_1]
      refine ⟨x, y, Or.inl ⟨rfl, rfl⟩, rfl, fun q => absurd q q34, fun q => ⟨z, ?_⟩⟩
      rw [er] at q
      split at q <;> omega
    · rw [if_neg (show ¬ nI (r (30 + x) - 1) = 1 by rw [i1, nI_eq (by omega) (by omega)]; omega), m_65_0]
      refine ⟨y, x, Or.inr ⟨rfl, rfl⟩, rfl, fun q => absurd q q34, fun q => ?_⟩
      rw [er] at q
      split at q <;> omega
/-- the row behind the two are freed -/
theorem t_facts {r : Nat → Nat} (hv : NV r) {x y : Nat} (hx : x < 300) (hy : y < 300) (xy : x < y) (kx : 0 < r (30 + x)) (ky : 0 < r (30 + y)) : WM (fK (fK r x) y) ∧ lk (fK (fK r x) y) = lk r ∧ (∀ m, m < 300 → fK (fK r x) y (30 + m) = if m = y then 0 else if m = x then 0 else r (30 + m)) ∧ (∀ j, 6 ≤ j → j < 30 → fK (fK r x) y j = r j) ∧ fK (fK r x) y 1 = r 1 - 2 ∧ fK (fK r x) y 0 = r 0 ∧ 2 ≤ r 1 := by
  have w8 := fK_WM hv.1 hx kx
  have p1 := hv.1.pos hx kx
  have ky8 : 0 < fK r x (30 + y) := by rw [fK_k hx hy, if_neg (by omega)]; exact ky
  have p2 := w8.pos hy ky8
  have e51 := fK_1 r x
  refine ⟨fK_WM w8 hy ky8, funext fun p => ?_, fun m hm => ?_, fun j h6 h30 => ?_, ?_, ?_, by omega⟩
  · unfold lk
    rw [fK_l hy p2.2.1, fK_l hx p1.2.1]
  · rw [fK_k hy hm, fK_k hx hm]
  · rw [fK_s h6 h30, fK_s h6 h30]
  · rw [fK_1, fK_1, Nat.sub_sub]
  · rw [fK_o (by omega) (by omega) (by omega) (by omega) (by omega), fK_o (by omega) (by omega) (by omega) (by omega) (by omega)]
theorem t_xP {r : Nat → Nat} (hv : NV r) {x y : Nat} (hx : x < 300) (hy : y < 300) (xy : x < y) (kx : 0 < r (30 + x)) (ky : 0 < r (30 + y)) (p : Nat) : xP (fK (fK r x) y) p ↔ (xP r p ∧ ¬ (p < 900 ∧ (p / 3 = x ∨ p / 3 = y))) := by
  obtain ⟨_, _, f1, f2, _⟩ := t_facts hv hx hy xy kx ky
  unfold xP
  by_cases q : p < 900
  · rw [f1 (p / 3) (by omega)]
    by_cases a : p / 3 = y
    · rw [if_pos a]; omega
    · rw [if_neg a]
      by_cases b : p / 3 = x
      · rw [if_pos b]; omega
      · rw [if_neg b]
        constructor
        · rintro (c | c)
          · exact ⟨Or.inl c, fun z => by omega⟩
          · omega
        · rintro ⟨c | c, _⟩
          · exact Or.inl c
          · omega
  · constructor
    · rintro (c | ⟨c1, c2, c3⟩)
      · omega
      · rw [f2 _ (by omega) (by omega)] at c3
        exact ⟨Or.inr ⟨c1, c2, c3⟩, fun z => by omega⟩
    · rintro ⟨c | ⟨c1, c2, c3⟩, _⟩
      · omega
      · rw [← f2 _ (by omega) (by omega)] at c3
        exact Or.inr ⟨c1, c2, c3⟩
theorem n_spl_ok {E : Nat → Prop} {L K t : Nat → Nat} {sn : NSt} (h : CN E L K sn) (c : CM t sn) (rt : RT E sn) {a b : Nat} (ha : E a) (hb : E b) (hab : a ≠ b) (nha : ¬ hd a) (nhb : ¬ hd b) (ra : a < 1000 ∨ 1016 ≤ a) (rb : b < 1000 ∨ 1016 ≤ b) :
    ∃ sn', n_splice sn (nI a) (nI b) = some sn' ∧ CM (ur t 7 (t 7 + lp L a b)) sn' ∧ CN (Em E a b) (ctr L a b) K sn' ∧ RT (Em E a b) sn' ∧ SN sn sn' := by
  obtain ⟨s1, s2⟩ := n_splice_ok h ha hb hab nha nhb
  unfold lp ctr
  by_cases q : L a = b
  · obtain ⟨f1, f2⟩ := s1 q
    rw [if_pos q, if_pos q]
    refine ⟨_, f1, ?_, f2, fun i hi hE => rt i hi (fun z => hE ⟨z, by omega, by omega⟩), rfl, rfl, rfl⟩
    obtain ⟨⟨c6, c7, c8, c9⟩, ⟨c11, c10, c12, c13⟩, c3, c0, c2⟩ := c
    refine ⟨⟨?_, ?_, ?_, ?_⟩, ⟨?_, ?_, ?_, ?_⟩, ?_, ?_, ?_⟩
    · rw [ur_n (by omega)]; exact c6
    · rw [ur_n (by omega)]; exact c7
    · rw [ur_n (by omega)]; exact c8
    · rw [ur_n (by omega)]; exact c9
    · rw [ur_n (by omega)]; exact c11
    · rw [ur_n (by omega)]; exact c10
    · rw [ur_n (by omega)]; exact c12
    · rw [ur_s, ← nI_1, ← c13]; rfl
    · intro k hk; rw [ur_n (by omega)]; exact c3 k hk
    · intro m hm; rw [ur_n (by omega)]; exact c0 m hm
    · intro k hk
      rw [ur_n (by omega)] at hk
      rw [ur_n (by omega)]
      exact c2 k hk
  · obtain ⟨sn', f1, ⟨f2, f3⟩, f4⟩ := s2 q
    rw [if_neg q, if_neg q, Nat.add_zero]
    have e : ur t 7 (t 7) = t := by
      funext j
      rw [ur_at]
      split
      · rename_i z; rw [z]
      · rfl
    rw [e]
    refine ⟨sn', f1, c.sl f2, f4, fun i hi hE => ?_, f2.sn⟩
    have hq : ¬ E (1000 + i) := fun z => hE ⟨z, by omega, by omega⟩
    rw [f3 _ (fun z => hq (by rw [z]; exact (h.2.1.1 a ha).1)) (fun z => hq (by rw [z]; exact (h.2.1.1 b hb).1))]
    exact rt i hi hq
/-- what is shown of a pair that is reduced -/
def RO (st : OSt) (r : Nat → Nat) (sn : NSt) (x : Nat) : Prop := ∃ r' st' sn', m_reduces (sR st r) (nI x) = some (sR st' r') ∧ FS st st' ∧ n_rewrite sn (nI x) = some (nI (ru r x), sn') ∧ NV r' ∧ NC r' sn' ∧ SN sn sn' ∧ PK r r' x
