/-! by hand: a number put on, a root split, doubled, dropped, two joined -/
def ρ0 (p : Nat) : Nat := if p < 1016 then p else p + 84
def Q0 : Nat → Prop := fun _ => False
theorem quies {r wl : Nat → Nat} {sn : NSt} (hv : NV r) (h : NC r sn) : BS (xP r) Q0 (lk r) ρ0 wl r sn := by
  refine ⟨⟨hv.1, h.1, h.2.1, h.2.2.2⟩, fun p hp _ => hp, fun p hp _ => ?_, fun p hp => if_pos hp, fun p hp => ?_, fun p q e => ?_⟩
  · have a := xP_lt hp
    have b := hv.lk3 hp
    unfold rk ρ0
    rw [if_pos a, if_pos (by omega), if_pos b]
  · unfold ρ0
    rw [if_neg (by omega)]
    omega
  · unfold ρ0 at e
    split at e <;> split at e <;> omega
theorem quies_u {r : Nat → Nat} (p : Nat) : ¬ uN (xP r) r p := fun z => z.2.2 z.2.1
theorem upd_up (r : Nat → Nat) (j v : Nat) : upd (nR r) j (nI v) = nR (ur r j v) := upd_nR r j v
/-- a place is put where a root was -/
theorem endRoot_ok {E : Nat → Prop} {L r : Nat → Nat} {sn : NSt} {st : OSt} {a x : Nat} (n : CN E L (Kr r) sn) (c : CM r sn) (t : RT E sn) (hl : 1016 ≤ nl sn) (ha : a < 16) (hE : E (1000 + a)) (hx : ¬ E x) (x9 : x < 900) (kx : 0 < Kr r (x / 3)) (hL : lk r (1000 + a) = L (1000 + a)) (hlt : L (1000 + a) < 1016) :
    ∃ sn', n_endRoot sn (nI a) (nI x) = some sn' ∧ m_replaces (sR st r) (nI a) (nI x) = some (sR st (aL (ur r (14 + a) 0) x (L (1000 + a)))) ∧ CM r sn' ∧ CN (Er E (1000 + a) x) (rl L (1000 + a) x) (Kr r) sn' ∧ RT (Er E (1000 + a) x) sn' ∧ SN sn sn' := by
  have hn := n.1
  obtain ⟨g1, g2, g3⟩ := n.2.1.1 _ hE
  have f0 := (n.2.1.2.1 _ hE).2
  obtain ⟨s1, e1, ⟨e2, e3⟩, e4⟩ := n_move_ok n hE (fun z => by have := z.1; omega) hx (by omega) (fun _ => kx)
  have hr : n_hasRoot sn (nI a) = some 1 := by
    unfold n_hasRoot
    rw [if_neg (nI_pos (by omega)), if_neg (show ¬ (16 : Int32) ≤ nI a from nI_ge (b := 16) ha (by omega)), i1000, nI_add, gd_nI (by omega) (by omega), nc (by omega), f0, if_neg (ne_m1 (by omega))]
  refine ⟨nsA s1 1 (upd (na s1 1) (1000 + a) mI), ?_, ?_, ?_, ?_, ?_, ?_⟩
  · unfold n_endRoot
    rw [hr, bd_s, if_neg (by decide), i1000, nI_add, e1, bd_s, gd_nI (by rw [e2.gl]; omega) (by rw [e2.gl]; omega), nm_eq, nc (by omega)]
    rfl
  · unfold m_replaces
    rw [i1000, nI_add, m_linkOf_ok (by omega), bd_s, i14, nI_add, gd_nI (by omega) (by omega), nm_eq, nc (by omega), sR_2, i0, upd_nR, sR_A1]
    rw [show r (630 + (1000 + a)) = L (1000 + a) from hL, m_links_ok (by omega) hlt, bd_s]
  · exact (c.sl e2).sl (SL.A _ _)
  · refine ⟨by show nl s1 ≤ 1300; rw [e2.gl]; exact hn, ?_, e4.2.2⟩
    obtain ⟨m1, m2, m3, m4⟩ := e4.2.1
    refine ⟨m1, fun p hp => ?_, m3, m4⟩
    refine ⟨(m2 p hp).1, ?_⟩
    show upd (na s1 1) (1000 + a) mI p = _
    rw [upd_at, if_neg]
    · exact (m2 p hp).2
    · intro z
      rcases hp with w | w
      · exact w.2 z
      · omega
  · intro i hi hN
    show upd (na s1 1) (1000 + a) mI (1000 + i) = mI
    rw [upd_at]
    by_cases z : i = a
    · rw [if_pos (by omega)]
    · rw [if_neg (by omega)]
      have hq : ¬ E (1000 + i) := fun w => hN (Or.inl ⟨w, by omega⟩)
      rw [e3 _ (fun w => hq (by rw [w]; exact g1)) (by omega)]
      exact t i hi hq
  · exact e2.sn
/-- what is left is a net again -/
theorem quies_fin {t : Nat → Nat} {sn : NSt} {E : Nat → Prop} {L K : Nat → Nat} (hw : WM t) (hr : WR t) (c : CM t sn) (n : CN E L K sn) (hK : ∀ m, m < 300 → Kr t m = K m) (rt : RT E sn) (hn : 1016 ≤ nl sn) (hE : ∀ p, xP t p ↔ E p) (hL : ∀ p, E p → lk t p = L p) : NV t ∧ NC t sn := by
  refine NC_fin hw hr c ⟨n.1, n.2.1.cong (fun _ => Iff.rfl) (fun _ _ => rfl) (fun p _ h9 => hK _ (by omega)), fun m hm => ?_⟩ rt hn hE hL
  rw [hK m hm]
  exact n.2.2 m hm
/-- a tree's head is linked to what a root is linked to; the root is gone -/
theorem onRoot_ok {E : Nat → Prop} {L wl r : Nat → Nat} {sn : NSt} {st : OSt} {a x : Nat} (b : BS E Q0 L ρ0 wl r sn) (hr : WR r) (hl : 1016 ≤ nl sn) (ha : a < 16) (h1 : r (14 + a) = 1) (hE9 : ∀ p, 900 ≤ p → (E p ↔ xP r p)) (hu : ∀ p, uN E r p ↔ p = x) (x3 : x % 3 = 0) :
    ∃ sn' r', n_endRoot sn (nI a) (nI x) = some sn' ∧ m_replaces (sR st r) (nI a) (nI x) = some (sR st r') ∧ NV r' ∧ NC r' sn' ∧ SN sn sn' ∧ r' 1 = r 1 ∧ r' 6 = r 6 ∧ (∀ i, i < 16 → i ≠ a → r' (14 + i) = r (14 + i)) := by
  obtain ⟨⟨w, c, n, t⟩, e1, e2, e3, e4, e5⟩ := b
  have ux := (hu x).mpr rfl
  have x9 := ux.1
  have xE : ∀ p, E p → xP r p := fun p hp => by
    by_cases h9 : p < 900
    · exact e1 p hp h9
    · exact (hE9 p (by omega)).mp hp
  have ra : E (1000 + a) := (hE9 _ (by omega)).mpr (root_xP ha h1)
  have hLk : ∀ p, E p → lk r p = L p := fun p hp => by
    have q1 := xP_lt (xE p hp)
    have q2 := xP_lt (xE _ (n.2.1.1 p hp).1)
    have := e2 p hp (fun z => z)
    rw [e3 p q1, e3 _ q2] at this
    unfold rk at this
    rw [if_pos (by omega)] at this
    exact this
  have lt := xP_lt (xE _ (n.2.1.1 _ ra).1)
  have kx : 0 < Kr r (x / 3) := by rcases ux.2.1 with z | z; exact z.2.1; omega
  obtain ⟨sn', f1, f2, f3, f4, f5, f6⟩ := endRoot_ok (st := st) n c t hl ha ra ux.2.2 x9 kx (hLk _ ra) lt
  have lo : ∀ j, j < 630 → j ≠ 14 + a → aL (ur r (14 + a) 0) x (L (1000 + a)) j = r j := fun j h1 h2 => by rw [aL_lo h1, ur_n h2]
  have lo14 : aL (ur r (14 + a) 0) x (L (1000 + a)) (14 + a) = 0 := by rw [aL_lo (by omega), ur_s]
  have w5 : r 5 ≤ 300 := by obtain ⟨⟨z0, z1, z2⟩, _⟩ := w; omega
  have xr : ∀ p, xP (aL (ur r (14 + a) 0) x (L (1000 + a))) p ↔ (xP r p ∧ p ≠ 1000 + a) := by
    intro p
    unfold xP
    by_cases h9 : p < 900
    · rw [lo _ (by omega) (by omega)]
      constructor
      · rintro (z | z)
        · exact ⟨Or.inl z, by omega⟩
        · omega
      · rintro ⟨z | z, _⟩
        · exact Or.inl z
        · omega
    · by_cases q : p = 1000 + a
      · rw [q, show 1000 + a - 1000 = a by omega, lo14]
        omega
      · constructor
        · rintro (z | ⟨z1, z2, z3⟩)
          · omega
          · rw [lo _ (by omega) (by omega)] at z3
            exact ⟨Or.inr ⟨z1, z2, z3⟩, q⟩
        · rintro ⟨z | ⟨z1, z2, z3⟩, _⟩
          · omega
          · rw [← lo (14 + (p - 1000)) (by omega) (by omega)] at z3
            exact Or.inr ⟨z1, z2, z3⟩
  have hE : ∀ p, xP (aL (ur r (14 + a) 0) x (L (1000 + a))) p ↔ Er E (1000 + a) x p := by
    intro p
    rw [xr]
    unfold Er
    constructor
    · rintro ⟨z1, z2⟩
      by_cases h9 : p < 900
      · by_cases q : p = x
        · exact Or.inr q
        · refine Or.inl ⟨?_, z2⟩
          refine Classical.byContradiction fun z => q ((hu p).mp ⟨h9, z1, z⟩)
      · exact Or.inl ⟨(hE9 p (by omega)).mpr z1, z2⟩
    · rintro (⟨z1, z2⟩ | z)
      · exact ⟨xE p z1, z2⟩
      · rw [z]; exact ⟨ux.2.1, by omega⟩
  have hL : ∀ p, Er E (1000 + a) x p → lk (aL (ur r (14 + a) 0) x (L (1000 + a))) p = rl L (1000 + a) x p := by
    intro p hp
    rw [lk_aL, lk_ur (by omega)]
    unfold rl
    have ne : x ≠ L (1000 + a) := fun z => ux.2.2 (by rw [z]; exact (n.2.1.1 _ ra).1)
    rw [lk2_sym _ ne]
    by_cases q : p = x
    · rw [q, lk2_b, lk2_b]
    · by_cases z : p = L (1000 + a)
      · rw [z, lk2_a _ (Ne.symm ne), lk2_a _ (Ne.symm ne)]
      · rw [lk2_o _ z q, lk2_o _ z q]
        rcases hp with y | y
        · exact hLk p y.1
        · exact absurd y q
  have wt : WM (aL (ur r (14 + a) 0) x (L (1000 + a))) := WM_lo (fun j hj => aL_lo hj) (WM_ur (by omega) (by omega) w)
  have cm : CM (aL (ur r (14 + a) 0) x (L (1000 + a))) sn' := by
    obtain ⟨⟨c6, c7, c8, c9⟩, ⟨c11, c10, c12, c13⟩, c3, c0, c2⟩ := f3
    refine ⟨⟨by rw [lo 0 (by omega) (by omega)]; exact c6, by rw [lo 1 (by omega) (by omega)]; exact c7, by rw [lo 2 (by omega) (by omega)]; exact c8, by rw [lo 3 (by omega) (by omega)]; exact c9⟩, ⟨by rw [lo 4 (by omega) (by omega)]; exact c11, by rw [lo 5 (by omega) (by omega)]; exact c10, by rw [lo 6 (by omega) (by omega)]; exact c12, by rw [lo 7 (by omega) (by omega)]; exact c13⟩, ?_, ?_, ?_⟩
    · intro k hk; rw [lo _ (by omega) (by omega)]; exact c3 k hk
    · intro m hm; rw [lo _ (by omega) (by omega)]; exact c0 m hm
    · intro k hk
      rw [lo 5 (by omega) (by omega)] at hk
      rw [lo _ (by omega) (by omega)]
      exact c2 k hk
  have wr : WR (aL (ur r (14 + a) 0) x (L (1000 + a))) := by
    refine ⟨by rw [lo 6 (by omega) (by omega)]; exact hr.1, fun i hi => ?_⟩
    rw [lo 6 (by omega) (by omega)]
    by_cases q : i = a
    · rw [q, lo14]; omega
    · rw [lo _ (by omega) (by omega)]; exact hr.2 i hi
  have fin := quies_fin wt wr cm f4 (fun m hm => lo _ (by omega) (by omega)) f5 (by rw [f6.1]; exact hl) hE hL
  exact ⟨sn', _, f1, f2, fin.1, fin.2, f6, lo 1 (by omega) (by omega), lo 6 (by omega) (by omega), fun i hi hne => lo _ (by omega) (by omega)⟩
theorem put_core {r : Nat → Nat} {sn : NSt} {st : OSt} (hv : NV r) (h : NC r sn) {a k : Nat} (ha : a < 16) (h1 : r (14 + a) = 1) (hk : k ≤ 20) (hr : r 1 + (2 * k + 1) ≤ r 0) :
    ∃ x s1 r1 sn' r', n_makeNumber sn (nI k) = some (nI x, s1) ∧ n_endRoot s1 (nI a) (nI x) = some sn' ∧ m_makesNumber (sR st r) (nI k) = some (nI x, sR st r1) ∧ m_replaces (sR st r1) (nI a) (nI x) = some (sR st r') ∧ NV r' ∧ NC r' sn' ∧ SN sn sn' := by
  obtain ⟨x, s1, E', L', r1, a1, a2, a3, a4, a5, a6, a7, a8, a9⟩ := makeNumber_ok (k := k) (by omega) (st := st) (quies (wl := fun _ => 0) hv h) h.2.2.1 hr
  have x9 : ∀ p, 900 ≤ p → (xP r1 p ↔ xP r p) := fun p hp => by
    unfold xP
    constructor
    · rintro (z | ⟨z1, z2, z3⟩)
      · omega
      · rw [a5.2.2 _ (Or.inr ⟨by omega, by omega⟩)] at z3
        exact Or.inr ⟨z1, z2, z3⟩
    · rintro (z | ⟨z1, z2, z3⟩)
      · omega
      · rw [← a5.2.2 (14 + (p - 1000)) (Or.inr ⟨by omega, by omega⟩)] at z3
        exact Or.inr ⟨z1, z2, z3⟩
  obtain ⟨sn', r', b1, b2, b3, b4, b5, _⟩ := onRoot_ok (st := st) a4 (WR_lo (fun j hj => a5.2.2 j (Or.inr (by omega))) hv.2.1) (by rw [a3.1]; exact h.2.2.1) ha (by rw [a5.2.2 _ (Or.inr ⟨by omega, by omega⟩)]; exact h1) (fun p hp => (a7 p hp).trans (x9 p hp).symm) (fun p => (a8 p).trans ⟨fun z => z.elim (fun w => absurd w (quies_u p)) id, Or.inr⟩) a9.2.1
  exact ⟨x, s1, r1, sn', r', a1, b1, a2, b2, b3, b4, a3.tr b5⟩
theorem drop_core {r : Nat → Nat} {sn : NSt} {st : OSt} (hv : NV r) (h : NC r sn) {a : Nat} (ha : a < 16) (h1 : r (14 + a) = 1) (hr : r 1 + 1 ≤ r 0) :
    ∃ x s1 r1 sn' r', n_make sn (nI 0) = some (nI x, s1) ∧ n_endRoot s1 (nI a) (nI (3 * x)) = some sn' ∧ m_makes (sR st r) (nI 0) = some (nI x, sR st r1) ∧ m_replaces (sR st r1) (nI a) (nI (3 * x)) = some (sR st r') ∧ NV r' ∧ NC r' sn' ∧ SN sn sn' := by
  obtain ⟨s1, a1, a2, a3, a4, a5, a6, a7, a8⟩ := (quies (wl := fun _ => 0) hv h).mk (by omega) (k := 0) (by omega)
  have hm := m_makes_ok (st := st) hv.1 (show r 1 < r 0 by omega) (k := 0)
  have x9 : ∀ p, 900 ≤ p → (xP (mK r 0) p ↔ xP r p) := fun p hp => by
    unfold xP
    constructor
    · rintro (z | ⟨z1, z2, z3⟩)
      · omega
      · rw [a4.2.2 _ (Or.inr ⟨by omega, by omega⟩)] at z3
        exact Or.inr ⟨z1, z2, z3⟩
    · rintro (z | ⟨z1, z2, z3⟩)
      · omega
      · rw [← a4.2.2 (14 + (p - 1000)) (Or.inr ⟨by omega, by omega⟩)] at z3
        exact Or.inr ⟨z1, z2, z3⟩
  obtain ⟨sn', r', b1, b2, b3, b4, b5, _⟩ := onRoot_ok (st := st) (x := 3 * mN r) a3 (WR_lo (fun j hj => a4.2.2 j (Or.inr (by omega))) hv.2.1) (by rw [a2.1]; exact h.2.2.1) ha (by rw [a4.2.2 _ (Or.inr ⟨by omega, by omega⟩)]; exact h1) (fun p hp => (x9 p hp).symm) (fun p => (a6 p).trans ⟨fun z => z.elim (fun w => absurd w (quies_u p)) (fun w => by omega), fun z => Or.inr (by omega)⟩) (by omega)
  exact ⟨mN r, s1, mK r 0, sn', r', a1, b1, hm, b2, b3, b4, a2.tr b5⟩
