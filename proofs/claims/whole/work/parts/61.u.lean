/-! the trees of numbers and lists are made -/
def EN (E : Nat → Prop) (r : Nat → Nat) (i : Nat) (tI oI : Int32) (t o : Nat) : Prop := (i = 0 ∧ tI = -1 ∧ oI = -1) ∨ (0 < i ∧ tI = nI t ∧ oI = nI o ∧ uN E r t ∧ uN E r o ∧ t % 3 = 0 ∧ o % 3 = 2)
theorem uN_lo {E : Nat → Prop} {r t : Nat → Nat} (h : ∀ p, xP t p ↔ xP r p) (p : Nat) : uN E t p ↔ uN E r p := by
  unfold uN
  rw [h]
theorem m_tA {a : Nat} (ha : a < 300) {r : Nat → Nat} {E : Nat → Prop} (hk : r (30 + a) = 0) {j : Nat} (hj : j < 3) : ¬ uN E r (3 * a + j) := fun z => by
  have := z.2.1
  unfold xP at this
  rw [show (3 * a + j) / 3 = a by omega, hk] at this
  omega
/-- a pairer at the end of what is open -/
theorem pr_step {E Q : Nat → Prop} {L ρ wl r : Nat → Nat} {sn : NSt} {st : OSt} {i t o : Nat} {tI oI : Int32} (h : BS E Q L ρ wl r sn) (hl : 1016 ≤ nl sn) (hr : r 1 < r 0) (he : EN E r i tI oI t o) :
    ∃ (a : Nat) (s1 s2 : NSt) (E2' Q2 : Nat → Prop) (L2 r2 : Nat → Nat), n_make sn (nI 1) = some (nI a, s1) ∧ n_tie s1 oI (nI (3 * a)) = some s2 ∧ m_makes (sR st r) (nI 1) = some (nI a, sR st r2) ∧ SN sn s2 ∧ BS E2' Q2 L2 ρ wl r2 s2 ∧ GW E L r E2' L2 r2 ∧ (a < 300 ∧ r2 1 = r 1 + 1 ∧ r (30 + a) = 0) ∧ (∀ p, 900 ≤ p → (E2' p ↔ E p)) ∧ (∀ p, uN E2' r2 p ↔ ((uN E r p ∧ (0 < i → p ≠ o)) ∨ p = 3 * a + 1 ∨ p = 3 * a + 2 ∨ (i = 0 ∧ p = 3 * a))) ∧
    ((i = 0 ∧ Q2 = Q) ∨ (0 < i ∧ Q2 = (fun p => Q p ∨ p = o ∨ p = 3 * a) ∧ E2' o ∧ L2 o = 3 * a ∧ o < 900)) := by
  have hn := mN_lt h.1.1 hr
  obtain ⟨s1, a1, a2, a3, a4, a5, a6, a7, a8⟩ := h.mk hr (k := 1) (by omega)
  have hm := m_makes_ok (st := st) h.1.1 hr (k := 1)
  generalize mN r = a at *
  have fr : ∀ j, j < 3 → ¬ uN E r (3 * a + j) := fun j hj => m_tA a5 hn.2.2 hj
  rcases he with ⟨rfl, rfl, rfl⟩ | ⟨hi, rfl, rfl, ut, uo, t3, o3⟩
  · refine ⟨a, s1, s1, E, Q, L, mK r 1, a1, n_tie_neg2, hm, a2, a3, a4, ⟨a5, a8.1, hn.2.2⟩, fun p _ => Iff.rfl, fun p => ?_, Or.inl ⟨rfl, rfl⟩⟩
    rw [a6 p]
    constructor
    · rintro (z | z)
      · exact Or.inl ⟨z, fun w => absurd w (by omega)⟩
      · right; omega
    · rintro (z | z)
      · exact Or.inl z.1
      · right; omega
  · have oo9 := uo.1
    have uo1 : uN E (mK r 1) o := (a6 o).mpr (Or.inl uo)
    have ua1 : uN E (mK r 1) (3 * a) := (a6 _).mpr (Or.inr ⟨by omega, by omega, Or.inl (by omega)⟩)
    have no : o ≠ 3 * a := by omega
    obtain ⟨s2, b1, b2, b3, b4, b5, b6⟩ := a3.early (a := o) (b := 3 * a) uo1.2.2 ua1.2.2 no (by rw [a2.1]; omega) (by rw [a2.1]; omega) (fun _ => uo1.2.1) (fun _ => ua1.2.1)
    refine ⟨a, s1, s2, _, _, _, mK r 1, a1, b2 (fun z => by have := z.1.2; omega), hm, a2.tr b3, b4, a4.tr b5, ⟨a5, a8.1, hn.2.2⟩, fun p hp => ?_, fun p => ?_, Or.inr ⟨hi, rfl, Or.inr (Or.inl rfl), lk2_a _ no, oo9⟩⟩
    · unfold E2
      exact ⟨fun z => z.elim id (fun z => by omega), Or.inl⟩
    · rw [b6, a6]
      constructor
      · rintro ⟨z | z, n1, n2⟩
        · exact Or.inl ⟨z, fun _ => n1⟩
        · right; omega
      · rintro (⟨z, w⟩ | z)
        · refine ⟨Or.inl z, w hi, fun e => ?_⟩
          rw [e] at z
          exact fr 0 (by omega) z
        · refine ⟨Or.inr (by omega), fun e => ?_, by omega⟩
          have u := uo
          rw [← e] at u
          rcases z with z | z | z
          · rw [z] at u; exact fr 1 (by omega) u
          · rw [z] at u; exact fr 2 (by omega) u
          · omega
theorem number_made {k : Nat} (hk : k < 1000) {ρ wl r0 : Nat → Nat} {st : OSt} : ∀ (fuel i : Nat) (E Q : Nat → Prop) (L r : Nat → Nat) (sn : NSt) (tI oI : Int32) (t o : Nat), i ≤ k → k - i < fuel → BS E Q L ρ wl r sn → 1016 ≤ nl sn → r 1 + 2 * (k - i) ≤ r 0 → EN E r i tI oI t o → (∀ m, m < 300 → 0 < r0 (30 + m) → 0 < r (30 + m)) → (0 < i → r0 (30 + t / 3) = 0 ∧ r0 (30 + o / 3) = 0) →
    ∃ (sn' : NSt) (E' : Nat → Prop) (L' r' : Nat → Nat) (tI' oI' : Int32) (t' o' : Nat), n_makeNumber_7 fuel sn (nI k) tI oI (nI i) = some (sn', tI', oI') ∧ m_makesNumber_7 fuel (sR st r) oI tI (nI (k - i)) = some (sR st r', oI', tI') ∧ SN sn sn' ∧ BS E' Q L' ρ wl r' sn' ∧ GW E L r E' L' r' ∧ EN E' r' k tI' oI' t' o' ∧ r' 1 = r 1 + 2 * (k - i) ∧ (∀ p, 900 ≤ p → (E' p ↔ E p)) ∧ (∀ p, uN E' r' p ↔ ((uN E r p ∧ (0 < i → p ≠ t ∧ p ≠ o)) ∨ (0 < k ∧ (p = t' ∨ p = o')))) ∧ (0 < k → r0 (30 + t' / 3) = 0 ∧ r0 (30 + o' / 3) = 0) := by
  intro fuel
  induction fuel with
  | zero => intro i E Q L r sn tI oI t o _ h; omega
  | succ f ih =>
    intro i E Q L r sn tI oI t o hi hf h hl hr he hg hfr
    rw [n_makeNumber_7, m_makesNumber_7]
    by_cases q : i = k
    · subst q
      rw [if_pos (nI_le (Nat.le_refl _) (by omega)), Nat.sub_self, if_pos (show nI 0 ≤ (0 : Int32) by decide)]
      refine ⟨sn, E, L, r, tI, oI, t, o, rfl, rfl, ⟨rfl, rfl, rfl⟩, h, GW.rf E L r, he, rfl, fun _ _ => Iff.rfl, fun p => ?_, hfr⟩
      rcases he with ⟨rfl, _, _⟩ | ⟨hi, _, _, ut, uo, _, _⟩
      · exact ⟨fun z => Or.inl ⟨z, fun w => absurd w (by omega)⟩, fun z => z.elim (fun z => z.1) (fun z => by omega)⟩
      · constructor
        · intro z
          by_cases w : p = t ∨ p = o
          · exact Or.inr ⟨hi, w⟩
          · exact Or.inl ⟨z, fun _ => ⟨fun e => w (Or.inl e), fun e => w (Or.inr e)⟩⟩
        · rintro (z | ⟨_, z | z⟩)
          · exact z.1
          · rw [z]; exact ut
          · rw [z]; exact uo
    · obtain ⟨a, s1, s2, E2', Q2, L2, r2, a1, a2, a3, a4, a5, a6, ⟨a7, a8, a80⟩, a9, a10, a12⟩ := pr_step (st := st) h hl (by omega) he
      have a11 : ∀ j, j < 3 → ¬ uN E r (3 * a + j) := fun j hj => m_tA a7 a80 hj
      have r20 : r2 0 = r 0 := a6.2.2 0 (Or.inl rfl)
      have hn2 := mN_lt a5.1.1 (show r2 1 < r2 0 by omega)
      obtain ⟨s3, b1, b2, b3, b4, b5, b6, b7, b8⟩ := a5.mk (by omega) (k := 0) (by omega)
      have hm0 := m_makes_ok (st := st) a5.1.1 (show r2 1 < r2 0 by omega) (k := 0)
      generalize mN r2 = e at *
      have n3 : nl s3 = nl sn := by rw [b2.1, a4.1]
      have ux : uN E2' (mK r2 0) (3 * a + 1) := (b6 _).mpr (Or.inl ((a10 _).mpr (Or.inr (Or.inl rfl))))
      have ue : uN E2' (mK r2 0) (3 * e) := (b6 _).mpr (Or.inr ⟨by omega, by omega, Or.inl (by omega)⟩)
      have nea : e ≠ a := fun z => by
        have := (b7 1 (by omega)).2
        rw [z] at this
        exact this ((a10 _).mpr (Or.inr (Or.inl rfl)))
      obtain ⟨s4, c1, c2, c3, c4, c5, c6⟩ := b3.ln (a := 3 * a + 1) (b := 3 * e) ux.2.2 ue.2.2 (by omega) (by omega) (by omega) (by omega) (by omega) (fun _ => ux.2.1) (fun _ => ue.2.1)
      have tie2 := c2 (fun z => by have := z.1.2; omega)
      have m_ln := m_links_ok (st := st) (r := mK r2 0) (a := 3 * a + 1) (b := 3 * e) (by omega) (by omega)
      -- what is open then
      have u4 : ∀ p, uN (E2 E2' (3 * a + 1) (3 * e)) (aL (mK r2 0) (3 * a + 1) (3 * e)) p ↔ ((uN E r p ∧ (0 < i → p ≠ o)) ∨ p = 3 * a + 2 ∨ (i = 0 ∧ p = 3 * a)) := by
        intro p
        rw [c6, b6, a10]
        constructor
        · rintro ⟨(z | z | z | z) | z, n1, n2⟩
          · exact Or.inl z
          · exact absurd z n1
          · exact Or.inr (Or.inl z)
          · exact Or.inr (Or.inr z)
          · exact absurd (show p = 3 * e by omega) n2
        · rintro (z | z | z)
          · refine ⟨Or.inl (Or.inl z), fun w => ?_, fun w => ?_⟩
            · have u := z.1
              rw [w] at u
              exact a11 1 (by omega) u
            · have := (b7 0 (by omega)).2
              rw [Nat.add_zero, ← w] at this
              exact this ((a10 p).mpr (Or.inl z))
          · exact ⟨Or.inl (Or.inr (Or.inr (Or.inl z))), by omega, by omega⟩
          · exact ⟨Or.inl (Or.inr (Or.inr (Or.inr z))), by omega, by omega⟩
      have r41 : aL (mK r2 0) (3 * a + 1) (3 * e) 1 = r 1 + 2 := by rw [aL_lo (by omega), b8.1, a8]
      have r40 : aL (mK r2 0) (3 * a + 1) (3 * e) 0 = r 0 := by rw [aL_lo (by omega), b8.2, r20]
      have n4 : nl s4 = nl sn := by rw [c3.1, n3]
      have e4 : ∀ p, 900 ≤ p → (E2 E2' (3 * a + 1) (3 * e) p ↔ E p) := fun p hp => by
        rw [← a9 p hp]
        exact ⟨fun z => z.elim id (fun z => by omega), Or.inl⟩
      have g4 := (a6.tr b4).tr c5
      have hg4 : ∀ m, m < 300 → 0 < r0 (30 + m) → 0 < aL (mK r2 0) (3 * a + 1) (3 * e) (30 + m) := fun m hm z => by
        have := hg m hm z
        rw [g4.2.1 m hm this]
        exact this
      have a0 : r0 (30 + a) = 0 := by
        refine Classical.byContradiction fun z => ?_
        have := hg a a7 (by omega)
        omega
      -- the class up to here
      have cls : ∀ K : Int32 → NSt → Option (NSt × Int32 × Int32), (bd (n_make sn 1) fun x6 => bd (n_tie x6.2 oI (3 * x6.1)) fun x7 => bd (n_make x7 0) fun x8 => bd (n_tie x8.2 ((3 * x6.1) + 1) (3 * x8.1)) fun x9 => K x6.1 x9) = K (nI a) s4 := by
        intro K
        rw [i1, a1, bd_s]
        simp only
        rw [i3, pk_mul, a2, bd_s, i0, b1, bd_s]
        simp only
        rw [nI_add, pk_mul, tie2, bd_s]
      rw [if_neg (nI_ge (by omega) (by omega)), if_neg (show ¬ nI (k - i) ≤ (0 : Int32) from nI_ge (a := 0) (by omega) (by omega))]
      rw [cls (fun v x9 => if nI i = 0 then n_makeNumber_7 f x9 (nI k) (3 * v) ((3 * v) + 2) (nI i + 1) else n_makeNumber_7 f x9 (nI k) tI ((3 * v) + 2) (nI i + 1))]
      rw [i1, a3, bd_s]
      simp only
      rw [i0, hm0, bd_s]
      simp only
      rw [i3, pk_mul, nI_add, pk_mul, nI_add, m_ln, bd_s, i2, nI_add]
      have dec : nI (k - i) + -nI 1 = nI (k - (i + 1)) := by
        rw [show k - i = (k - (i + 1)) + 1 by omega]
        exact pk_m1 _
      rw [dec]
      rcases a12 with ⟨hi0, hq⟩ | ⟨hi0, hq, oe, ol, o9⟩
      · have hI : oI = -1 ∧ tI = -1 := by
          rcases he with ⟨_, z1, z2⟩ | ⟨z, _⟩
          · exact ⟨z2, z1⟩
          · omega
        rw [hI.1, if_pos (show (-1 : Int32) = -nI 1 from rfl), if_pos (show nI i = nI 0 by rw [hi0])]
        rw [hq] at c4
        obtain ⟨sn', E', L', r', tI', oI', t', o', d1, d2, d3, d4, d5, d6, d7, d8, d9, d10⟩ := ih (i + 1) _ Q _ _ s4 (nI (3 * a)) (nI (3 * a + 2)) (3 * a) (3 * a + 2) (by omega) (by omega) c4 (by rw [n4]; exact hl) (by rw [r41, r40]; omega) (Or.inr ⟨by omega, rfl, rfl, (u4 _).mpr (Or.inr (Or.inr ⟨hi0, rfl⟩)), (u4 _).mpr (Or.inr (Or.inl rfl)), by omega, by omega⟩) hg4 (fun _ => ⟨by rw [show 3 * a / 3 = a by omega]; exact a0, by rw [show (3 * a + 2) / 3 = a by omega]; exact a0⟩)
        refine ⟨sn', E', L', r', tI', oI', t', o', d1, d2, (a4.tr b2).tr (c3.tr d3), d4, g4.tr d5, d6, by omega, fun p hp => (d8 p hp).trans (e4 p hp), fun p => ?_, d10⟩
        rw [d9, u4]
        constructor
        · rintro (⟨z | z | z, n1⟩ | z)
          · exact Or.inl ⟨z.1, fun w => absurd w (by omega)⟩
          · exact absurd z (n1 (by omega)).2
          · exact absurd z.2 (n1 (by omega)).1
          · exact Or.inr z
        · rintro (⟨z, n1⟩ | z)
          · refine Or.inl ⟨Or.inl ⟨z, fun w => absurd w (by omega)⟩, fun _ => ⟨fun w => ?_, fun w => ?_⟩⟩
            · rw [w] at z; exact a11 0 (by omega) z
            · rw [w] at z; exact a11 2 (by omega) z
          · exact Or.inr z
      · obtain ⟨hi1, rfl, rfl, ut, uo, t3, o3⟩ : 0 < i ∧ tI = nI t ∧ oI = nI o ∧ uN E r t ∧ uN E r o ∧ t % 3 = 0 ∧ o % 3 = 2 := by
          rcases he with ⟨z, _⟩ | z
          · omega
          · exact z
        have no3 : o ≠ 3 * a + 1 := by omega
        have noe : o ≠ 3 * e := by omega
        rw [hq] at c4
        obtain ⟨c7, c8⟩ := c4.late (Or.inl oe) ((lk2_o _ no3 noe).trans ol) (by omega) (by omega)
        have u5 : ∀ p, uN (E2 E2' (3 * a + 1) (3 * e)) (aL (aL (mK r2 0) (3 * a + 1) (3 * e)) o (3 * a)) p ↔ ((uN E r p ∧ p ≠ o) ∨ p = 3 * a + 2) := by
          intro p
          rw [uN_lo c8, u4]
          constructor
          · rintro (z | z | z)
            · exact Or.inl ⟨z.1, z.2 hi1⟩
            · exact Or.inr z
            · omega
          · rintro (z | z)
            · exact Or.inl ⟨z.1, fun _ => z.2⟩
            · exact Or.inr (Or.inl z)
        rw [if_neg (show ¬ nI o = -nI 1 from ne_m1 (by omega)), if_neg (show ¬ nI i = nI 0 by rw [nI_eq (by omega) (by omega)]; omega), m_links_ok (by omega) (by omega), bd_s]
        have g5 : GW E L r (E2 E2' (3 * a + 1) (3 * e)) (lk2 L2 (3 * a + 1) (3 * e)) (aL (aL (mK r2 0) (3 * a + 1) (3 * e)) o (3 * a)) := ⟨g4.1, fun m hm z => by rw [aL_lo (by omega)]; exact g4.2.1 m hm z, fun j hj => by rw [aL_lo (by omega)]; exact g4.2.2 j hj⟩
        have r51 : aL (aL (mK r2 0) (3 * a + 1) (3 * e)) o (3 * a) 1 = r 1 + 2 := by rw [aL_lo (by omega), r41]
        have r50 : aL (aL (mK r2 0) (3 * a + 1) (3 * e)) o (3 * a) 0 = r 0 := by rw [aL_lo (by omega), r40]
        obtain ⟨sn', E', L', r', tI', oI', t', o', d1, d2, d3, d4, d5, d6, d7, d8, d9, d10⟩ := ih (i + 1) _ Q _ _ s4 (nI t) (nI (3 * a + 2)) t (3 * a + 2) (by omega) (by omega) c7 (by rw [n4]; exact hl) (by rw [r51, r50]; omega) (Or.inr ⟨by omega, rfl, rfl, (u5 _).mpr (Or.inl ⟨ut, by omega⟩), (u5 _).mpr (Or.inr rfl), t3, by omega⟩) (fun m hm z => by rw [aL_lo (by omega)]; exact hg4 m hm z) (fun _ => ⟨(hfr hi1).1, by rw [show (3 * a + 2) / 3 = a by omega]; exact a0⟩)
        refine ⟨sn', E', L', r', tI', oI', t', o', d1, d2, (a4.tr b2).tr (c3.tr d3), d4, g5.tr d5, d6, by omega, fun p hp => (d8 p hp).trans (e4 p hp), fun p => ?_, d10⟩
        rw [d9, u5]
        constructor
        · rintro (⟨z | z, n1⟩ | z)
          · exact Or.inl ⟨z.1, fun _ => ⟨(n1 (by omega)).1, z.2⟩⟩
          · exact absurd z (n1 (by omega)).2
          · exact Or.inr z
        · rintro (⟨z, n1⟩ | z)
          · refine Or.inl ⟨Or.inl ⟨z, (n1 hi1).2⟩, fun _ => ⟨(n1 hi1).1, fun w => ?_⟩⟩
            rw [w] at z; exact a11 2 (by omega) z
          · exact Or.inr z
/-- the tree of a number -/
theorem makeNumber_ok {k : Nat} (hk : k < 1000) {ρ wl : Nat → Nat} {st : OSt} {E Q : Nat → Prop} {L r : Nat → Nat} {sn : NSt} (h : BS E Q L ρ wl r sn) (hl : 1016 ≤ nl sn) (hr : r 1 + (2 * k + 1) ≤ r 0) :
    ∃ (x : Nat) (sn' : NSt) (E' : Nat → Prop) (L' r' : Nat → Nat), n_makeNumber sn (nI k) = some (nI x, sn') ∧ m_makesNumber (sR st r) (nI k) = some (nI x, sR st r') ∧ SN sn sn' ∧ BS E' Q L' ρ wl r' sn' ∧ GW E L r E' L' r' ∧ r' 1 = r 1 + (2 * k + 1) ∧ (∀ p, 900 ≤ p → (E' p ↔ E p)) ∧ (∀ p, uN E' r' p ↔ (uN E r p ∨ p = x)) ∧ (x < 900 ∧ x % 3 = 0 ∧ r (30 + x / 3) = 0) := by
  obtain ⟨s1, E1, L1, r1, tI, oI, t, o, d1, d2, d3, d4, d5, d6, d7, d8, d9, d10⟩ := number_made (k := k) (r0 := r) (st := st) hk 20000 0 E Q L r sn (-1) (-1) 0 0 (by omega) (by omega) h hl (by omega) (Or.inl ⟨rfl, rfl, rfl⟩) (fun _ _ z => z) (fun z => absurd z (by omega))
  have r10 : r1 0 = r 0 := d5.2.2 0 (Or.inl rfl)
  have hn := mN_lt d4.1.1 (show r1 1 < r1 0 by omega)
  obtain ⟨s2, b1, b2, b3, b4, b5, b6, b7, b8⟩ := d4.mk (by omega) (k := 0) (by omega)
  have hm0 := m_makes_ok (st := st) d4.1.1 (show r1 1 < r1 0 by omega) (k := 0)
  generalize mN r1 = e at *
  have e0 : r (30 + e) = 0 := by
    refine Classical.byContradiction fun z => ?_
    have := d5.2.1 e hn.1 (by omega)
    omega
  have hu0 : ∀ p, uN E r p → r (30 + p / 3) ≠ 0 := fun p hp z => by
    have h9 := hp.1
    have := hp.2.1
    unfold xP at this
    rw [z] at this
    omega
  unfold n_makeNumber m_makesNumber
  rw [i0, d1, bd_s, Nat.sub_zero] at *
  rw [d2, bd_s]
  simp only
  rw [b1, bd_s, hm0, bd_s]
  simp only
  rcases Nat.eq_zero_or_pos k with k0 | k0
  · have hI : oI = -1 := by
      rcases d6 with ⟨_, _, z⟩ | ⟨z, _⟩
      · exact z
      · omega
    rw [hI, show n_tie s2 (-1) (3 * nI e) = some s2 from n_tie_neg2, bd_s, if_pos (show nI k ≤ nI 0 from nI_le (by omega) (by omega)), if_pos rfl, i3, pk_mul]
    refine ⟨3 * e, s2, E1, L1, mK r1 0, rfl, rfl, d3.tr b2, b3, d5.tr b4, by omega, d8, fun p => ?_, by omega, by omega, by rw [show 3 * e / 3 = e by omega]; exact e0⟩
    rw [b6, d9]
    constructor
    · rintro ((z | z) | z)
      · exact Or.inl z.1
      · omega
      · right; omega
    · rintro (z | z)
      · exact Or.inl (Or.inl ⟨z, fun w => absurd w (by omega)⟩)
      · right; omega
  · obtain ⟨_, rfl, rfl, ut, uo, t3, o3⟩ : 0 < k ∧ tI = nI t ∧ oI = nI o ∧ uN E1 r1 t ∧ uN E1 r1 o ∧ t % 3 = 0 ∧ o % 3 = 2 := by
      rcases d6 with ⟨z, _⟩ | z
      · omega
      · exact z
    have o9 := uo.1
    have t9 := ut.1
    have uo2 : uN E1 (mK r1 0) o := (b6 o).mpr (Or.inl uo)
    have ue2 : uN E1 (mK r1 0) (3 * e) := (b6 _).mpr (Or.inr ⟨by omega, by omega, Or.inl (by omega)⟩)
    have n2 : nl s2 = nl sn := by rw [b2.1, d3.1]
    obtain ⟨s3, c1, c2, c3, c4, c5, c6⟩ := b3.ln (a := o) (b := 3 * e) uo2.2.2 ue2.2.2 (by omega) (by omega) (by omega) (by omega) (by omega) (fun _ => uo2.2.1) (fun _ => ue2.2.1)
    rw [i3, pk_mul, c2 (fun z => by have := z.1.2; omega), bd_s, if_neg (show ¬ nI k ≤ nI 0 from nI_ge (by omega) (by omega)), if_neg (ne_m1 (by omega)), m_links_ok (by omega) (by omega), bd_s]
    refine ⟨t, s3, _, _, _, rfl, rfl, d3.tr (b2.tr c3), c4, (d5.tr b4).tr c5, by rw [aL_lo (by omega)]; omega, fun p hp => ?_, fun p => ?_, t9, t3, (d10 k0).1⟩
    · rw [← d8 p hp]
      exact ⟨fun z => z.elim id (fun z => by omega), Or.inl⟩
    · rw [c6, b6, d9]
      constructor
      · rintro ⟨(z | z) | z, n1, n3⟩
        · exact Or.inl z.1
        · rcases z.2 with w | w
          · exact Or.inr w
          · exact absurd w n1
        · exact absurd (show p = 3 * e by omega) n3
      · rintro (z | z)
        · refine ⟨Or.inl (Or.inl ⟨z, fun w => absurd w (by omega)⟩), fun w => ?_, fun w => ?_⟩
          · rw [w] at z; exact hu0 o z (d10 k0).2
          · rw [w] at z; exact hu0 _ z (by rw [show 3 * e / 3 = e by omega]; exact e0)
        · refine ⟨Or.inl (Or.inr ⟨k0, Or.inl z⟩), by omega, fun w => ?_⟩
          have := b7 0 (by omega)
          rw [Nat.add_zero, ← w, z] at this
          exact this.2 ut
