/-! the tree of a list is made -/
def zS (d : Nat → Nat) : Nat → Nat
  | 0 => 0
  | n + 1 => zS d n + (2 * d n + 2)
theorem zS_mono (d : Nat → Nat) {i c : Nat} (h : i ≤ c) : zS d i ≤ zS d c := by
  induction c with
  | zero => rw [show i = 0 by omega]; exact Nat.le_refl _
  | succ c ih =>
    by_cases q : i = c + 1
    · rw [q]; exact Nat.le_refl _
    · have := ih (by omega)
      show zS d i ≤ zS d c + (2 * d c + 2)
      omega
theorem list_made {c : Nat} (hc : c ≤ 10) {d : Nat → Nat} (hd : ∀ i, i < c → d i ≤ 9) {sa : Nat → Int32} (hsa : ∀ i, i < c → sa i = nI (d i)) {ρ wl r0 : Nat → Nat} {st : OSt} (hst : ∀ i, i < c → st.2 17 i = nI (d i)) : ∀ (fuel i : Nat) (E Q : Nat → Prop) (L r : Nat → Nat) (sn : NSt) (tI oI : Int32) (t o : Nat), i ≤ c → c - i < fuel → BS E Q L ρ wl r sn → 1016 ≤ nl sn → r 1 + (zS d c - zS d i) ≤ r 0 → EN E r i tI oI t o → (∀ m, m < 300 → 0 < r0 (30 + m) → 0 < r (30 + m)) → (0 < i → r0 (30 + t / 3) = 0 ∧ r0 (30 + o / 3) = 0) →
    ∃ (sn' : NSt) (E' : Nat → Prop) (L' r' : Nat → Nat) (tI' oI' : Int32) (t' o' : Nat), n_makeList_8 fuel sn 10 sa (nI c) tI oI (nI i) = some (sn', tI', oI') ∧ m_list_118 fuel (sR st r) (nI c) oI tI (nI i) = some (sR st r', oI', tI') ∧ SN sn sn' ∧ BS E' Q L' ρ wl r' sn' ∧ GW E L r E' L' r' ∧ EN E' r' c tI' oI' t' o' ∧ r' 1 = r 1 + (zS d c - zS d i) ∧ (∀ p, 900 ≤ p → (E' p ↔ E p)) ∧ (∀ p, uN E' r' p ↔ ((uN E r p ∧ (0 < i → p ≠ t ∧ p ≠ o)) ∨ (0 < c ∧ (p = t' ∨ p = o')))) ∧ (0 < c → r0 (30 + t' / 3) = 0 ∧ r0 (30 + o' / 3) = 0) := by
  intro fuel
  induction fuel with
  | zero => intro i E Q L r sn tI oI t o _ h; omega
  | succ f ih =>
    intro i E Q L r sn tI oI t o hi hf h hl hr he hg hfr
    rw [n_makeList_8, m_list_118]
    by_cases q : i = c
    · subst q
      rw [if_pos (nI_le (Nat.le_refl _) (by omega)), if_pos (nI_le (Nat.le_refl _) (by omega))]
      refine ⟨sn, E, L, r, tI, oI, t, o, rfl, rfl, ⟨rfl, rfl, rfl⟩, h, GW.rf E L r, he, by omega, fun _ _ => Iff.rfl, fun p => ?_, hfr⟩
      rcases he with ⟨rfl, _, _⟩ | ⟨hi, _, _, ut, uo, _, _⟩
      · exact ⟨fun z => Or.inl ⟨z, fun w => absurd w (by omega)⟩, fun z => z.elim (fun z => z.1) (fun z => by omega)⟩
      · constructor
        · intro z
          by_cases w : p = t ∨ p = o
          · exact Or.inr ⟨hi, w⟩
          · exact Or.inl ⟨z, fun _ => ⟨fun e => w (Or.inl e), fun e => w (Or.inr e)⟩⟩
        · rintro (z | ⟨_, z | z⟩)
          · exact z.1
          · rw [z]; exact ut
          · rw [z]; exact uo
    · have m1 := zS_mono d (show i + 1 ≤ c by omega)
      have e1 : zS d (i + 1) = zS d i + (2 * d i + 2) := rfl
      have hdi := hd i (by omega)
      obtain ⟨a, s1, s2, E2', Q2, L2, r2, a1, a2, a3, a4, a5, a6, ⟨a7, a8, a80⟩, a9, a10, a12⟩ := pr_step (st := st) h hl (by omega) he
      have a11 : ∀ j, j < 3 → ¬ uN E r (3 * a + j) := fun j hj => m_tA a7 a80 hj
      have r20 : r2 0 = r 0 := a6.2.2 0 (Or.inl rfl)
      obtain ⟨e, s3, E3, L3, r3, b1, b2, b3, b4, b5, b6, b7, b8, b9, b10, b11⟩ := makeNumber_ok (k := d i) (by omega) (st := st) a5 (by rw [a4.1]; exact hl) (by omega)
      have n3 : nl s3 = nl sn := by rw [b3.1, a4.1]
      have r30 : r3 0 = r 0 := by rw [b5.2.2 0 (Or.inl rfl), r20]
      have ux2 : uN E2' r2 (3 * a + 1) := (a10 _).mpr (Or.inr (Or.inl rfl))
      have hu2 : ∀ p, uN E2' r2 p → r2 (30 + p / 3) ≠ 0 := fun p hp z => by
        have h9 := hp.1
        have := hp.2.1
        unfold xP at this
        rw [z] at this
        omega
      have ux : uN E3 r3 (3 * a + 1) := (b8 _).mpr (Or.inl ux2)
      have ue : uN E3 r3 e := (b8 _).mpr (Or.inr rfl)
      have ne2 : ∀ p, uN E2' r2 p → p ≠ e := fun p hp z => by rw [z] at hp; exact hu2 e hp b11
      obtain ⟨s4, c1, c2, c3, c4, c5, c6⟩ := b4.ln (a := 3 * a + 1) (b := e) ux.2.2 ue.2.2 (ne2 _ ux2) (by omega) (by omega) (by omega) (by omega) (fun _ => ux.2.1) (fun _ => ue.2.1)
      have tie2 := c2 (fun z => by have := z.1.2; omega)
      have m_ln := m_links_ok (st := st) (r := r3) (a := 3 * a + 1) (b := e) (by omega) (by omega)
      have u4 : ∀ p, uN (E2 E3 (3 * a + 1) e) (aL r3 (3 * a + 1) e) p ↔ ((uN E r p ∧ (0 < i → p ≠ o)) ∨ p = 3 * a + 2 ∨ (i = 0 ∧ p = 3 * a)) := by
        intro p
        rw [c6, b8, a10]
        constructor
        · rintro ⟨(z | z | z | z) | z, n1, n2⟩
          · exact Or.inl z
          · exact absurd z n1
          · exact Or.inr (Or.inl z)
          · exact Or.inr (Or.inr z)
          · exact absurd z n2
        · rintro (z | z | z)
          · refine ⟨Or.inl (Or.inl z), fun w => ?_, ne2 p ((a10 p).mpr (Or.inl z))⟩
            have u := z.1
            rw [w] at u
            exact a11 1 (by omega) u
          · exact ⟨Or.inl (Or.inr (Or.inr (Or.inl z))), by omega, ne2 p ((a10 p).mpr (Or.inr (Or.inr (Or.inl z))))⟩
          · exact ⟨Or.inl (Or.inr (Or.inr (Or.inr z))), by omega, ne2 p ((a10 p).mpr (Or.inr (Or.inr (Or.inr z))))⟩
      have r41 : aL r3 (3 * a + 1) e 1 = r 1 + (2 * d i + 2) := by rw [aL_lo (by omega), b6, a8]; omega
      have r40 : aL r3 (3 * a + 1) e 0 = r 0 := by rw [aL_lo (by omega), r30]
      have n4 : nl s4 = nl sn := by rw [c3.1, n3]
      have e4 : ∀ p, 900 ≤ p → (E2 E3 (3 * a + 1) e p ↔ E p) := fun p hp => by
        rw [← a9 p hp, ← b7 p hp]
        exact ⟨fun z => z.elim id (fun z => by omega), Or.inl⟩
      have g4 := (a6.tr b5).tr c5
      have hg4 : ∀ m, m < 300 → 0 < r0 (30 + m) → 0 < aL r3 (3 * a + 1) e (30 + m) := fun m hm z => by
        have := hg m hm z
        rw [g4.2.1 m hm this]
        exact this
      have a0 : r0 (30 + a) = 0 := by
        refine Classical.byContradiction fun z => ?_
        have := hg a a7 (by omega)
        omega
      have cls : ∀ K : Int32 → NSt → Option (NSt × Int32 × Int32), (bd (n_make sn 1) fun x4 => bd (n_tie x4.2 oI (3 * x4.1)) fun x5 => gd (nI i) 10 (bd (n_makeNumber x5 (sa (nI i).toNatClampNeg)) fun x6 => bd (n_tie x6.2 ((3 * x4.1) + 1) x6.1) fun x7 => K x4.1 x7)) = K (nI a) s4 := by
        intro K
        rw [i1, a1, bd_s]
        simp only
        rw [i3, pk_mul, a2, bd_s, gd_nI (by omega) (by omega), nc (by omega), hsa i (by omega), b1, bd_s]
        simp only
        rw [nI_add, tie2, bd_s]
      rw [if_neg (nI_ge (by omega) (by omega)), if_neg (show ¬ nI 10 ≤ nI i from nI_ge (by omega) (by omega)), if_neg (nI_ge (by omega) (by omega))]
      rw [cls (fun v x7 => if nI i = 0 then n_makeList_8 f x7 10 sa (nI c) (3 * v) ((3 * v) + 2) (nI i + 1) else n_makeList_8 f x7 10 sa (nI c) tI ((3 * v) + 2) (nI i + 1))]
      rw [i1, a3, bd_s]
      simp only
      rw [gd_nI (by omega) (by omega), nc (by omega), sR_o _ _ (by decide), hst i (by omega), b2, bd_s]
      simp only
      rw [i3, pk_mul, nI_add, nI_add, m_ln, bd_s, i2, nI_add]
      rcases a12 with ⟨hi0, hq⟩ | ⟨hi0, hq, oe, ol, o9⟩
      · have hI : oI = -1 ∧ tI = -1 := by
          rcases he with ⟨_, z1, z2⟩ | ⟨z, _⟩
          · exact ⟨z2, z1⟩
          · omega
        rw [hI.1, if_pos (show (-1 : Int32) = -nI 1 from rfl), if_pos (show nI i = 0 by rw [hi0]; rfl)]
        rw [hq] at c4
        obtain ⟨sn', E', L', r', tI', oI', t', o', d1, d2, d3, d4, d5, d6, d7, d8, d9, d10⟩ := ih (i + 1) _ Q _ _ s4 (nI (3 * a)) (nI (3 * a + 2)) (3 * a) (3 * a + 2) (by omega) (by omega) c4 (by rw [n4]; exact hl) (by rw [r41, r40]; omega) (Or.inr ⟨by omega, rfl, rfl, (u4 _).mpr (Or.inr (Or.inr ⟨hi0, rfl⟩)), (u4 _).mpr (Or.inr (Or.inl rfl)), by omega, by omega⟩) hg4 (fun _ => ⟨by rw [show 3 * a / 3 = a by omega]; exact a0, by rw [show (3 * a + 2) / 3 = a by omega]; exact a0⟩)
        refine ⟨sn', E', L', r', tI', oI', t', o', d1, d2, (a4.tr b3).tr (c3.tr d3), d4, g4.tr d5, d6, by omega, fun p hp => (d8 p hp).trans (e4 p hp), fun p => ?_, d10⟩
        rw [d9, u4]
        constructor
        · rintro (⟨z | z | z, n1⟩ | z)
          · exact Or.inl ⟨z.1, fun w => absurd w (by omega)⟩
          · exact absurd z (n1 (by omega)).2
          · exact absurd z.2 (n1 (by omega)).1
          · exact Or.inr z
        · rintro (⟨z, n1⟩ | z)
          · refine Or.inl ⟨Or.inl ⟨z, fun w => absurd w (by omega)⟩, fun _ => ⟨fun w => ?_, fun w => ?_⟩⟩
            · rw [w] at z; exact a11 0 (by omega) z
            · rw [w] at z; exact a11 2 (by omega) z
          · exact Or.inr z
      · obtain ⟨hi1, rfl, rfl, ut, uo, t3, o3⟩ : 0 < i ∧ tI = nI t ∧ oI = nI o ∧ uN E r t ∧ uN E r o ∧ t % 3 = 0 ∧ o % 3 = 2 := by
          rcases he with ⟨z, _⟩ | z
          · omega
          · exact z
        have no3 : o ≠ 3 * a + 1 := by omega
        have noe : o ≠ e := by omega
        have oE3 := b5.1 o oe
        rw [hq] at c4
        obtain ⟨c7, c8⟩ := c4.late (Or.inl oE3.1) ((lk2_o _ no3 noe).trans (oE3.2.trans ol)) (by omega) (by omega)
        have u5 : ∀ p, uN (E2 E3 (3 * a + 1) e) (aL (aL r3 (3 * a + 1) e) o (3 * a)) p ↔ ((uN E r p ∧ p ≠ o) ∨ p = 3 * a + 2) := by
          intro p
          rw [uN_lo c8, u4]
          constructor
          · rintro (z | z | z)
            · exact Or.inl ⟨z.1, z.2 hi1⟩
            · exact Or.inr z
            · omega
          · rintro (z | z)
            · exact Or.inl ⟨z.1, fun _ => z.2⟩
            · exact Or.inr (Or.inl z)
        rw [if_neg (show ¬ nI o = -nI 1 from ne_m1 (by omega)), if_neg (show ¬ nI i = 0 from nI_ne0 hi1 (by omega)), m_links_ok (by omega) (by omega), bd_s]
        have g5 : GW E L r (E2 E3 (3 * a + 1) e) (lk2 L3 (3 * a + 1) e) (aL (aL r3 (3 * a + 1) e) o (3 * a)) := ⟨g4.1, fun m hm z => by rw [aL_lo (by omega)]; exact g4.2.1 m hm z, fun j hj => by rw [aL_lo (by omega)]; exact g4.2.2 j hj⟩
        have r51 : aL (aL r3 (3 * a + 1) e) o (3 * a) 1 = r 1 + (2 * d i + 2) := by rw [aL_lo (by omega), r41]
        have r50 : aL (aL r3 (3 * a + 1) e) o (3 * a) 0 = r 0 := by rw [aL_lo (by omega), r40]
        obtain ⟨sn', E', L', r', tI', oI', t', o', d1, d2, d3, d4, d5, d6, d7, d8, d9, d10⟩ := ih (i + 1) _ Q _ _ s4 (nI t) (nI (3 * a + 2)) t (3 * a + 2) (by omega) (by omega) c7 (by rw [n4]; exact hl) (by rw [r51, r50]; omega) (Or.inr ⟨by omega, rfl, rfl, (u5 _).mpr (Or.inl ⟨ut, by omega⟩), (u5 _).mpr (Or.inr rfl), t3, by omega⟩) (fun m hm z => by rw [aL_lo (by omega)]; exact hg4 m hm z) (fun _ => ⟨(hfr hi1).1, by rw [show (3 * a + 2) / 3 = a by omega]; exact a0⟩)
        refine ⟨sn', E', L', r', tI', oI', t', o', d1, d2, (a4.tr b3).tr (c3.tr d3), d4, g5.tr d5, d6, by omega, fun p hp => (d8 p hp).trans (e4 p hp), fun p => ?_, d10⟩
        rw [d9, u5]
        constructor
        · rintro (⟨z | z, n1⟩ | z)
          · exact Or.inl ⟨z.1, fun _ => ⟨(n1 (by omega)).1, z.2⟩⟩
          · exact absurd z (n1 (by omega)).2
          · exact Or.inr z
        · rintro (⟨z, n1⟩ | z)
          · refine Or.inl ⟨Or.inl ⟨z, (n1 hi1).2⟩, fun _ => ⟨(n1 hi1).1, fun w => ?_⟩⟩
            rw [w] at z; exact a11 2 (by omega) z
          · exact Or.inr z
/-- the tree of a list; the reference's part in the words of its method -/
theorem makeList_ok {c : Nat} (hc : c ≤ 10) {d : Nat → Nat} (hd : ∀ i, i < c → d i ≤ 9) {sa : Nat → Int32} (hsa : ∀ i, i < c → sa i = nI (d i)) {ρ wl : Nat → Nat} {st : OSt} (hst : ∀ i, i < c → st.2 17 i = nI (d i)) {E Q : Nat → Prop} {L r : Nat → Nat} {sn : NSt} (h : BS E Q L ρ wl r sn) (hl : 1016 ≤ nl sn) (hr : r 1 + (zS d c + 1) ≤ r 0) :
    ∃ (x e : Nat) (oI tI : Int32) (sn' : NSt) (E' : Nat → Prop) (L' r1 r2 r' : Nat → Nat), n_makeList sn 10 sa (nI c) = some (nI x, sn') ∧ m_list_118 20000 (sR st r) (nI c) (-1) (-1) 0 = some (sR st r1, oI, tI) ∧ m_makes (sR st r1) 0 = some (nI e, sR st r2) ∧ ((oI = -1 ∧ r' = r2 ∧ x = 3 * e) ∨ (oI ≠ -1 ∧ m_links (sR st r2) oI (3 * nI e) = some (sR st r') ∧ tI = nI x)) ∧ SN sn sn' ∧ BS E' Q L' ρ wl r' sn' ∧ GW E L r E' L' r' ∧ r' 1 = r 1 + (zS d c + 1) ∧ (∀ p, 900 ≤ p → (E' p ↔ E p)) ∧ (∀ p, uN E' r' p ↔ (uN E r p ∨ p = x)) ∧ (x < 900 ∧ x % 3 = 0 ∧ r (30 + x / 3) = 0) := by
  obtain ⟨s1, E1, L1, r1, tI, oI, t, o, d1, d2, d3, d4, d5, d6, d7, d8, d9, d10⟩ := list_made hc hd hsa (r0 := r) hst 20000 0 E Q L r sn (-1) (-1) 0 0 (by omega) (by omega) h hl (by rw [show zS d 0 = 0 from rfl]; omega) (Or.inl ⟨rfl, rfl, rfl⟩) (fun _ _ z => z) (fun z => absurd z (by omega))
  rw [show zS d 0 = 0 from rfl, Nat.sub_zero] at d7
  have r10 : r1 0 = r 0 := d5.2.2 0 (Or.inl rfl)
  have hn := mN_lt d4.1.1 (show r1 1 < r1 0 by omega)
  obtain ⟨s2, b1, b2, b3, b4, b5, b6, b7, b8⟩ := d4.mk (by omega) (k := 0) (by omega)
  have hm0 := m_makes_ok (st := st) d4.1.1 (show r1 1 < r1 0 by omega) (k := 0)
  generalize mN r1 = e at *
  have e0 : r (30 + e) = 0 := by
    refine Classical.byContradiction fun z => ?_
    have := d5.2.1 e hn.1 (by omega)
    omega
  have hu0 : ∀ p, uN E r p → r (30 + p / 3) ≠ 0 := fun p hp z => by
    have h9 := hp.1
    have := hp.2.1
    unfold xP at this
    rw [z] at this
    omega
  have base : ∀ s3 x, (bd (n_tie s2 oI (3 * nI e)) fun x10 => if nI c ≤ 0 then some ((3 * nI e), x10) else some (tI, x10)) = some (nI x, s3) → n_makeList sn 10 sa (nI c) = some (nI x, s3) := by
    intro s3 x hz
    unfold n_makeList
    rw [show n_makeList_8 20000 sn 10 sa (nI c) (-1) (-1) 0 = some (s1, tI, oI) from d1, bd_s]
    simp only
    unfold n_makeList_78
    rw [i0] at hz ⊢
    rw [b1, bd_s]
    exact hz
  rcases Nat.eq_zero_or_pos c with k0 | k0
  · have hI : oI = -1 := by
      rcases d6 with ⟨_, _, z⟩ | ⟨z, _⟩
      · exact z
      · omega
    refine ⟨3 * e, e, oI, tI, s2, E1, L1, r1, mK r1 0, mK r1 0, base s2 (3 * e) ?_, d2, hm0, Or.inl ⟨hI, rfl, rfl⟩, d3.tr b2, b3, d5.tr b4, by omega, d8, fun p => ?_, by omega, by omega, by rw [show 3 * e / 3 = e by omega]; exact e0⟩
    · rw [hI, show n_tie s2 (-1) (3 * nI e) = some s2 from n_tie_neg2, bd_s, if_pos (show nI c ≤ (0 : Int32) from nI_le (b := 0) (by omega) (by omega)), i3, pk_mul]
    · rw [b6, d9]
      constructor
      · rintro ((z | z) | z)
        · exact Or.inl z.1
        · omega
        · right; omega
      · rintro (z | z)
        · exact Or.inl (Or.inl ⟨z, fun w => absurd w (by omega)⟩)
        · right; omega
  · obtain ⟨_, rfl, rfl, ut, uo, t3, o3⟩ : 0 < c ∧ tI = nI t ∧ oI = nI o ∧ uN E1 r1 t ∧ uN E1 r1 o ∧ t % 3 = 0 ∧ o % 3 = 2 := by
      rcases d6 with ⟨z, _⟩ | z
      · omega
      · exact z
    have o9 := uo.1
    have t9 := ut.1
    have uo2 : uN E1 (mK r1 0) o := (b6 o).mpr (Or.inl uo)
    have ue2 : uN E1 (mK r1 0) (3 * e) := (b6 _).mpr (Or.inr ⟨by omega, by omega, Or.inl (by omega)⟩)
    have n2 : nl s2 = nl sn := by rw [b2.1, d3.1]
    obtain ⟨s3, c1, c2, c3, c4, c5, c6⟩ := b3.ln (a := o) (b := 3 * e) uo2.2.2 ue2.2.2 (by omega) (by omega) (by omega) (by omega) (by omega) (fun _ => uo2.2.1) (fun _ => ue2.2.1)
    refine ⟨t, e, nI o, nI t, s3, _, _, r1, mK r1 0, aL (mK r1 0) o (3 * e), base s3 t ?_, d2, hm0, Or.inr ⟨ne_m1 (by omega), ?_, rfl⟩, d3.tr (b2.tr c3), c4, (d5.tr b4).tr c5, by rw [aL_lo (by omega)]; omega, fun p hp => ?_, fun p => ?_, t9, t3, (d10 k0).1⟩
    · rw [i3, pk_mul, c2 (fun z => by have := z.1.2; omega), bd_s, if_neg (show ¬ nI c ≤ (0 : Int32) from nI_ge (a := 0) (by omega) (by omega))]
    · rw [i3, pk_mul, m_links_ok (by omega) (by omega)]
    · rw [← d8 p hp]
      exact ⟨fun z => z.elim id (fun z => by omega), Or.inl⟩
    · rw [c6, b6, d9]
      constructor
      · rintro ⟨(z | z) | z, n1, n3⟩
        · exact Or.inl z.1
        · rcases z.2 with w | w
          · exact Or.inr w
          · exact absurd w n1
        · exact absurd (show p = 3 * e by omega) n3
      · rintro (z | z)
        · refine ⟨Or.inl (Or.inl ⟨z, fun w => absurd w (by omega)⟩), fun w => ?_, fun w => ?_⟩
          · rw [w] at z; exact hu0 o z (d10 k0).2
          · rw [w] at z; exact hu0 _ z (by rw [show 3 * e / 3 = e by omega]; exact e0)
        · refine ⟨Or.inl (Or.inr ⟨k0, Or.inl z⟩), by omega, fun w => ?_⟩
          have := b7 0 (by omega)
          rw [Nat.add_zero, ← w, z] at this
          exact this.2 ut
