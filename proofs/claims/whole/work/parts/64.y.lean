/-! by hand: two roots joined; roots counted -/
theorem join_core {r : Nat → Nat} {sn : NSt} (hv : NV r) (h : NC r sn) {a b : Nat} (ha : a < 16) (hb : b < 16) (h1 : r (14 + a) = 1) (h2 : r (14 + b) = 1) (hab : a ≠ b) :
    ∃ sn' r', n_joinRoots sn (nI a) (nI b) = some sn' ∧ r' = (if lk r (1000 + a) = 1000 + b then ur (ur (ur r (14 + a) 0) (14 + b) 0) 7 (r 7 + 1) else aL (ur (ur r (14 + a) 0) (14 + b) 0) (lk r (1000 + a)) (lk r (1000 + b))) ∧ NV r' ∧ NC r' sn' ∧ SN sn sn' := by
  have hl := h.2.2.1
  have hn := h.2.1.1
  have ra : xP r (1000 + a) := root_xP ha h1
  have rb : xP r (1000 + b) := root_xP hb h2
  obtain ⟨g1, g2, g3⟩ := hv.2.2 _ ra
  obtain ⟨k1, k2, k3⟩ := hv.2.2 _ rb
  have la := xP_lt g1
  have lb := xP_lt k1
  obtain ⟨p1, p2⟩ := n_splice_ok h.2.1 ra rb (show 1000 + a ≠ 1000 + b by omega) (fun z => by have := z.1; omega) (fun z => by have := z.1; omega)
  obtain ⟨r', hr'⟩ : ∃ u, u = (if lk r (1000 + a) = 1000 + b then ur (ur (ur r (14 + a) 0) (14 + b) 0) 7 (r 7 + 1) else aL (ur (ur r (14 + a) 0) (14 + b) 0) (lk r (1000 + a)) (lk r (1000 + b))) := ⟨_, rfl⟩
  have lo : ∀ j, j < 630 → j ≠ 7 → r' j = if j = 14 + b then 0 else if j = 14 + a then 0 else r j := by
    intro j hj h7
    rw [hr']
    split
    · rw [ur_n h7, ur_at, ur_at]
    · rw [aL_lo hj, ur_at, ur_at]
  have lon : ∀ j, j < 630 → j ≠ 7 → (j < 14 ∨ 30 ≤ j) → r' j = r j := fun j h0 h7 h14 => by rw [lo j h0 h7, if_neg (by omega), if_neg (by omega)]
  have r7 : r' 7 = r 7 + if lk r (1000 + a) = 1000 + b then 1 else 0 := by
    rw [hr']
    split
    · rw [ur_s]
    · rw [aL_lo (by omega), ur_n (by omega), ur_n (by omega)]; rfl
  have lk' : lk r' = if lk r (1000 + a) = 1000 + b then lk r else lk2 (lk r) (lk r (1000 + a)) (lk r (1000 + b)) := by
    rw [hr']
    split
    · rw [lk_ur (by omega), lk_ur (by omega), lk_ur (by omega)]
    · rw [lk_aL, lk_ur (by omega), lk_ur (by omega)]
  have w5 : r 5 ≤ 300 := by obtain ⟨⟨z0, z1, z2⟩, _⟩ := hv.1; omega
  have wt : WM r' := by
    obtain ⟨⟨z0, z1, z2⟩, y1, y2, y3⟩ := hv.1
    refine ⟨⟨by rw [lon 0 (by omega) (by omega) (by omega)]; exact z0, by rw [lon 4 (by omega) (by omega) (by omega), lon 1 (by omega) (by omega) (by omega), lon 5 (by omega) (by omega) (by omega)]; exact z1, by rw [lon 4 (by omega) (by omega) (by omega), lon 0 (by omega) (by omega) (by omega)]; exact z2⟩, ?_, ?_, ?_⟩
    · intro m hm'
      rw [lon _ (by omega) (by omega) (by omega), lon 4 (by omega) (by omega) (by omega)]
      exact y1 m hm'
    · intro i hi
      rw [lon 5 (by omega) (by omega) (by omega)] at hi
      have q := y2 i hi
      rw [lon (330 + i) (by omega) (by omega) (by omega), lon 4 (by omega) (by omega) (by omega), lon (30 + r (330 + i)) (by omega) (by omega) (by omega)]
      exact q
    · intro i j hij hj
      rw [lon 5 (by omega) (by omega) (by omega)] at hj
      rw [lon (330 + i) (by omega) (by omega) (by omega), lon (330 + j) (by omega) (by omega) (by omega)]
      exact y3 i j hij hj
  have rt14 : ∀ i, i < 16 → r' (14 + i) = if i = b then 0 else if i = a then 0 else r (14 + i) := fun i hi => by
    rw [lo _ (by omega) (by omega)]
    by_cases q1 : i = b
    · rw [if_pos (by omega), if_pos q1]
    · rw [if_neg (by omega), if_neg q1]
      by_cases q2 : i = a
      · rw [if_pos (by omega), if_pos q2]
      · rw [if_neg (by omega), if_neg q2]
  have wr : WR r' := by
    refine ⟨by rw [lon 6 (by omega) (by omega) (by omega)]; exact hv.2.1.1, fun i hi => ?_⟩
    rw [rt14 i hi, lon 6 (by omega) (by omega) (by omega)]
    have q := hv.2.1.2 i hi
    split
    · omega
    · split
      · omega
      · exact q
  have xr : ∀ p, xP r' p ↔ Em (xP r) (1000 + a) (1000 + b) p := by
    intro p
    unfold Em xP
    by_cases h9 : p < 900
    · rw [lon _ (by omega) (by omega) (by omega)]
      constructor
      · rintro (z | z)
        · exact ⟨Or.inl z, by omega, by omega⟩
        · omega
      · rintro ⟨z | z, _⟩
        · exact Or.inl z
        · omega
    · by_cases h10 : 1000 ≤ p ∧ p < 1016
      · rw [rt14 (p - 1000) (by omega)]
        constructor
        · rintro (z | ⟨z1, z2, z3⟩)
          · omega
          · by_cases q1 : p - 1000 = b
            · rw [if_pos q1] at z3; omega
            · rw [if_neg q1] at z3
              by_cases q2 : p - 1000 = a
              · rw [if_pos q2] at z3; omega
              · rw [if_neg q2] at z3
                exact ⟨Or.inr ⟨z1, z2, z3⟩, by omega, by omega⟩
        · rintro ⟨z | ⟨z1, z2, z3⟩, n1, n2⟩
          · omega
          · rw [if_neg (by omega), if_neg (by omega)]
            exact Or.inr ⟨z1, z2, z3⟩
      · constructor
        · rintro (z | z) <;> omega
        · rintro ⟨z | z, _⟩ <;> omega
  have hra : ∀ i, i < 16 → r (14 + i) = 1 → n_hasRoot sn (nI i) = some 1 := fun i hi z => by rw [n_hasRoot_ok hv h hi, if_pos z]
  -- the class, up to its splice
  have spl : ∃ s1, n_splice sn (nI (1000 + a)) (nI (1000 + b)) = some s1 ∧ SN sn s1 ∧ CM r' s1 ∧ CN (Em (xP r) (1000 + a) (1000 + b)) (lk r') (Kr r) s1 ∧ (∀ i, i < 16 → i ≠ a → i ≠ b → ¬ xP r (1000 + i) → na s1 1 (1000 + i) = mI) := by
    by_cases q : lk r (1000 + a) = 1000 + b
    · obtain ⟨f1, f2⟩ := p1 q
      refine ⟨_, f1, ⟨rfl, rfl, rfl⟩, CM_7 h.1 lon w5 (by rw [r7, if_pos q, h.1.2.1.2.2.2, nI_1]), ?_, fun i hi _ _ hx => h.2.2.2 i hi hx⟩
      rw [lk', if_pos q]
      exact f2
    · obtain ⟨s1, f1, ⟨f2, f3⟩, f4⟩ := p2 q
      refine ⟨s1, f1, f2.sn, ?_, ?_, fun i hi n1 n2 hx => ?_⟩
      · have e : nsI s1 13 (ni s1 13) = s1 := by
          unfold nsI ni
          refine Prod.ext rfl (Prod.ext ?_ rfl)
          funext j
          show upd s1.2.1 13 (s1.2.1 13) j = s1.2.1 j
          rw [upd_at]
          split
          · rename_i z; rw [z]
          · rfl
        have c := CM_7 (h.1.sl f2) lon w5 (v := ni s1 13) (by rw [r7, if_neg q, Nat.add_zero]; exact (h.1.sl f2).2.1.2.2.2)
        rw [e] at c
        exact c
      · rw [lk', if_neg q]
        exact f4
      · rw [f3 _ (fun z => hx (by rw [z]; exact g1)) (fun z => hx (by rw [z]; exact k1))]
        exact h.2.2.2 i hi hx
  obtain ⟨s1, f1, f2, f3, f4, f5⟩ := spl
  have fin := quies_fin (t := r') (sn := nsA (nsA s1 1 (upd (na s1 1) (1000 + a) mI)) 1 (upd (upd (na s1 1) (1000 + a) mI) (1000 + b) mI)) (E := Em (xP r) (1000 + a) (1000 + b)) (L := lk r') (K := Kr r) wt wr ((f3.sl (SL.A _ _)).sl (SL.A _ _)) (by
      refine ⟨f4.1, ?_, f4.2.2⟩
      obtain ⟨m1, m2, m3, m4⟩ := f4.2.1
      refine ⟨m1, fun p hp => ⟨(m2 p hp).1, ?_⟩, m3, m4⟩
      show upd (upd (na s1 1) (1000 + a) mI) (1000 + b) mI p = _
      rw [upd_at, if_neg hp.2.2, upd_at, if_neg hp.2.1]
      exact (m2 p hp).2) (fun m hm' => lon _ (by omega) (by omega) (by omega)) (by
      intro i hi hE
      show upd (upd (na s1 1) (1000 + a) mI) (1000 + b) mI (1000 + i) = mI
      rw [upd_at]
      by_cases z : i = b
      · rw [if_pos (by omega)]
      · rw [if_neg (by omega), upd_at]
        by_cases y : i = a
        · rw [if_pos (by omega)]
        · rw [if_neg (by omega)]
          exact f5 i hi y z (fun w => hE ⟨w, by omega, by omega⟩)) (by show 1016 ≤ nl s1; rw [f2.1]; exact hl) xr (fun p _ => rfl)
  refine ⟨_, r', ?_, hr', fin.1, fin.2, ⟨f2.1, f2.2.1, f2.2.2⟩⟩
  unfold n_joinRoots
  rw [hra a ha h1, bd_s, if_neg (by decide), hra b hb h2, bd_s, if_neg (by decide), i1000, nI_add, nI_add, f1, bd_s, gd_nI (by rw [f2.1]; omega) (by rw [f2.1]; omega), nm_eq, nl_A, gd_nI (by rw [f2.1]; omega) (by rw [f2.1]; omega), nm_eq, nc (by omega), nc (by omega)]
  rfl
def hR (r : Nat → Nat) (i : Nat) : Bool := decide (r (14 + i) = 1)
theorem n_rootsThere_ok {r : Nat → Nat} {sn : NSt} (hv : NV r) (h : NC r sn) : n_rootsThere sn = some (nI (fb_ct (hR r) 16)) := by
  have key : ∀ (fuel i : Nat), i ≤ 16 → 16 - i < fuel → n_rootsThere_4 fuel sn (nI (fb_ct (hR r) i)) (nI i) = some (nI (fb_ct (hR r) 16)) := by
    intro fuel
    induction fuel with
    | zero => intro i _ h; omega
    | succ n ih =>
      intro i hi hf
      rw [n_rootsThere_4]
      by_cases q : i = 16
      · subst q
        rw [if_pos (show (16 : Int32) ≤ nI 16 from nI_le (a := 16) (b := 16) (Nat.le_refl _) (by omega))]
      · have ihi := ih (i + 1) (by omega) (by omega)
        rw [fb_ct_succ] at ihi
        rw [if_neg (show ¬ (16 : Int32) ≤ nI i from nI_ge (b := 16) (by omega) (by omega)), n_hasRoot_ok hv h (by omega), bd_s, nI_1]
        by_cases z : r (14 + i) = 1
        · rw [show hR r i = true from decide_eq_true z, if_pos rfl] at ihi
          rw [if_pos z, if_neg (by decide), nI_1]
          exact ihi
        · rw [show hR r i = false from decide_eq_false z] at ihi
          rw [if_neg z, if_pos rfl]
          exact ihi
  unfold n_rootsThere
  rw [show n_rootsThere_4 20000 sn 0 0 = some (nI (fb_ct (hR r) 16)) from key 20000 0 (by omega) (by omega)]
  rfl
theorem m_roots_ok {r : Nat → Nat} {st : OSt} (hv : NV r) : m_roots (sR st r) = some (nI (fb_ct (hR r) 16)) := by
  have key : ∀ (fuel i : Nat), i ≤ 16 → 16 - i < fuel → m_roots_4 fuel (sR st r) (nI (fb_ct (hR r) i)) (nI i) = some (nI (fb_ct (hR r) 16)) := by
    intro fuel
    induction fuel with
    | zero => intro i _ h; omega
    | succ n ih =>
      intro i hi hf
      rw [m_roots_4]
      by_cases q : i = 16
      · subst q
        rw [if_pos (show (16 : Int32) ≤ nI 16 from nI_le (a := 16) (b := 16) (Nat.le_refl _) (by omega))]
      · have ihi := ih (i + 1) (by omega) (by omega)
        rw [fb_ct_succ] at ihi
        have h1 := (hv.2.1.2 i (by omega)).1
        rw [if_neg (show ¬ (16 : Int32) ≤ nI i from nI_ge (b := 16) (by omega) (by omega)), i14, nI_add, gd_nI (by omega) (by omega), nm_eq, nc (by omega), sR_2, nR_at, nI_add, nI_1]
        by_cases z : r (14 + i) = 1
        · rw [show hR r i = true from decide_eq_true z, if_pos rfl] at ihi
          rw [z]
          exact ihi
        · rw [show hR r i = false from decide_eq_false z] at ihi
          rw [show r (14 + i) = 0 by omega]
          exact ihi
  unfold m_roots
  rw [show m_roots_4 20000 (sR st r) 0 0 = some (nI (fb_ct (hR r) 16)) from key 20000 0 (by omega) (by omega)]
  rfl
/-- rows copied -/
theorem m_copies_ok {ka ka2 : Nat} {f g : Nat → Int32} {a b : Nat} (h1 : a + 1646 ≤ ka) (h2 : b + 1646 ≤ ka2) (l1 : ka < 30000) (l2 : ka2 < 30000) : m_copies ka f ka2 g (nI a) (nI b) = some (fun j => if b ≤ j ∧ j < b + 1646 then f (a + (j - b)) else g j) := by
  have key : ∀ (fuel k : Nat) (g' : Nat → Int32), k ≤ 1646 → 1646 - k < fuel → (∀ j, g' j = if b ≤ j ∧ j < b + k then f (a + (j - b)) else g j) → m_copies_3 fuel ka f ka2 g' (nI a) (nI b) (nI k) = some (fun j => if b ≤ j ∧ j < b + 1646 then f (a + (j - b)) else g j) := by
    intro fuel
    induction fuel with
    | zero => intro k g' _ h; omega
    | succ n ih =>
      intro k g' hk hf h0
      rw [m_copies_3]
      by_cases q : k = 1646
      · subst q
        rw [if_pos (show (1646 : Int32) ≤ nI 1646 from nI_le (a := 1646) (b := 1646) (Nat.le_refl _) (by omega))]
        congr 1
        funext j
        exact h0 j
      · rw [if_neg (show ¬ (1646 : Int32) ≤ nI k from nI_ge (b := 1646) (by omega) (by omega)), nI_add, nI_add, gd_nI (by omega) (by omega), gd_nI (by omega) (by omega), nm_eq, nc (by omega), nc (by omega), nI_1]
        refine ih (k + 1) _ (by omega) (by omega) (fun j => ?_)
        rw [upd_at]
        by_cases z : j = b + k
        · rw [if_pos z, if_pos (by omega)]
          congr 1
          omega
        · rw [if_neg z, h0 j]
          by_cases y : b ≤ j ∧ j < b + k
          · rw [if_pos y, if_pos (by omega)]
          · rw [if_neg y, if_neg (by omega)]
  unfold m_copies
  rw [i0, key 20000 0 g (by omega) (by omega) (fun j => by rw [if_neg (by omega)])]
  rfl
/-- a net becomes another one -/
theorem n_become_ok {r : Nat → Nat} {sn so : NSt} (h : NC r so) (hl : 1016 ≤ nl sn) (hl2 : nl sn ≤ 1300) (hv : NV r) : ∃ sn', n_become sn so = some sn' ∧ NC r sn' ∧ nl sn' = nl sn := by
  obtain ⟨ps, e1, hps⟩ := p_become_ok (np sn) (np so)
  have hl3 := h.2.2.1
  unfold n_become
  simp only [nm_eq]
  rw [gl_le hl3, nl_A, gl_le hl]
  rw [show np (nsA (nsA (nsA (nsA sn 0 (va_cpy (na so 0) (na sn 0) 0 0 300)) 1 (va_cpy (na so 1) (na (nsA sn 0 (va_cpy (na so 0) (na sn 0) 0 0 300)) 1) 0 0 1016)) 2 (va_cpy (na so 2) (na (nsA (nsA sn 0 (va_cpy (na so 0) (na sn 0) 0 0 300)) 1 (va_cpy (na so 1) (na (nsA sn 0 (va_cpy (na so 0) (na sn 0) 0 0 300)) 1) 0 0 1016)) 2) 0 0 300)) 3 (va_cpy (na so 3) (na (nsA (nsA (nsA sn 0 (va_cpy (na so 0) (na sn 0) 0 0 300)) 1 (va_cpy (na so 1) (na (nsA sn 0 (va_cpy (na so 0) (na sn 0) 0 0 300)) 1) 0 0 1016)) 2 (va_cpy (na so 2) (na (nsA (nsA sn 0 (va_cpy (na so 0) (na sn 0) 0 0 300)) 1 (va_cpy (na so 1) (na (nsA sn 0 (va_cpy (na so 0) (na sn 0) 0 0 300)) 1) 0 0 1016)) 2) 0 0 300)) 3) 0 0 6)) = np sn from rfl, e1, bd_s]
  refine ⟨_, rfl, ?_, rfl⟩
  obtain ⟨⟨⟨c6, c7, c8, c9⟩, ⟨c11, c10, c12, c13⟩, c3, c0, c2⟩, ⟨n1, ⟨m1, m2, m3, m4⟩, n3⟩, n4, n5⟩ := h
  have w5 : r 5 ≤ 300 := by obtain ⟨⟨z0, z1, z2⟩, _⟩ := hv.1; omega
  refine ⟨⟨⟨c6, c7, c8, c9⟩, ⟨c11, c10, c12, c13⟩, ?_, ?_, ?_⟩, ⟨hl2, ⟨m1, ?_, m3, hps m4⟩, ?_⟩, hl, ?_⟩
  · intro k hk
    show va_cpy (na so 3) _ 0 0 6 k = _
    rw [pk_cpy_in (by omega) (by omega), Nat.zero_add, Nat.sub_zero]
    exact c3 k hk
  · intro m hm
    show va_cpy (na so 0) _ 0 0 300 m = _
    rw [pk_cpy_in (by omega) (by omega), Nat.zero_add, Nat.sub_zero]
    exact c0 m hm
  · intro k hk
    show va_cpy (na so 2) _ 0 0 300 k = _
    rw [pk_cpy_in (by omega) (by omega), Nat.zero_add, Nat.sub_zero]
    exact c2 k hk
  · intro p hp
    have lt := xP_lt hp
    refine ⟨by show p < nl sn; omega, ?_⟩
    show va_cpy (na so 1) _ 0 0 1016 p = _
    rw [pk_cpy_in (by omega) (by omega), Nat.zero_add, Nat.sub_zero]
    exact (m2 p hp).2
  · intro m hm
    show va_cpy (na so 0) _ 0 0 300 m = _ ∧ _
    rw [pk_cpy_in (by omega) (by omega), Nat.zero_add, Nat.sub_zero]
    exact n3 m hm
  · intro i hi hE
    show va_cpy (na so 1) _ 0 0 1016 (1000 + i) = _
    rw [pk_cpy_in (by omega) (by omega), Nat.zero_add, Nat.sub_zero]
    exact n5 i hi hE
