/-! nets that are built: places linked so far; the reference's wires have names of their own -/
def rk (r wl : Nat → Nat) (q : Nat) : Nat := if q < 1100 then lk r q else wl (q - 1100)
/-- Q: places whose links the reference hasn't written yet -/
def BS (E Q : Nat → Prop) (L ρ wl r : Nat → Nat) (sn : NSt) : Prop :=
  (WM r ∧ CM r sn ∧ CN E L (Kr r) sn ∧ RT E sn) ∧ (∀ p, E p → p < 900 → xP r p) ∧ (∀ p, E p → ¬ Q p → rk r wl (ρ p) = ρ (L p)) ∧ (∀ p, p < 1016 → ρ p = p) ∧ (∀ p, 1016 ≤ p → 1100 ≤ ρ p) ∧ (∀ p q, ρ p = ρ q → p = q)
def uN (E : Nat → Prop) (r : Nat → Nat) (p : Nat) : Prop := p < 900 ∧ xP r p ∧ ¬ E p
/-- what was there stays -/
def GW (E : Nat → Prop) (L r : Nat → Nat) (E' : Nat → Prop) (L' r' : Nat → Nat) : Prop :=
  (∀ p, E p → E' p ∧ L' p = L p) ∧ (∀ m, m < 300 → 0 < r (30 + m) → r' (30 + m) = r (30 + m)) ∧ (∀ j, j = 0 ∨ (6 ≤ j ∧ j < 30) → r' j = r j)
theorem GW.rf (E : Nat → Prop) (L r : Nat → Nat) : GW E L r E L r := ⟨fun _ h => ⟨h, rfl⟩, fun _ _ _ => rfl, fun _ _ => rfl⟩
theorem GW.tr {E E' E'' : Nat → Prop} {L L' L'' r r' r'' : Nat → Nat} (h : GW E L r E' L' r') (g : GW E' L' r' E'' L'' r'') : GW E L r E'' L'' r'' := by
  refine ⟨fun p hp => ?_, fun m hm hk => ?_, fun j hj => (g.2.2 j hj).trans (h.2.2 j hj)⟩
  · obtain ⟨a, b⟩ := h.1 p hp
    obtain ⟨c, d⟩ := g.1 p a
    exact ⟨c, d.trans b⟩
  · have a := h.2.1 m hm hk
    rw [g.2.1 m hm (by rw [a]; exact hk), a]
theorem BS.mk {E Q : Nat → Prop} {L ρ wl r : Nat → Nat} {sn : NSt} (h : BS E Q L ρ wl r sn) (hr : r 1 < r 0) {k : Nat} (hk : k ≤ 2) : ∃ sn', n_make sn (nI k) = some (nI (mN r), sn') ∧ SN sn sn' ∧ BS E Q L ρ wl (mK r k) sn' ∧ GW E L r E L (mK r k) ∧ mN r < 300 ∧ (∀ p, uN E (mK r k) p ↔ (uN E r p ∨ (p < 900 ∧ p / 3 = mN r ∧ (p % 3 = 0 ∨ 1 ≤ k)))) ∧ (∀ j, j < 3 → ¬ E (3 * mN r + j) ∧ ¬ uN E r (3 * mN r + j)) ∧ (mK r k 1 = r 1 + 1 ∧ mK r k 0 = r 0) := by
  obtain ⟨⟨w, c, n, t⟩, e1, e2, e3⟩ := h
  obtain ⟨sn', a, b, s⟩ := n_makes_ok c w hr (k := k)
  have hn := mN_lt w hr
  have z0 : mK r k 0 = r 0 := mK_o (by omega) (by omega) (by omega) (by omega) (by omega)
  have xk : ∀ p, p < 900 → (xP (mK r k) p ↔ (xP r p ∨ (p / 3 = mN r ∧ (p % 3 = 0 ∨ 1 ≤ k)))) := by
    intro p hp
    unfold xP
    rw [mK_k]
    by_cases q : p / 3 = mN r
    · rw [if_pos q, q, hn.2.2]; omega
    · rw [if_neg q]
      constructor
      · rintro (z | z)
        · exact Or.inl (Or.inl z)
        · omega
      · rintro ((z | z) | z)
        · exact Or.inl z
        · omega
        · omega
  have fr : ∀ j, j < 3 → ¬ E (3 * mN r + j) := fun j hj => n.no hn.1 hj hn.2.2
  have frx : ∀ j, j < 3 → ¬ xP r (3 * mN r + j) := fun j hj z => by
    unfold xP at z
    rw [show (3 * mN r + j) / 3 = mN r by omega, hn.2.2] at z
    omega
  refine ⟨sn', a, s.sn, ⟨⟨mK_WM w hr hk, b, n.mk s w hr hk b, t.sk s⟩, fun p hp h9 => (xk p h9).mpr (Or.inl (e1 p hp h9)), fun p hp hQ => ?_, e3⟩, ⟨fun p hp => ⟨hp, rfl⟩, fun m hm hk0 => ?_, fun j hj => ?_⟩, hn.1, fun p => ?_, fun j hj => ⟨fr j hj, fun z => frx j hj z.2.1⟩, mK_1 r k, z0⟩
  · have := e2 p hp hQ
    unfold rk at this ⊢
    rw [mK_lk hn.1]
    exact this
  · rw [mK_k, if_neg]
    intro z
    rw [z, hn.2.2] at hk0
    omega
  · rcases hj with rfl | hj
    · exact z0
    · exact mK_s hj.1 hj.2
  · unfold uN
    constructor
    · rintro ⟨h9, hx, hE⟩
      rcases (xk p h9).mp hx with z | z
      · exact Or.inl ⟨h9, z, hE⟩
      · exact Or.inr ⟨h9, z⟩
    · rintro (⟨h9, hx, hE⟩ | ⟨h9, z⟩)
      · exact ⟨h9, (xk p h9).mpr (Or.inl hx), hE⟩
      · refine ⟨h9, (xk p h9).mpr (Or.inr z), fun hE => ?_⟩
        have := fr (p % 3) (by omega)
        rw [← z.1, show 3 * (p / 3) + p % 3 = p by omega] at this
        exact this hE
/-- a link between places that are no wires -/
theorem BS.ln {E Q : Nat → Prop} {L ρ wl r : Nat → Nat} {sn : NSt} (h : BS E Q L ρ wl r sn) {a b : Nat} (ha : ¬ E a) (hb : ¬ E b) (hab : a ≠ b) (a1 : a < 1016) (b1 : b < 1016) (an : a < nl sn) (bn : b < nl sn) (xa : a < 900 → xP r a) (xb : b < 900 → xP r b) :
    ∃ sn', n_connect sn (nI a) (nI b) = some sn' ∧ (¬ (hd a ∧ hd b) → n_tie sn (nI a) (nI b) = some sn') ∧ SN sn sn' ∧ BS (E2 E a b) Q (lk2 L a b) ρ wl (aL r a b) sn' ∧ GW E L r (E2 E a b) (lk2 L a b) (aL r a b) ∧ (∀ p, uN (E2 E a b) (aL r a b) p ↔ (uN E r p ∧ p ≠ a ∧ p ≠ b)) := by
  obtain ⟨⟨w, c, n, t⟩, e1, e2, e3, e4, e5⟩ := h
  have kx : ∀ p, p < 900 → xP r p → 0 < Kr r (p / 3) := fun p hp z => by
    rcases z with z | z
    · exact z.2.1
    · omega
  have ka : a < 900 → 0 < Kr r (a / 3) := fun z => kx a z (xa z)
  have kb : b < 900 → 0 < Kr r (b / 3) := fun z => kx b z (xb z)
  obtain ⟨sn', f1, ⟨f2, f3⟩, f4⟩ := n_connect_ok n ha hb hab an bn ka kb
  have lo : ∀ j, j < 630 → aL r a b j = r j := fun j hj => aL_lo hj
  have xl : ∀ p, xP (aL r a b) p ↔ xP r p := fun p => xP_lo (fun j h1 h2 => lo j (by omega)) p
  have kl : ∀ m, m < 300 → Kr (aL r a b) m = Kr r m := fun m hm => lo _ (by omega)
  have f4' : CN (E2 E a b) (lk2 L a b) (Kr (aL r a b)) sn' := by
    refine ⟨f4.1, f4.2.1.cong (fun _ => Iff.rfl) (fun _ _ => rfl) (fun p _ h9 => kl _ (by omega)), fun m hm => ?_⟩
    rw [kl m hm]
    exact f4.2.2 m hm
  have ne : ∀ p, E p → p ≠ a ∧ p ≠ b := fun p hp => ⟨fun e => ha (e ▸ hp), fun e => hb (e ▸ hp)⟩
  refine ⟨sn', f1, fun hh => ?_, f2.sn, ⟨⟨WM_lo lo w, CM_lo lo (by obtain ⟨⟨z0, z1, z2⟩, _⟩ := w; omega) (c.sl f2), f4', t.add f3⟩, ?_, ?_, e3, e4, e5⟩, ⟨fun p hp => ⟨Or.inl hp, lk2_o _ (ne p hp).1 (ne p hp).2⟩, fun m hm _ => lo _ (by omega), fun j hj => lo j (by omega)⟩, fun p => ?_⟩
  · obtain ⟨s2, g1, _, _⟩ := n_tie_cn n ha hb hab an bn ka kb hh
    have hn := n.1
    rw [n_tie_ok hn an bn]
    unfold n_connect at f1
    rw [n_tie_ok hn an bn, bd_s, n_isHead_ok (by omega), bd_s] at f1
    by_cases qa : a < 900 ∧ a % 3 = 0
    · rw [if_pos qa, if_neg (by decide), n_isHead_ok (by omega), bd_s, if_neg (show ¬ (b < 900 ∧ b % 3 = 0) from fun z => hh ⟨qa, z⟩), if_pos rfl] at f1
      exact f1
    · rw [if_neg qa, if_pos rfl] at f1
      exact f1
  · rintro p (z | z | z) h9
    · exact (xl p).mpr (e1 p z h9)
    · rw [z] at h9 ⊢; exact (xl a).mpr (xa h9)
    · rw [z] at h9 ⊢; exact (xl b).mpr (xb h9)
  · have rka : ∀ q, q < 1100 → rk (aL r a b) wl q = lk2 (lk r) a b q := fun q hq => by unfold rk; rw [if_pos hq, lk_aL]
    rintro p (z | z | z) hQ
    · have hne := ne p z
      rw [lk2_o _ hne.1 hne.2, ← e2 p z hQ]
      unfold rk
      by_cases q : ρ p < 1100
      · rw [if_pos q, if_pos q, lk_aL, lk2_o]
        · intro e; exact hne.1 (e5 p a (by rw [e3 a a1]; exact e))
        · intro e; exact hne.2 (e5 p b (by rw [e3 b b1]; exact e))
      · rw [if_neg q, if_neg q]
    · rw [z, e3 a a1, rka a (by omega), lk2_a _ hab, lk2_a _ hab, e3 b b1]
    · rw [z, e3 b b1, rka b (by omega), lk2_b, lk2_b, e3 a a1]
  · unfold uN E2
    rw [xl]
    constructor
    · rintro ⟨x1, x2, x3⟩
      exact ⟨⟨x1, x2, fun z => x3 (Or.inl z)⟩, fun z => x3 (Or.inr (Or.inl z)), fun z => x3 (Or.inr (Or.inr z))⟩
    · rintro ⟨⟨x1, x2, x3⟩, x4, x5⟩
      refine ⟨x1, x2, ?_⟩
      rintro (z | z | z)
      · exact x3 z
      · exact x4 z
      · exact x5 z
/-- the class links two places, the reference not yet -/
theorem BS.early {E Q : Nat → Prop} {L ρ wl r : Nat → Nat} {sn : NSt} (h : BS E Q L ρ wl r sn) {a b : Nat} (ha : ¬ E a) (hb : ¬ E b) (hab : a ≠ b) (an : a < nl sn) (bn : b < nl sn) (xa : a < 900 → xP r a) (xb : b < 900 → xP r b) :
    ∃ sn', n_connect sn (nI a) (nI b) = some sn' ∧ (¬ (hd a ∧ hd b) → n_tie sn (nI a) (nI b) = some sn') ∧ SN sn sn' ∧ BS (E2 E a b) (fun p => Q p ∨ p = a ∨ p = b) (lk2 L a b) ρ wl r sn' ∧ GW E L r (E2 E a b) (lk2 L a b) r ∧ (∀ p, uN (E2 E a b) r p ↔ (uN E r p ∧ p ≠ a ∧ p ≠ b)) := by
  obtain ⟨⟨w, c, n, t⟩, e1, e2, e3, e4, e5⟩ := h
  have kx : ∀ p, p < 900 → xP r p → 0 < Kr r (p / 3) := fun p hp z => by
    rcases z with z | z
    · exact z.2.1
    · omega
  have ka : a < 900 → 0 < Kr r (a / 3) := fun z => kx a z (xa z)
  have kb : b < 900 → 0 < Kr r (b / 3) := fun z => kx b z (xb z)
  obtain ⟨sn', f1, ⟨f2, f3⟩, f4⟩ := n_connect_ok n ha hb hab an bn ka kb
  have ne : ∀ p, E p → p ≠ a ∧ p ≠ b := fun p hp => ⟨fun e => ha (e ▸ hp), fun e => hb (e ▸ hp)⟩
  refine ⟨sn', f1, fun hh => ?_, f2.sn, ⟨⟨w, c.sl f2, f4, t.add f3⟩, ?_, ?_, e3, e4, e5⟩, ⟨fun p hp => ⟨Or.inl hp, lk2_o _ (ne p hp).1 (ne p hp).2⟩, fun _ _ _ => rfl, fun _ _ => rfl⟩, fun p => ?_⟩
  · have hn := n.1
    rw [n_tie_ok hn an bn]
    unfold n_connect at f1
    rw [n_tie_ok hn an bn, bd_s, n_isHead_ok (by omega), bd_s] at f1
    by_cases qa : a < 900 ∧ a % 3 = 0
    · rw [if_pos qa, if_neg (by decide), n_isHead_ok (by omega), bd_s, if_neg (show ¬ (b < 900 ∧ b % 3 = 0) from fun z => hh ⟨qa, z⟩), if_pos rfl] at f1
      exact f1
    · rw [if_neg qa, if_pos rfl] at f1
      exact f1
  · rintro p (z | z | z) h9
    · exact e1 p z h9
    · rw [z] at h9 ⊢; exact xa h9
    · rw [z] at h9 ⊢; exact xb h9
  · rintro p (z | z | z) hQ
    · have hne := ne p z
      rw [lk2_o _ hne.1 hne.2]
      exact e2 p z (fun q => hQ (Or.inl q))
    · exact absurd (Or.inr (Or.inl z)) hQ
    · exact absurd (Or.inr (Or.inr z)) hQ
  · unfold uN E2
    constructor
    · rintro ⟨x1, x2, x3⟩
      exact ⟨⟨x1, x2, fun z => x3 (Or.inl z)⟩, fun z => x3 (Or.inr (Or.inl z)), fun z => x3 (Or.inr (Or.inr z))⟩
    · rintro ⟨⟨x1, x2, x3⟩, x4, x5⟩
      refine ⟨x1, x2, ?_⟩
      rintro (z | z | z)
      · exact x3 z
      · exact x4 z
      · exact x5 z
/-- the reference writes it -/
theorem BS.late {E Q : Nat → Prop} {L ρ wl r : Nat → Nat} {sn : NSt} {a b : Nat} (h : BS E (fun p => Q p ∨ p = a ∨ p = b) L ρ wl r sn) (ha : E a) (hl : L a = b) (a1 : a < 1016) (b1 : b < 1016) : BS E Q L ρ wl (aL r a b) sn ∧ (∀ p, xP (aL r a b) p ↔ xP r p) := by
  obtain ⟨⟨w, c, n, t⟩, e1, e2, e3, e4, e5⟩ := h
  have lo : ∀ j, j < 630 → aL r a b j = r j := fun j hj => aL_lo hj
  have xl : ∀ p, xP (aL r a b) p ↔ xP r p := fun p => xP_lo (fun j h1 h2 => lo j (by omega)) p
  have kl : ∀ m, m < 300 → Kr (aL r a b) m = Kr r m := fun m hm => lo _ (by omega)
  obtain ⟨g1, g2, g3⟩ := n.2.1.1 a ha
  rw [hl] at g1 g2 g3
  refine ⟨⟨⟨WM_lo lo w, CM_lo lo (by obtain ⟨⟨z0, z1, z2⟩, _⟩ := w; omega) c, ⟨n.1, n.2.1.cong (fun _ => Iff.rfl) (fun _ _ => rfl) (fun p _ h9 => kl _ (by omega)), fun m hm => by rw [kl m hm]; exact n.2.2 m hm⟩, t⟩, fun p hp h9 => (xl p).mpr (e1 p hp h9), fun p hp hQ => ?_, e3, e4, e5⟩, xl⟩
  have rka : ∀ q, q < 1100 → rk (aL r a b) wl q = lk2 (lk r) a b q := fun q hq => by unfold rk; rw [if_pos hq, lk_aL]
  by_cases pa : p = a
  · rw [pa, e3 a a1, rka a (by omega), lk2_a _ (Ne.symm g3), hl, e3 b b1]
  · by_cases pb : p = b
    · rw [pb, e3 b b1, rka b (by omega), lk2_b, g2, e3 a a1]
    · rw [← e2 p hp (by rintro (z | z | z); exact hQ z; exact pa z; exact pb z)]
      unfold rk
      by_cases q : ρ p < 1100
      · rw [if_pos q, if_pos q, lk_aL, lk2_o]
        · intro e; exact pa (e5 p a (by rw [e3 a a1]; exact e))
        · intro e; exact pb (e5 p b (by rw [e3 b b1]; exact e))
      · rw [if_neg q, if_neg q]
theorem BS.q {E Q Q' : Nat → Prop} {L ρ wl r : Nat → Nat} {sn : NSt} (h : BS E Q L ρ wl r sn) (hq : ∀ p, E p → Q p → Q' p) : BS E Q' L ρ wl r sn := by
  obtain ⟨e0, e1, e2, e3⟩ := h
  exact ⟨e0, e1, fun p hp z => e2 p hp (fun w => z (hq p hp w)), e3⟩
