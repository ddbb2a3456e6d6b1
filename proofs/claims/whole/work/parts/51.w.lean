/-! the class's way to reduce: what was outside waits at wires -/
theorem RT.mv {E : Nat → Prop} {L : Nat → Nat} {sn sn' : NSt} {a b : Nat} (h : RT E sn) (hl : E (L a)) (f : ∀ q, q ≠ L a → q ≠ b → na sn' 1 q = na sn 1 q) (hr : a < 1000 ∨ 1016 ≤ a) : RT (Er E a b) sn' := fun i hi hE => by
  have hq : ¬ E (1000 + i) := fun e => hE (Or.inl ⟨e, by omega⟩)
  rw [f _ (fun e => hq (by rw [e]; exact hl)) (fun e => hE (Or.inr e))]
  exact h i hi hq
theorem RN.cong {E E' : Nat → Prop} {L L' σ τ : Nat → Nat} (h : RN E L σ E' L') (hm : MT E L) (e : ∀ p, E p → τ p = σ p) : RN E L τ E' L' := by
  obtain ⟨h1, h2, h3⟩ := h
  refine ⟨fun p hp => ?_, fun q hq => ?_, fun p q hp hq z => ?_⟩
  · rw [e p hp, e _ (hm p hp).1]
    exact h1 p hp
  · obtain ⟨p, hp, rfl⟩ := h2 q hq
    exact ⟨p, hp, (e p hp).symm⟩
  · rw [e p hp, e q hq] at z
    exact h3 p q hp hq z
/-- one step: a renamed place, with all that goes along -/
theorem mv_ok {E0 E : Nat → Prop} {L0 L K σ : Nat → Nat} {sn : NSt} (hm : MT E0 L0) (hr : RN E0 L0 σ E L) (h : CN E L K sn) (ht : RT E sn) {a b : Nat} (ha : E a) (nha : ¬ hd a) (nra : a < 1000 ∨ 1016 ≤ a) (hb : ¬ E b) (bn : b < nl sn) (kb : b < 900 → 0 < K (b / 3)) :
    ∃ sn', n_move sn (nI a) (nI b) = some sn' ∧ SL sn sn' ∧ CN (Er E a b) (rl L a b) K sn' ∧ RT (Er E a b) sn' ∧ RN E0 L0 (sg σ a b) (Er E a b) (rl L a b) := by
  obtain ⟨sn', e, ⟨s, f⟩, c⟩ := n_move_ok h ha nha hb bn kb
  exact ⟨sn', e, s, c, ht.mv (h.2.1.1 a ha).1 f nra, hr.move hm ha hb⟩
theorem n_wires_ok {E0 E : Nat → Prop} {L0 L σ r : Nat → Nat} {sn : NSt} (hm : MT E0 L0) (hr : RN E0 L0 σ E L) (h : CN E L (Kr r) sn) (ht : RT E sn) {z w : Nat} (hz : z < 300) (hk : 0 < r (30 + z)) (hk3 : r (30 + z) ≤ 3) (hw : 1016 ≤ w) (wn : w + 1 < nl sn) (n1 : ¬ E w) (n2 : ¬ E (w + 1)) (e1 : 1 < r (30 + z) → E (3 * z + 1) ∧ E (3 * z + 2)) :
    ∃ sn' E' L' σ', n_moveToWires sn (nI z) (nI w) = some sn' ∧ SL sn sn' ∧ CN E' L' (Kr r) sn' ∧ RT E' sn' ∧ RN E0 L0 σ' E' L' ∧ (1 < r (30 + z) → ∀ p, σ' p = if σ p = 3 * z + 1 then w else if σ p = 3 * z + 2 then w + 1 else σ p) ∧ (r (30 + z) = 1 → σ' = σ) ∧ (∀ q, q ≠ w → q ≠ w + 1 → E' q → E q) := by
  unfold n_moveToWires
  have k0 : n_kindOf sn (nI z) = some (kI (r (30 + z))) := by
    unfold n_kindOf
    rw [if_neg (nI_pos (by omega)), if_neg (show ¬ (300 : Int32) ≤ nI z from nI_ge (b := 300) hz (by omega)), gd_nI hz (by omega), nc (by omega), (h.2.2 z hz).1]
    rfl
  rw [k0, bd_s, kI_p hk]
  by_cases q : r (30 + z) = 1
  · rw [q, if_pos (show nI (1 - 1) = 0 from rfl)]
    exact ⟨sn, E, L, σ, rfl, SL.rf sn, h, ht, hr, fun z => absurd z (by omega), fun _ => rfl, fun _ _ _ e => e⟩
  · rw [if_neg (show ¬ nI (r (30 + z) - 1) = 0 from nI_ne0 (by omega) (by omega)), i3, i1, i2, pk_mul, nI_add, nI_add, nI_add]
    obtain ⟨c1, c2⟩ := e1 (by omega)
    obtain ⟨s1, f1, f2, f3, f4, f5⟩ := mv_ok hm hr h ht c1 (fun e => by have := e.2; omega) (Or.inl (by omega)) n1 (by omega) (fun e => by omega)
    rw [f1, bd_s]
    have d1 : Er E (3 * z + 1) w (3 * z + 2) := Or.inl ⟨c2, by omega⟩
    have d2 : ¬ Er E (3 * z + 1) w (w + 1) := fun e => by
      rcases e with e | e
      · exact n2 e.1
      · omega
    obtain ⟨s2, g1, g2, g3, g4, g5⟩ := mv_ok hm f5 f3 f4 d1 (fun e => by have := e.2; omega) (Or.inl (by omega)) d2 (by rw [f2.gl]; omega) (fun e => by omega)
    rw [g1, bd_s]
    refine ⟨s2, _, _, _, rfl, f2.tr g2, g3, g4, g5, fun _ p => ?_, fun e => absurd e q, fun q h1 h2 e => ?_⟩
    · unfold sg
      by_cases a1 : σ p = 3 * z + 1
      · rw [if_pos a1, if_neg (show w ≠ 3 * z + 2 by omega), if_pos a1]
      · rw [if_neg a1, if_neg a1]
    · rcases e with ⟨e, _⟩ | e
      · rcases e with ⟨e, _⟩ | e
        · exact e
        · exact absurd e h1
      · exact absurd e h2
/-- the pair goes out of the pairs -/
theorem n_rem_ok {r : Nat → Nat} {sn : NSt} (h : NC r sn) (hv : NV r) {x y : Nat} (hx : x < 300) (hy : y < 300) (xy : x < y) (kx : 0 < r (30 + x)) (e : lk r (3 * x) = 3 * y) (e' : lk r (3 * y) = 3 * x) : ∃ ps, p_remove (np sn) (nI x) = some ps ∧ CN (Em (xP r) (3 * x) (3 * y)) (lk r) (Kr r) (nsP sn ps) := by
  obtain ⟨ps, ep, hp⟩ := p_remove_ok h.pb hx
  obtain ⟨hn, ⟨m1, m2, m3, m4⟩, m5⟩ := h.2.1
  have hE : xP r (3 * x) := (xP_hd hx).mpr kx
  have hd := m1.drop hE
  rw [e] at hd
  refine ⟨ps, ep, hn, ⟨hd, fun p hp => m2 p hp.1, fun p hp => m3 p hp.1, hp.cong (fun z hz => ?_) (fun z hz => ?_)⟩, m5⟩
  · unfold pS Em
    constructor
    · rintro ⟨⟨a, b, c, d, f⟩, g⟩
      refine ⟨a, ⟨b, by omega, fun z3 => ?_⟩, c, d, f⟩
      rw [z3, e'] at d
      omega
    · rintro ⟨a, b, c, d, f⟩
      exact ⟨⟨a, b.1, c, d, f⟩, fun zx => b.2.1 (by rw [zx])⟩
  · unfold pT Em
    constructor
    · rintro ⟨⟨a, b, c, d, f⟩, g⟩
      refine ⟨a, ⟨b, by omega, fun z3 => ?_⟩, c, d, f⟩
      rw [z3, e'] at d
      omega
    · rintro ⟨a, b, c, d, f⟩
      exact ⟨⟨a, b.1, c, d, f⟩, fun zx => b.2.1 (by rw [zx])⟩
/-- how the four places are named while they wait -/
def wg (x y p : Nat) : Nat := if p = 3 * x + 1 then 1016 else if p = 3 * x + 2 then 1017 else if p = 3 * y + 1 then 1018 else if p = 3 * y + 2 then 1019 else p
/-- the class's way up to where the two are freed -/
theorem n_free2_ok {r : Nat → Nat} {sn : NSt} (h : NC r sn) (hv : NV r) (hn : 1020 ≤ nl sn) {x y : Nat} (hx : x < 300) (hy : y < 300) (xy : x < y) (kx : 0 < r (30 + x)) (ky : 0 < r (30 + y)) (e : lk r (3 * x) = 3 * y) (e' : lk r (3 * y) = 3 * x) :
    ∃ s5 s6 s7 s8 s9 E1 L1, (p_remove (np sn) (nI x) = some s5 ∧ n_moveToWires (nsP sn s5) (nI x) 1016 = some s6 ∧ n_moveToWires s6 (nI y) 1018 = some s7 ∧ n_free s7 (nI x) = some s8 ∧ n_free s8 (nI y) = some s9) ∧ CM (fK (fK r x) y) s9 ∧ CN E1 L1 (Kr (fK (fK r x) y)) s9 ∧ RT E1 s9 ∧ RN (Em (xP r) (3 * x) (3 * y)) (lk r) (wg x y) E1 L1 ∧ MT (Em (xP r) (3 * x) (3 * y)) (lk r) ∧ (nl s9 = nl sn ∧ nh s9 = nh sn ∧ ni s9 14 = ni sn 14) := by
  obtain ⟨s5, p5, c5⟩ := n_rem_ok h hv hx hy xy kx e e'
  have t5 : RT (Em (xP r) (3 * x) (3 * y)) (nsP sn s5) := fun i hi hE => h.2.2.2 i hi (fun z => hE ⟨z, by omega, by omega⟩)
  have hm : MT (Em (xP r) (3 * x) (3 * y)) (lk r) := c5.2.1.1
  have hx3 := (hv.1.2.1 x hx).1
  have hy3 := (hv.1.2.1 y hy).1
  have out : ∀ q, 1016 ≤ q → ¬ Em (xP r) (3 * x) (3 * y) q := fun q hq z => by have := xP_lt z.1; omega
  obtain ⟨s6, E6, L6, σ6, a1, a2, a3, a4, a5, a6, a7, a8⟩ := n_wires_ok hm (RN.self _ _) c5 t5 hx kx hx3 (w := 1016) (by omega) (by show 1017 < nl sn; omega) (out _ (by omega)) (out _ (by omega)) (fun k1 => by
    constructor
    · exact ⟨Or.inl ⟨by omega, by rw [show (3 * x + 1) / 3 = x by omega]; omega, Or.inr (by rw [show (3 * x + 1) / 3 = x by omega]; exact k1)⟩, by omega, by omega⟩
    · exact ⟨Or.inl ⟨by omega, by rw [show (3 * x + 2) / 3 = x by omega]; omega, Or.inr (by rw [show (3 * x + 2) / 3 = x by omega]; exact k1)⟩, by omega, by omega⟩)
  have σ6id : ∀ p, Em (xP r) (3 * x) (3 * y) p → σ6 p = if p = 3 * x + 1 then 1016 else if p = 3 * x + 2 then 1017 else p := by
    intro p hp
    by_cases q : r (30 + x) = 1
    · rw [a7 q]
      have p1 : p ≠ 3 * x + 1 := fun z => by
        have := hp.1
        rw [z] at this
        unfold xP at this
        rw [show (3 * x + 1) / 3 = x by omega, q] at this
        omega
      have p2 : p ≠ 3 * x + 2 := fun z => by
        have := hp.1
        rw [z] at this
        unfold xP at this
        rw [show (3 * x + 2) / 3 = x by omega, q] at this
        omega
      rw [if_neg p1, if_neg p2]
    · rw [a6 (by omega)]
  have out6 : ∀ q, 1018 ≤ q → ¬ E6 q := fun q hq z => out q (by omega) (a8 q (by omega) (by omega) z)
  have in6 : ∀ p, Em (xP r) (3 * x) (3 * y) p → p ≠ 3 * x + 1 → p ≠ 3 * x + 2 → E6 p := fun p hp h1 h2 => by
    have := (a5.1 p hp).1
    rw [σ6id p hp, if_neg h1, if_neg h2] at this
    exact this
  obtain ⟨s7, E7, L7, σ7, b1, b2, b3, b4, b5, b6, b7, b8⟩ := n_wires_ok hm a5 a3 a4 hy ky hy3 (w := 1018) (by omega) (by rw [a2.gl]; show 1019 < nl sn; omega) (out6 _ (by omega)) (out6 _ (by omega)) (fun k1 => by
    constructor
    · exact in6 _ ⟨Or.inl ⟨by omega, by rw [show (3 * y + 1) / 3 = y by omega]; omega, Or.inr (by rw [show (3 * y + 1) / 3 = y by omega]; exact k1)⟩, by omega, by omega⟩ (by omega) (by omega)
    · exact in6 _ ⟨Or.inl ⟨by omega, by rw [show (3 * y + 2) / 3 = y by omega]; omega, Or.inr (by rw [show (3 * y + 2) / 3 = y by omega]; exact k1)⟩, by omega, by omega⟩ (by omega) (by omega))
  have σ7id : ∀ p, Em (xP r) (3 * x) (3 * y) p → wg x y p = σ7 p := by
    intro p hp
    have e6 := σ6id p hp
    have lt := xP_lt hp.1
    unfold wg
    by_cases q : r (30 + y) = 1
    · rw [b7 q, e6]
      have p1 : p ≠ 3 * y + 1 := fun z => by
        have := hp.1
        rw [z] at this
        unfold xP at this
        rw [show (3 * y + 1) / 3 = y by omega, q] at this
        omega
      have p2 : p ≠ 3 * y + 2 := fun z => by
        have := hp.1
        rw [z] at this
        unfold xP at this
        rw [show (3 * y + 2) / 3 = y by omega, q] at this
        omega
      rw [if_neg p1, if_neg p2]
    · rw [b6 (by omega), e6]
      by_cases w1 : p = 3 * x + 1
      · rw [if_pos w1, if_pos w1, if_neg (by omega), if_neg (by omega)]
      · rw [if_neg w1, if_neg w1]
        by_cases w2 : p = 3 * x + 2
        · rw [if_pos w2, if_pos w2, if_neg (by omega), if_neg (by omega)]
        · rw [if_neg w2, if_neg w2]
  have rn := b5.cong hm σ7id
  have cm7 : CM r s7 := ((h.1.sl (SL.P sn s5)).sl a2).sl b2
  obtain ⟨s8, f1, f2, f3⟩ := n_frees_ok cm7 hv.1 hx kx
  have w8 := fK_WM hv.1 hx kx
  have ky8 : 0 < fK r x (30 + y) := by rw [fK_k hx hy, if_neg (by omega)]; exact ky
  obtain ⟨s9, g1, g2, g3⟩ := n_frees_ok f2 w8 hy ky8
  have fars : ∀ p, E7 p → p < 900 → p / 3 ≠ x ∧ p / 3 ≠ y := by
    intro p hp h9
    obtain ⟨q, hq, rfl⟩ := rn.2.1 p hp
    have n1 := hq.2.1
    have n2 := hq.2.2
    unfold wg at h9 ⊢
    by_cases w1 : q = 3 * x + 1
    · rw [if_pos w1] at h9; omega
    · rw [if_neg w1] at h9 ⊢
      by_cases w2 : q = 3 * x + 2
      · rw [if_pos w2] at h9; omega
      · rw [if_neg w2] at h9 ⊢
        by_cases w3 : q = 3 * y + 1
        · rw [if_pos w3] at h9; omega
        · rw [if_neg w3] at h9 ⊢
          by_cases w4 : q = 3 * y + 2
          · rw [if_pos w4] at h9; omega
          · rw [if_neg w4]; omega
  have sk : SK s7 s9 := ⟨g3.1.trans f3.1, g3.2.1.trans f3.2.1, g3.2.2.1.trans f3.2.2.1, g3.2.2.2.1.trans f3.2.2.2.1, g3.2.2.2.2.trans f3.2.2.2.2⟩
  have w9 := fK_WM w8 hy ky8
  refine ⟨s5, s6, s7, s8, s9, E7, L7, ⟨p5, a1, b1, f1, g1⟩, g2, b3.sk sk (fun m hm => ⟨g2.2.2.2.1 m hm, (w9.2.1 m hm).1⟩) (fun p hp h9 => ?_), ?_, rn, hm, ?_, ?_, ?_⟩
  · obtain ⟨n1, n2⟩ := fars p hp h9
    unfold Kr
    rw [fK_k hy (by omega), if_neg n2, fK_k hx (by omega), if_neg n1]
  · intro i hi hE
    rw [sk.2.1]
    exact b4 i hi hE
  · rw [sk.1, b2.gl, a2.gl]; rfl
  · rw [sk.2.2.2.1, b2.gh, a2.gh]; rfl
  · rw [sk.2.2.2.2, b2.gi, a2.gi]; rfl
