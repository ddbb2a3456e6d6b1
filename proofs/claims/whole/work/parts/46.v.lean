/-! the net: what holds of the row, and between it and the class's net; pairs -/
def lk (r : Nat → Nat) (p : Nat) : Nat := r (630 + p)
def Kr (r : Nat → Nat) (m : Nat) : Nat := r (30 + m)
def xP (r : Nat → Nat) (p : Nat) : Prop := (p < 900 ∧ 0 < r (30 + p / 3) ∧ (p % 3 = 0 ∨ 1 < r (30 + p / 3))) ∨ (1000 ≤ p ∧ p < 1016 ∧ r (14 + (p - 1000)) = 1)
def WR (r : Nat → Nat) : Prop := r 6 ≤ 16 ∧ ∀ i, i < 16 → r (14 + i) ≤ 1 ∧ (r (14 + i) = 1 → i < r 6)
def NV (r : Nat → Nat) : Prop := WM r ∧ WR r ∧ MT (xP r) (lk r)
def NC (r : Nat → Nat) (sn : NSt) : Prop := CM r sn ∧ CN (xP r) (lk r) (Kr r) sn ∧ 1016 ≤ nl sn ∧ RT (xP r) sn
theorem xP_lt {r : Nat → Nat} {p : Nat} (h : xP r p) : p < 1016 := by
  rcases h with ⟨h, _⟩ | ⟨_, h, _⟩ <;> omega
theorem xP_hd {r : Nat → Nat} {x : Nat} (hx : x < 300) : xP r (3 * x) ↔ 0 < r (30 + x) := by
  unfold xP
  rw [show 3 * x / 3 = x by omega]
  constructor
  · rintro (⟨_, h, _⟩ | ⟨h, _⟩)
    · exact h
    · omega
  · intro h
    exact Or.inl ⟨by omega, h, Or.inl (by omega)⟩
theorem NV.lk3 {r : Nat → Nat} (h : NV r) {p : Nat} (hp : xP r p) : lk r p < 1016 := xP_lt (h.2.2 p hp).1
def iP (r : Nat → Nat) (x : Nat) : Bool := decide (x < 300 ∧ 0 < r (30 + x) ∧ (lk r (3 * x) < 900 ∧ lk r (3 * x) % 3 = 0) ∧ 3 * x < lk r (3 * x))
def ru (r : Nat → Nat) (x : Nat) : Nat := if r (30 + x) = r (30 + lk r (3 * x) / 3) then r (30 + x) - 1 else r (30 + x) + r (30 + lk r (3 * x) / 3)
def rd (r : Nat → Nat) (x : Nat) : Bool := iP r x && (decide (ru r x ≠ 5) || decide (r 1 + 2 ≤ r 0))
theorem iP_y {r : Nat → Nat} (h : NV r) {x : Nat} (hp : iP r x = true) : ∃ y, (x < 300 ∧ y < 300 ∧ x < y) ∧ (lk r (3 * x) = 3 * y ∧ lk r (3 * y) = 3 * x) ∧ (0 < r (30 + x) ∧ r (30 + x) ≤ 3) ∧ (0 < r (30 + y) ∧ r (30 + y) ≤ 3) := by
  obtain ⟨h1, h2, ⟨h3, h4⟩, h5⟩ := of_decide_eq_true hp
  obtain ⟨g1, g2, g3⟩ := h.2.2 (3 * x) ((xP_hd h1).mpr h2)
  have e : lk r (3 * x) = 3 * (lk r (3 * x) / 3) := by omega
  rw [e] at g1 g2
  have hy : lk r (3 * x) / 3 < 300 := by omega
  have k := (xP_hd hy).mp g1
  exact ⟨_, ⟨h1, hy, by omega⟩, ⟨e, g2⟩, ⟨h2, (h.1.2.1 x h1).1⟩, ⟨k, (h.1.2.1 _ hy).1⟩⟩
theorem ru_y {r : Nat → Nat} {x y : Nat} (e : lk r (3 * x) = 3 * y) : ru r x = if r (30 + x) = r (30 + y) then r (30 + x) - 1 else r (30 + x) + r (30 + y) := by
  unfold ru
  rw [e, show 3 * y / 3 = y by omega]
theorem ru_le {r : Nat → Nat} (h : NV r) {x : Nat} (hp : iP r x = true) : ru r x ≤ 5 := by
  obtain ⟨y, _, ⟨e, _⟩, ⟨a, b⟩, ⟨c, d⟩⟩ := iP_y h hp
  rw [ru_y e]
  split <;> omega
theorem ru_5 {r : Nat → Nat} (h : NV r) {x : Nat} (hp : iP r x = true) : ru r x = 5 ↔ r (30 + x) + r (30 + lk r (3 * x) / 3) = 5 := by
  obtain ⟨y, _, ⟨e, _⟩, ⟨a, b⟩, ⟨c, d⟩⟩ := iP_y h hp
  rw [ru_y e, e, show 3 * y / 3 = y by omega]
  split <;> omega
/-- the reference's sight of pairs -/
theorem m_facing_ok {st : OSt} {r : Nat → Nat} {x : Nat} (hx : x < 300) (hl : lk r (3 * x) < 2147483648) : m_facing (sR st r) (nI x) = some (if lk r (3 * x) < 1000 ∧ lk r (3 * x) % 3 = 0 then nI (lk r (3 * x) / 3) else mI) := by
  unfold lk at *
  unfold m_facing
  rw [i3, pk_mul, m_linkOf_ok (by omega), bd_s]
  by_cases q : r (630 + 3 * x) < 1000
  · rw [if_neg (show ¬ (1000 : Int32) ≤ nI (r (630 + 3 * x)) from nI_ge (b := 1000) q (by omega)), n_div hl (by omega) (by omega), pk_mul, n_sub (by omega), sub_dm]
    by_cases z : r (630 + 3 * x) % 3 = 0
    · rw [z, if_pos (show nI 0 = 0 from rfl), if_pos ⟨q, rfl⟩]
    · rw [if_neg (show ¬ nI (r (630 + 3 * x) % 3) = 0 from nI_ne0 (by omega) (by omega)), if_neg (fun h => z h.2)]
      rfl
  · rw [if_pos (show (1000 : Int32) ≤ nI (r (630 + 3 * x)) from nI_le (a := 1000) (by omega) hl), if_neg (fun h => q h.1)]
    rfl
theorem NV.face {r : Nat → Nat} (h : NV r) {x : Nat} (hx : x < 300) (hk : 0 < r (30 + x)) : (lk r (3 * x) < 1000 ∧ lk r (3 * x) % 3 = 0) ↔ (lk r (3 * x) < 900 ∧ lk r (3 * x) % 3 = 0) := by
  have g := (h.2.2 (3 * x) ((xP_hd hx).mpr hk)).1
  unfold xP at g
  omega
theorem m_isPair_ok {st : OSt} {r : Nat → Nat} (h : NV r) {x : Nat} (hx : x < 300) : m_isPair (sR st r) (nI x) = some (if iP r x then 1 else 0) := by
  unfold m_isPair
  rw [m_isNode_ok hx (h.1.2.1 x hx).1, bd_s]
  by_cases q : 0 < r (30 + x)
  · have hl := h.lk3 ((xP_hd hx).mpr q)
    have hf := h.face hx q
    rw [if_pos q, if_neg (by decide), m_facing_ok hx (by omega), bd_s]
    by_cases z : lk r (3 * x) < 1000 ∧ lk r (3 * x) % 3 = 0
    · rw [if_pos z]
      have z2 := hf.mp z
      by_cases w : 3 * x < lk r (3 * x)
      · rw [if_neg (nI_ge (show x < lk r (3 * x) / 3 by omega) (by omega)), show iP r x = true from decide_eq_true ⟨hx, q, z2, w⟩]
        rfl
      · rw [if_pos (nI_le (show lk r (3 * x) / 3 ≤ x by omega) (by omega)), show iP r x = false from decide_eq_false (fun e => w e.2.2.2)]
        rfl
    · rw [if_neg z, if_pos (show mI ≤ nI x by rw [m_le (by omega)]; trivial), show iP r x = false from decide_eq_false (fun e => z (hf.mpr e.2.2.1))]
      rfl
  · rw [if_neg q, if_pos rfl, show iP r x = false from decide_eq_false (fun e => q e.2.1)]
    rfl
theorem m_ruleOf_ok {st : OSt} {r : Nat → Nat} (h : NV r) {x : Nat} (hp : iP r x = true) : m_ruleOf (sR st r) (nI x) = some (nI (ru r x)) := by
  obtain ⟨y, ⟨x3, y3, xy⟩, ⟨e, _⟩, ⟨a, b⟩, ⟨c, d⟩⟩ := iP_y h hp
  unfold m_ruleOf
  rw [m_kindOf_ok x3 a, bd_s, m_facing_ok x3 (by omega), bd_s, if_pos (by omega), e, show 3 * y / 3 = y by omega, m_kindOf_ok y3 c, bd_s, ru_y e]
  by_cases q : r (30 + x) = r (30 + y)
  · rw [if_pos (by rw [q]), if_pos q]
  · rw [if_neg (by rw [nI_eq (by omega) (by omega)]; omega), if_neg q, nI_add]
    by_cases z : r (30 + x) - 1 + (r (30 + y) - 1) = 1
    · rw [z, if_pos (show nI 1 = 1 from rfl), i3]
      congr 2
      omega
    · rw [if_neg (show ¬ nI (r (30 + x) - 1 + (r (30 + y) - 1)) = 1 by rw [i1, nI_eq (by omega) (by omega)]; exact z)]
      by_cases w : r (30 + x) - 1 + (r (30 + y) - 1) = 2
      · rw [w, if_pos (show nI 2 = 2 from rfl), i4]
        congr 2
        omega
      · rw [if_neg (show ¬ nI (r (30 + x) - 1 + (r (30 + y) - 1)) = 2 by rw [i2, nI_eq (by omega) (by omega)]; exact w)]
        rw [show r (30 + x) + r (30 + y) = 5 by omega]
        rfl
theorem WM.le1 {r : Nat → Nat} (h : WM r) : r 0 ≤ 300 ∧ r 1 ≤ 300 := by
  obtain ⟨⟨h0, h1, h2⟩, -⟩ := h
  omega
theorem m_canReduce_ok {st : OSt} {r : Nat → Nat} (h : NV r) {x : Nat} (hp : iP r x = true) : m_canReduce (sR st r) (nI x) = some (if rd r x then 1 else 0) := by
  have h5 := ru_le h hp
  have h1 := h.1.le1
  unfold m_canReduce rd
  rw [m_ruleOf_ok h hp, bd_s, hp, Bool.true_and]
  by_cases q : ru r x = 5
  · rw [q, if_neg (by decide), i2, m_hasRoom_ok (by omega) h1.1 h1.2, bd_s]
    by_cases z : r 1 + 2 ≤ r 0
    · rw [if_pos z, if_neg (by decide)]
      simp [z]
    · rw [if_neg z, if_pos rfl]
      simp [z]
  · rw [if_pos (show nI (ru r x) < (5 : Int32) from nI_lt (b := 5) (by omega) (by omega))]
    simp [q]
theorem nI_a0 (n : Nat) : nI n + 0 = nI n := by rw [i0, nI_add, Nat.add_zero]
theorem nI_s0 (n : Nat) : nI n - 0 = nI n := by rw [i0, n_sub (Nat.zero_le _), Nat.sub_zero]
def uP (r : Nat → Nat) (a : Int32) : Nat → Bool := if a = 0 then iP r else rd r
theorem m_pairs_ok {st : OSt} {r : Nat → Nat} (h : NV r) (a : Int32) : m_pairs (sR st r) a = some (nI (fb_ct (uP r a) 300)) := by
  have key : ∀ (fuel x : Nat), x ≤ 300 → 300 - x < fuel → m_pairs_4 fuel (sR st r) a (nI (fb_ct (uP r a) x)) (nI x) = some (nI (fb_ct (uP r a) 300)) := by
    intro fuel
    induction fuel with
    | zero => intro x _ h; omega
    | succ n ih =>
      intro x hx hf
      rw [m_pairs_4]
      by_cases q : x = 300
      · subst q
        rw [if_pos (show (300 : Int32) ≤ nI 300 from nI_le (a := 300) (b := 300) (Nat.le_refl _) (by omega))]
      · have hc : fb_ct (uP r a) (x + 1) = fb_ct (uP r a) x + (if uP r a x then 1 else 0) := rfl
        have ihx := ih (x + 1) (by omega) (by omega)
        rw [if_neg (show ¬ (300 : Int32) ≤ nI x from nI_ge (b := 300) (by omega) (by omega)), m_isPair_ok h (by omega), bd_s, nI_1]
        cases hi : iP r x with
        | false =>
          rw [if_pos (by rfl), nI_a0]
          have : uP r a x = false := by
            unfold uP rd
            split
            · exact hi
            · simp [hi]
          rw [hc, this] at ihx
          exact ihx
        | true =>
          rw [if_neg (by decide)]
          by_cases z : a = 0
          · have : uP r a x = true := by unfold uP; rw [if_pos z]; exact hi
            rw [if_pos z, nI_1]
            rw [hc, this] at ihx
            exact ihx
          · have : uP r a x = rd r x := by unfold uP; rw [if_neg z]
            rw [if_neg z, m_canReduce_ok h hi, bd_s]
            rw [hc, this] at ihx
            cases hr : rd r x with
            | false =>
              rw [hr] at ihx
              rw [if_pos (by rfl), nI_a0]
              exact ihx
            | true =>
              rw [hr] at ihx
              rw [if_neg (by decide), nI_1]
              exact ihx
  unfold m_pairs
  rw [show m_pairs_4 20000 (sR st r) a 0 0 = some (nI (fb_ct (uP r a) 300)) from key 20000 0 (by omega) (by omega)]
  rfl
theorem m_chosen_56_ok {st : OSt} {r : Nat → Nat} (h : NV r) {k x : Nat} (hx : x < 300) (hr : rd r x = true) (hc : fb_ct (rd r) x = k) : ∀ (fuel z : Nat), z ≤ x → x - z < fuel → m_chosen_56 fuel (sR st r) (nI (k - fb_ct (rd r) z)) (nI z) = some (nI x) := by
  intro fuel
  induction fuel with
  | zero => intro z _ h; omega
  | succ n ih =>
    intro z hz hf
    rw [m_chosen_56]
    have hcz : fb_ct (rd r) (z + 1) = fb_ct (rd r) z + (if rd r z then 1 else 0) := rfl
    have hk300 : k ≤ 300 := by have := fb_ct_le (rd r) x; omega
    rw [m_isPair_ok h (by omega), bd_s]
    cases hi : iP r z with
    | false =>
      have hrz : rd r z = false := by unfold rd; simp [hi]
      have : z ≠ x := fun e => by rw [e, hr] at hrz; cases hrz
      have ihz := ih (z + 1) (by omega) (by omega)
      rw [hcz, hrz] at ihz
      rw [if_pos (by rfl), bd_s, if_pos (by rfl), nI_s0, nI_1]
      exact ihz
    | true =>
      rw [if_neg (by decide), m_canReduce_ok h hi, bd_s]
      cases hrz : rd r z with
      | false =>
        have : z ≠ x := fun e => by rw [e, hr] at hrz; cases hrz
        have ihz := ih (z + 1) (by omega) (by omega)
        rw [hcz, hrz] at ihz
        rw [if_pos (by rfl), bd_s, if_neg (by decide), bd_s, if_pos (by rfl), nI_s0, nI_1]
        exact ihz
      | true =>
        rw [if_neg (by decide)]
        by_cases q : z = x
        · subst q
          rw [hc, Nat.sub_self, if_pos (show nI 0 ≤ (0 : Int32) from nI_le (b := 0) (Nat.le_refl _) (by omega))]
        · have ihz := ih (z + 1) (by omega) (by omega)
          rw [hcz, hrz] at ihz
          have m1 := fb_ct_mono (rd r) (show z + 1 ≤ x by omega)
          rw [hcz, hrz, if_pos rfl, hc] at m1
          rw [if_neg (show ¬ nI (k - fb_ct (rd r) z) ≤ (0 : Int32) from nI_ge (a := 0) (by omega) (by omega)), bd_s, if_neg (by decide), bd_s, if_neg (by decide), i1, n_sub (by omega), nI_add, Nat.sub_sub]
          exact ihz
/-- the class's sight of pairs -/
theorem NC.pb {r : Nat → Nat} {sn : NSt} (h : NC r sn) : PB (np sn) (pS (xP r) (lk r) (Kr r)) (pT (xP r) (lk r) (Kr r)) := h.2.1.2.1.2.2.2
theorem NC.evy {r : Nat → Nat} {sn : NSt} (h : NC r sn) : PU (np sn) 1 (iP r) := by
  refine h.pb.evy (fun x hx => ?_) (by decide)
  unfold iP pS pT hd
  rw [decide_eq_true_iff]
  constructor
  · rintro ⟨a, b, c, d⟩
    by_cases q : Kr r x + Kr r (lk r (3 * x) / 3) = 5
    · exact Or.inr ⟨a, (xP_hd a).mpr b, c, d, q⟩
    · exact Or.inl ⟨a, (xP_hd a).mpr b, c, d, q⟩
  · rintro (⟨a, b, c, d, _⟩ | ⟨a, b, c, d, _⟩) <;> exact ⟨a, (xP_hd a).mp b, c, d⟩
theorem NC.rdy {r : Nat → Nat} {sn : NSt} (h : NC r sn) (hv : NV r) : PU (np sn) (if r 1 + 2 ≤ r 0 then 1 else 0) (rd r) := by
  by_cases q : r 1 + 2 ≤ r 0
  · rw [if_pos q]
    intro x hx
    rw [h.evy x hx]
    unfold rd
    simp [q]
  · rw [if_neg q]
    refine h.pb.std (fun x hx => ?_)
    unfold rd
    rw [Bool.and_eq_true, Bool.or_eq_true, decide_eq_true_iff, decide_eq_true_iff]
    constructor
    · rintro ⟨a, b⟩
      have b := b.resolve_right q
      have c := mt (ru_5 hv a).mpr b
      obtain ⟨d1, d2, d3, d4⟩ := of_decide_eq_true a
      exact ⟨d1, (xP_hd d1).mpr d2, d3, d4, c⟩
    · rintro ⟨a, b, c, d, e⟩
      have hp : iP r x = true := decide_eq_true ⟨a, (xP_hd a).mp b, c, d⟩
      exact ⟨hp, Or.inl (fun z => e ((ru_5 hv hp).mp z))⟩
theorem ct_320 {U : Nat → Bool} (h : ∀ x, 300 ≤ x → U x = false) : fb_ct U 320 = fb_ct U 300 := by
  rw [show 320 = 300 + 20 from rfl, fb_ct_split, fb_ct_zero.mpr (fun k _ => h (300 + k) (by omega)), Nat.add_zero]
theorem iP_out {r : Nat → Nat} {x : Nat} (h : 300 ≤ x) : iP r x = false := decide_eq_false (fun e => by omega)
theorem rd_out {r : Nat → Nat} {x : Nat} (h : 300 ≤ x) : rd r x = false := by unfold rd; rw [iP_out h]; rfl
theorem n_size_ok {r : Nat → Nat} {sn : NSt} (h : NC r sn) : p_size (np sn) 1 = some (nI (fb_ct (iP r) 300)) := by
  rw [p_size_ok h.evy, ct_320 (fun x hx => iP_out hx)]
theorem n_room_ok {r : Nat → Nat} {sn : NSt} (h : NC r sn) (hv : NV r) : n_hasRoom sn 2 = some (if r 1 + 2 ≤ r 0 then 1 else 0) := by
  have := hv.1.le1
  rw [i2, n_hasRoom_ok h.1 (by omega) this.1 this.2]
theorem n_readyPairs_ok {r : Nat → Nat} {sn : NSt} (h : NC r sn) (hv : NV r) : n_readyPairs sn = some (nI (fb_ct (rd r) 300)) := by
  unfold n_readyPairs
  rw [n_room_ok h hv, bd_s, p_size_ok (h.rdy hv), bd_s, ct_320 (fun x hx => rd_out hx)]
theorem n_kindOf_in {r : Nat → Nat} {sn : NSt} (h : CM r sn) {x : Nat} (hx : x < 300) : n_kindOf sn (nI x) = some (kI (r (30 + x))) := by
  unfold n_kindOf
  rw [if_neg (nI_pos (by omega)), if_neg (show ¬ (300 : Int32) ≤ nI x from nI_ge (b := 300) hx (by omega)), gd_nI hx (by omega), nc (by omega), h.2.2.2.1 x hx]
theorem n_partnerOf_ok {r : Nat → Nat} {sn : NSt} (h : NC r sn) (hv : NV r) {x y : Nat} (hx : x < 300) (hk : 0 < r (30 + x)) (hy : y < 300) (e : lk r (3 * x) = 3 * y) : n_partnerOf sn (nI x) = some (nI y) := by
  unfold n_partnerOf
  rw [i3, pk_mul, n_at_ok h.2.1 ((xP_hd hx).mpr hk), bd_s, e, n_isHead_ok (by omega), bd_s, if_pos (show 3 * y < 900 ∧ 3 * y % 3 = 0 by omega), if_neg (by decide), n_div (by omega) (by omega) (by omega), show 3 * y / 3 = y by omega]
theorem n_ruleOf_ok {r : Nat → Nat} {sn : NSt} (h : NC r sn) (hv : NV r) {x : Nat} (hp : iP r x = true) : n_ruleOf sn (nI x) = some (nI (ru r x)) := by
  obtain ⟨y, ⟨x3, y3, xy⟩, ⟨e, _⟩, ⟨a, b⟩, ⟨c, d⟩⟩ := iP_y hv hp
  unfold n_ruleOf
  rw [n_kindOf_in h.1 x3, bd_s, n_partnerOf_ok h hv x3 a y3 e, bd_s, n_kindOf_in h.1 y3, bd_s, kI_p a, kI_p c, ru_y e]
  by_cases q : r (30 + x) = r (30 + y)
  · rw [if_pos (by rw [q]), if_pos q]
  · rw [if_neg (by rw [nI_eq (by omega) (by omega)]; omega), if_neg q, nI_add, i2, nI_add]
    congr 2
    omega
theorem n_canGo_ok {r : Nat → Nat} {sn : NSt} (h : NC r sn) (hv : NV r) {x : Nat} (hp : iP r x = true) : n_canGo sn (nI x) = some (if rd r x then 1 else 0) := by
  have h5 := ru_le hv hp
  unfold n_canGo rd
  rw [n_ruleOf_ok h hv hp, bd_s, hp, Bool.true_and]
  by_cases q : ru r x = 5
  · rw [q, if_pos (show nI 5 = 5 from rfl), n_room_ok h hv, bd_s]
    by_cases z : r 1 + 2 ≤ r 0
    · rw [if_pos z, if_neg (by decide)]
      simp [z]
    · rw [if_neg z, if_pos rfl]
      simp [z]
  · rw [if_neg (show ¬ nI (ru r x) = 5 by rw [i5, nI_eq (by omega) (by omega)]; exact q)]
    simp [q]
