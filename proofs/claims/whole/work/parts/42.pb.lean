/-! the sets of pairs: add, remove, has, size, at -/
theorem low_form {n t : Nat} (h : n.testBit t = true) (hl : ∀ i, i < t → n.testBit i = false) : ∃ m, n = 2 ^ t * (2 * m + 1) := by
  have h1 : n % 2 ^ t = 0 := by
    apply Nat.eq_of_testBit_eq
    intro i
    rw [Nat.testBit_mod_two_pow, Nat.zero_testBit]
    by_cases q : i < t
    · rw [hl i q, Bool.and_false]
    · simp [q]
  have h2 : (n / 2 ^ t) % 2 = 1 := by
    have := Nat.testBit_div_two_pow (n := t) n 0
    rw [Nat.zero_add, h, Nat.testBit_zero] at this
    exact of_decide_eq_true this
  refine ⟨n / 2 ^ t / 2, ?_⟩
  have h3 := Nat.div_add_mod n (2 ^ t)
  have h4 : n / 2 ^ t = 2 * (n / 2 ^ t / 2) + 1 := by omega
  rw [← h4]
  omega
theorem low_clr {n t : Nat} (h : n.testBit t = true) (hl : ∀ i, i < t → n.testBit i = false) (i : Nat) : (n &&& (n - 1)).testBit i = (n.testBit i && decide (i ≠ t)) := by
  obtain ⟨m, e⟩ := low_form h hl
  have hP : 0 < 2 ^ t := Nat.two_pow_pos t
  have e1 : n - 1 = 2 ^ t * (2 * m) + (2 ^ t - 1) := by
    rw [e, Nat.mul_add, Nat.mul_one]
    omega
  have e2 : n = 2 ^ t * (2 * m + 1) + 0 := by rw [e]; rfl
  rw [Nat.testBit_and, e1, Nat.testBit_two_pow_mul_add _ (by omega : 2 ^ t - 1 < 2 ^ t)]
  by_cases q : i < t
  · rw [hl i q]; simp
  · rw [if_neg q]
    have e3 : n.testBit i = (2 * m + 1).testBit (i - t) := by
      rw [e2, Nat.testBit_two_pow_mul_add _ hP, if_neg q]
    rw [e3]
    by_cases z : i = t
    · subst z
      rw [Nat.sub_self, Nat.testBit_zero, Nat.testBit_zero]
      simp
    · obtain ⟨k, hk⟩ : ∃ k, i - t = k + 1 := ⟨i - t - 1, by omega⟩
      rw [hk, Nat.testBit_succ, Nat.testBit_succ, show (2 * m + 1) / 2 = m by omega, show 2 * m / 2 = m by omega]
      simp [z]
theorem low_lt {n t : Nat} (h : n.testBit t = true) (hn : n < 2 ^ 64) : t < 64 := by
  refine Classical.byContradiction fun q => ?_
  have := Nat.testBit_lt_two_pow (Nat.lt_of_lt_of_le hn (Nat.pow_le_pow_right (by decide) (by omega : 64 ≤ t)))
  rw [h] at this
  cases this
theorem lN_bit {n : Nat} (hn : n < 2 ^ 64) (i : Nat) : (lN n).toBitVec.getLsbD i = n.testBit i := by
  show (lN n).toBitVec.toNat.testBit i = _
  rw [wb_tn hn]
theorem low_iso {n t : Nat} (hn : n < 2 ^ 64) (h : n.testBit t = true) (hl : ∀ i, i < t → n.testBit i = false) : lN n &&& -(lN n) = lN (2 ^ t) := by
  have ht := low_lt h hn
  have hp : 2 ^ t < 2 ^ 64 := Nat.pow_lt_pow_right (by decide) ht
  apply wb_inj
  apply BitVec.eq_of_getLsbD_eq
  intro i hi
  rw [lN_bit hp, Nat.testBit_two_pow, Int64.toBitVec_and, BitVec.getLsbD_and, Int64.toBitVec_neg, BitVec.getLsbD_neg, lN_bit hn]
  rcases Nat.lt_trichotomy i t with q | q | q
  · rw [hl i q, Bool.false_and]
    exact (decide_eq_false (by omega)).symm
  · subst q
    rw [h, Bool.true_and]
    have : decide (∃ j, j < i ∧ (lN n).toBitVec.getLsbD j = true) = false := decide_eq_false (by
      rintro ⟨j, hj, e⟩
      rw [lN_bit hn, hl j hj] at e
      cases e)
    rw [this]
    simp
  · have : decide (∃ j, j < i ∧ (lN n).toBitVec.getLsbD j = true) = true := decide_eq_true ⟨t, q, by rw [lN_bit hn]; exact h⟩
    rw [this]
    have : decide (t = i) = false := decide_eq_false (by omega)
    rw [this]
    cases n.testBit i <;> simp [hi]
theorem ct_below {t : Nat} (h : t ≤ 64) : fb_ct (fun i => decide (i < t)) 64 = t := by
  have e : 64 = t + (64 - t) := by omega
  rw [e, fb_ct_split]
  have a : fb_ct (fun i => decide (i < t)) t = t := fb_ct_all.mpr (fun k hk => decide_eq_true hk)
  have b : fb_ct (fun k => decide (t + k < t)) (64 - t) = 0 := fb_ct_zero.mpr (fun k _ => decide_eq_false (by omega))
  rw [a, b]
  rfl
theorem placeLoop {b : Nat → Bool} {k : Nat} (hk : k < fb_ct b 64) : ∀ (fuel j : Nat) (rest : Int64), j ≤ k → k - j < fuel → (∀ i, i < 64 → rest.toBitVec.getLsbD i = (b i && decide (j ≤ fb_ct b i))) → ∃ rest', p_placeOfBit_5 fuel (nI k) rest (nI j) = some rest' ∧ ∀ i, i < 64 → rest'.toBitVec.getLsbD i = (b i && decide (k ≤ fb_ct b i)) := by
  have hk64 : k < 64 := Nat.lt_of_lt_of_le hk (fb_ct_le _ _)
  intro fuel
  induction fuel with
  | zero => intro j rest _ h; omega
  | succ n ih =>
    intro j rest hj hf hb
    rw [p_placeOfBit_5]
    by_cases q : k ≤ j
    · have : j = k := by omega
      subst this
      rw [if_pos (nI_le (Nat.le_refl _) (by omega))]
      exact ⟨rest, rfl, hb⟩
    · rw [if_neg (nI_ge (by omega) (by omega)), nI_1]
      refine ih (j + 1) _ (by omega) (by omega) ?_
      intro i hi
      obtain ⟨t, ht, bt, ct⟩ := fb_ct_kth (p := b) (k := j) (n := 64) (by omega)
      obtain ⟨m, hm, rfl⟩ := wb_of rest
      have hbm : ∀ i, i < 64 → m.testBit i = (b i && decide (j ≤ fb_ct b i)) := fun i hi => by rw [← lN_bit hm]; exact hb i hi
      have h1 : m.testBit t = true := by rw [hbm t ht, bt, ct]; simp
      have h2 : ∀ i, i < t → m.testBit i = false := by
        intro i hi
        rw [hbm i (by omega)]
        cases hbi : b i with
        | false => rfl
        | true =>
          have a1 : fb_ct b (i + 1) = fb_ct b i + 1 := by rw [fb_ct_succ, hbi]; rfl
          have a2 := fb_ct_mono b (show i + 1 ≤ t by omega)
          rw [Bool.true_and]
          exact decide_eq_false (by omega)
      have hm1 : 1 ≤ m := by
        rcases Nat.eq_zero_or_pos m with z | z
        · subst z; rw [Nat.zero_testBit] at h1; cases h1
        · exact z
      rw [show (1 : Int64) = lN 1 from rfl, lN_sub hm1, wb_and hm (by omega), lN_bit (Nat.lt_of_le_of_lt Nat.and_le_left hm), low_clr h1 h2, hbm i hi]
      cases hbi : b i with
      | false => simp
      | true =>
        rw [Bool.true_and, Bool.true_and]
        by_cases z : i = t
        · subst z
          rw [ct]
          simp
        · have : fb_ct b i ≠ j := fun e => z (fb_ct_kth_one hbi bt (e.trans ct.symm))
          simp only [z, ne_eq, not_false_eq_true, decide_true, Bool.and_true]
          exact decide_eq_decide.mpr (by omega)
theorem p_placeOfBit_ok {w : Int64} {b : Nat → Bool} (hb : ∀ i, i < 64 → w.toBitVec.getLsbD i = b i) {k : Nat} (hk : k < fb_ct b 64) : ∃ t, t < 64 ∧ b t = true ∧ fb_ct b t = k ∧ p_placeOfBit w (nI k) = some (nI t) := by
  have hk64 : k < 64 := Nat.lt_of_lt_of_le hk (fb_ct_le _ _)
  obtain ⟨rest, e, hr⟩ := placeLoop hk 20000 0 w (Nat.zero_le _) (by omega) (fun i hi => by rw [hb i hi]; simp)
  obtain ⟨t, ht, bt, ct⟩ := fb_ct_kth hk
  refine ⟨t, ht, bt, ct, ?_⟩
  unfold p_placeOfBit
  rw [show (0 : Int32) = nI 0 from rfl, e, bd_s]
  obtain ⟨m, hm, rfl⟩ := wb_of rest
  have hbm : ∀ i, i < 64 → m.testBit i = (b i && decide (k ≤ fb_ct b i)) := fun i hi => by rw [← lN_bit hm]; exact hr i hi
  have h1 : m.testBit t = true := by rw [hbm t ht, bt, ct]; simp
  have h2 : ∀ i, i < t → m.testBit i = false := by
    intro i hi
    rw [hbm i (by omega)]
    cases hbi : b i with
    | false => rfl
    | true =>
      have a1 : fb_ct b (i + 1) = fb_ct b i + 1 := by rw [fb_ct_succ, hbi]; rfl
      have a2 := fb_ct_mono b (show i + 1 ≤ t by omega)
      rw [Bool.true_and]
      exact decide_eq_false (by omega)
  have hp : 2 ^ t < 2 ^ 64 := Nat.pow_lt_pow_right (by decide) ht
  have hP : 0 < 2 ^ t := Nat.two_pow_pos t
  rw [low_iso hm h1 h2, show (1 : Int64) = lN 1 from rfl, lN_sub hP, j_bitCount_ok, bd_s]
  have : fb_ct (fun i => (lN (2 ^ t - 1)).toBitVec.getLsbD i) 64 = t := by
    refine (fb_ct_cong (q := fun i => decide (i < t)) (fun i _ => ?_)).trans (ct_below (Nat.le_of_lt ht))
    rw [lN_bit (by omega), Nat.testBit_two_pow_sub_one]
  rw [this]
/-- the two sets -/
def PB (ps : PSt) (S T : Nat → Prop) : Prop := ∀ x, x < 320 → (((ps.1 (x / 64)).toBitVec.getLsbD (x % 64) = true) ↔ S x) ∧ (((ps.2 (x / 64)).toBitVec.getLsbD (x % 64) = true) ↔ T x)
theorem PB.cong {ps : PSt} {S T S' T' : Nat → Prop} (h : PB ps S T) (hs : ∀ x, x < 320 → (S x ↔ S' x)) (ht : ∀ x, x < 320 → (T x ↔ T' x)) : PB ps S' T' := fun x hx => ⟨(h x hx).1.trans (hs x hx), (h x hx).2.trans (ht x hx)⟩
theorem p_ix {x : Nat} (h : x < 320) : nI x >>> ((6 : Int32) &&& 31) = nI (x / 64) := pk_shrN (by omega) _ 6 (by decide)
theorem p_lo {x : Nat} (h : x < 320) : nI x &&& (63 : Int32) = nI (x % 64) := pk_andN (by omega) 6 (by decide)
theorem p_bit : ∀ k, k < 64 → ((1 : Int64) <<< ((nI k).toInt64 &&& 63)).toBitVec = BitVec.twoPow 64 k := by decide +kernel
theorem pb_set {f : Nat → Int64} {S : Nat → Prop} (h : ∀ y, y < 320 → ((f (y / 64)).toBitVec.getLsbD (y % 64) = true ↔ S y)) {x : Nat} {b : Int64} (hb : b.toBitVec = BitVec.twoPow 64 (x % 64)) : ∀ y, y < 320 → ((vp_updL f (x / 64) (f (x / 64) ||| b) (y / 64)).toBitVec.getLsbD (y % 64) = true ↔ (S y ∨ y = x)) := by
  intro y hy
  have h1 := h y hy
  unfold vp_updL
  by_cases q : y / 64 = x / 64
  · rw [if_pos q, ← q, Int64.toBitVec_or, BitVec.getLsbD_or, hb, BitVec.getLsbD_twoPow, Bool.or_eq_true, h1, Bool.and_eq_true, decide_eq_true_iff, decide_eq_true_iff]
    constructor
    · rintro (z | ⟨_, z⟩)
      · exact Or.inl z
      · exact Or.inr (by omega)
    · rintro (z | z)
      · exact Or.inl z
      · exact Or.inr ⟨by omega, by omega⟩
  · rw [if_neg q, h1]
    exact ⟨Or.inl, fun z => z.elim id (fun z => absurd (by rw [z]) q)⟩
theorem pb_clr {f : Nat → Int64} {S : Nat → Prop} (h : ∀ y, y < 320 → ((f (y / 64)).toBitVec.getLsbD (y % 64) = true ↔ S y)) {x : Nat} {b : Int64} (hb : b.toBitVec = BitVec.twoPow 64 (x % 64)) : ∀ y, y < 320 → ((vp_updL f (x / 64) (f (x / 64) &&& (b ^^^ (-1))) (y / 64)).toBitVec.getLsbD (y % 64) = true ↔ (S y ∧ y ≠ x)) := by
  intro y hy
  have h1 := h y hy
  have ha : (-1 : Int64).toBitVec = BitVec.allOnes 64 := by decide
  unfold vp_updL
  by_cases q : y / 64 = x / 64
  · rw [if_pos q, ← q, Int64.toBitVec_and, Int64.toBitVec_xor, BitVec.getLsbD_and, BitVec.getLsbD_xor, hb, ha, BitVec.getLsbD_twoPow, BitVec.getLsbD_allOnes, Bool.and_eq_true, h1]
    by_cases z : y = x
    · subst z
      simp [Nat.mod_lt]
    · have : ¬ x % 64 = y % 64 := by omega
      simp [this, z, Nat.mod_lt]
  · rw [if_neg q, h1]
    exact ⟨fun z => ⟨z, fun e => q (by rw [e])⟩, fun z => z.1⟩
theorem p_add_0 {ps : PSt} {S T : Nat → Prop} (h : PB ps S T) {x : Nat} (hx : x < 300) : ∃ ps', p_add ps (nI x) 0 = some ps' ∧ PB ps' (fun y => S y ∨ y = x) T := by
  have e : p_add ps (nI x) 0 = some (vp_updL ps.1 (x / 64) (ps.1 (x / 64) ||| ((1 : Int64) <<< ((nI (x % 64)).toInt64 &&& 63))), ps.2) := by
    unfold p_add
    rw [if_neg (nI_pos (by omega)), if_pos (show nI x < (300 : Int32) from nI_lt (b := 300) hx (by omega)), nm_eq, if_pos rfl, p_ix (by omega), p_lo (by omega), nc (by omega), gd_nI (by omega) (by omega), gd_nI (by omega) (by omega)]
    rfl
  refine ⟨_, e, ?_⟩
  have h1 := pb_set (fun y hy => (h y hy).1) (p_bit (x % 64) (Nat.mod_lt _ (by decide)))
  exact fun y hy => ⟨h1 y hy, (h y hy).2⟩
theorem p_add_1 {ps : PSt} {S T : Nat → Prop} (h : PB ps S T) {x : Nat} (hx : x < 300) : ∃ ps', p_add ps (nI x) 1 = some ps' ∧ PB ps' S (fun y => T y ∨ y = x) := by
  have e : p_add ps (nI x) 1 = some (ps.1, vp_updL ps.2 (x / 64) (ps.2 (x / 64) ||| ((1 : Int64) <<< ((nI (x % 64)).toInt64 &&& 63)))) := by
    unfold p_add
    rw [if_neg (nI_pos (by omega)), if_pos (show nI x < (300 : Int32) from nI_lt (b := 300) hx (by omega)), nm_eq, if_neg (by decide), p_ix (by omega), p_lo (by omega), nc (by omega), gd_nI (by omega) (by omega), gd_nI (by omega) (by omega)]
    rfl
  refine ⟨_, e, ?_⟩
  have h1 := pb_set (fun y hy => (h y hy).2) (p_bit (x % 64) (Nat.mod_lt _ (by decide)))
  exact fun y hy => ⟨(h y hy).1, h1 y hy⟩
theorem p_remove_ok {ps : PSt} {S T : Nat → Prop} (h : PB ps S T) {x : Nat} (hx : x < 300) : ∃ ps', p_remove ps (nI x) = some ps' ∧ PB ps' (fun y => S y ∧ y ≠ x) (fun y => T y ∧ y ≠ x) := by
  have e : p_remove ps (nI x) = some (vp_updL ps.1 (x / 64) (ps.1 (x / 64) &&& (((1 : Int64) <<< ((nI (x % 64)).toInt64 &&& 63)) ^^^ (-1))), vp_updL ps.2 (x / 64) (ps.2 (x / 64) &&& (((1 : Int64) <<< ((nI (x % 64)).toInt64 &&& 63)) ^^^ (-1)))) := by
    unfold p_remove
    simp only [nm_eq]
    rw [if_neg (nI_pos (by omega)), if_pos (show nI x < (300 : Int32) from nI_lt (b := 300) hx (by omega)), p_ix (by omega), p_lo (by omega), nc (by omega), gd_nI (by omega) (by omega), gd_nI (by omega) (by omega), gd_nI (by omega) (by omega), gd_nI (by omega) (by omega)]
  refine ⟨_, e, ?_⟩
  have h1 := pb_clr (fun y hy => (h y hy).1) (p_bit (x % 64) (Nat.mod_lt _ (by decide)))
  have h2 := pb_clr (fun y hy => (h y hy).2) (p_bit (x % 64) (Nat.mod_lt _ (by decide)))
  exact fun y hy => ⟨h1 y hy, h2 y hy⟩
/-- one word, of all or of the steady alone -/
def pw (ps : PSt) (a : Int32) (j : Nat) : Int64 := if a = 0 then ps.1 j else ps.1 j ||| ps.2 j
theorem p_word_ok (ps : PSt) (a : Int32) {j : Nat} (hj : j < 5) : p_word ps (nI j) a = some (pw ps a j) := by
  unfold p_word pw
  rw [gd_nI hj (by omega), gd_nI hj (by omega), gd_nI hj (by omega), nc (by omega)]
  split <;> rfl
/-- which numbers are in it -/
def PU (ps : PSt) (a : Int32) (U : Nat → Bool) : Prop := ∀ x, x < 320 → (pw ps a (x / 64)).toBitVec.getLsbD (x % 64) = U x
theorem PB.evy {ps : PSt} {S T : Nat → Prop} {U : Nat → Bool} (h : PB ps S T) (hU : ∀ x, x < 320 → (U x = true ↔ S x ∨ T x)) {a : Int32} (ha : a ≠ 0) : PU ps a U := by
  intro x hx
  have h1 := h x hx
  unfold pw
  rw [if_neg ha, Int64.toBitVec_or, BitVec.getLsbD_or, Bool.eq_iff_iff, Bool.or_eq_true, h1.1, h1.2, hU x hx]
theorem PB.std {ps : PSt} {S T : Nat → Prop} {U : Nat → Bool} (h : PB ps S T) (hU : ∀ x, x < 320 → (U x = true ↔ S x)) : PU ps 0 U := by
  intro x hx
  have h1 := h x hx
  unfold pw
  rw [if_pos rfl, Bool.eq_iff_iff, h1.1, hU x hx]
theorem PU.word {ps : PSt} {a : Int32} {U : Nat → Bool} (h : PU ps a U) {j : Nat} (hj : j < 5) : ∀ i, i < 64 → (pw ps a j).toBitVec.getLsbD i = U (64 * j + i) := by
  intro i hi
  have := h (64 * j + i) (by omega)
  rw [show (64 * j + i) / 64 = j by omega, show (64 * j + i) % 64 = i by omega] at this
  exact this
theorem p_has_ok {ps : PSt} {U : Nat → Bool} (h : PU ps 1 U) {x : Nat} (hx : x < 300) : p_has ps (nI x) = some (if U x then 1 else 0) := by
  have hs : ((nI (x % 64)).toInt64.toUInt64 &&& Int64.toUInt64 63).toNat = x % 64 := by
    rw [wb_cu _ (Nat.mod_lt _ (by decide))]
    show (BitVec.ofNat 64 _).toNat = _
    rw [BitVec.toNat_ofNat]
    have := Nat.mod_lt x (show 0 < 64 by decide)
    omega
  have hb := ts_bit (w := pw ps 1 (x / 64)) (Nat.mod_lt x (show 0 < 64 by decide)) hs
  have hc : ∀ z : Int64, (lg_cmp z 0 = 0) = (z = 0) := by
    intro z
    unfold lg_cmp
    by_cases q : z > 0
    · rw [if_pos q]
      apply propext
      constructor
      · intro h; exact absurd h (by decide)
      · intro h; subst h; exact absurd q (by decide)
    · rw [if_neg q]
      by_cases p : z = 0
      · simp [p]
      · rw [if_neg p]
        apply propext
        exact ⟨fun h => absurd h (by decide), fun h => absurd h p⟩
  rw [h x (by omega)] at hb
  unfold p_has
  rw [if_neg (nI_pos (by omega)), if_neg (show ¬ (300 : Int32) ≤ nI x from nI_ge (b := 300) hx (by omega)), p_ix (by omega), p_lo (by omega), p_word_ok ps 1 (by omega), bd_s]
  cases hu : U x with
  | true => rw [if_neg (fun e => by rw [hc, hb] at e; rw [hu] at e; cases e)]; rfl
  | false => rw [if_pos (by rw [hc]; exact hb.mpr hu)]; rfl
theorem p_has_out {ps : PSt} {x : Int32} (h : x < 0 ∨ 300 ≤ x) : p_has ps x = some 0 := by
  unfold p_has
  by_cases q : x < 0
  · rw [if_pos q]
  · rw [if_neg q, if_pos (h.resolve_left q)]
theorem p_size_ok {ps : PSt} {a : Int32} {U : Nat → Bool} (h : PU ps a U) : p_size ps a = some (nI (fb_ct U 320)) := by
  have key : ∀ (fuel j : Nat), j ≤ 5 → 5 - j < fuel → p_size_4 fuel ps a (nI (fb_ct U (64 * j))) (nI j) = some (nI (fb_ct U 320)) := by
    intro fuel
    induction fuel with
    | zero => intro j _ h; omega
    | succ n ih =>
      intro j hj hf
      rw [p_size_4]
      by_cases q : j = 5
      · subst q
        rw [if_pos (show (5 : Int32) ≤ nI 5 from nI_le (a := 5) (b := 5) (Nat.le_refl _) (by omega))]
      · rw [if_neg (show ¬ (5 : Int32) ≤ nI j from nI_ge (b := 5) (by omega) (by omega)), p_word_ok ps a (by omega), bd_s, j_bitCount_ok, bd_s, nI_1, nI_add]
        have e : fb_ct U (64 * j) + fb_ct (fun i => (pw ps a j).toBitVec.getLsbD i) 64 = fb_ct U (64 * (j + 1)) := by
          rw [show 64 * (j + 1) = 64 * j + 64 by omega, fb_ct_split]
          congr 1
          exact fb_ct_cong (h.word (by omega))
        rw [e]
        exact ih (j + 1) (by omega) (by omega)
  unfold p_size
  rw [show p_size_4 20000 ps a 0 0 = some (nI (fb_ct U 320)) from key 20000 0 (by omega) (by omega)]
  rfl
theorem p_at_neg {ps : PSt} {a k : Int32} (h : k < 0) : p_at ps k a = some mI := by
  unfold p_at
  rw [show (20000 : Nat) = 19999 + 1 from rfl, p_at_5, if_neg (by decide), if_pos h]
  rfl
theorem p_at_ok {ps : PSt} {a : Int32} {U : Nat → Bool} (h : PU ps a U) {k : Nat} (hk : k < 2147483648) : (fb_ct U 320 ≤ k ∧ p_at ps (nI k) a = some mI) ∨ ∃ x, x < 320 ∧ U x = true ∧ fb_ct U x = k ∧ p_at ps (nI k) a = some (nI x) := by
  have key : ∀ (fuel j : Nat), j ≤ 5 → 5 - j < fuel → fb_ct U (64 * j) ≤ k → (fb_ct U 320 ≤ k ∧ p_at_5 fuel ps a (nI (k - fb_ct U (64 * j))) (nI j) = some mI) ∨ ∃ x, x < 320 ∧ U x = true ∧ fb_ct U x = k ∧ p_at_5 fuel ps a (nI (k - fb_ct U (64 * j))) (nI j) = some (nI x) := by
    intro fuel
    induction fuel with
    | zero => intro j _ h; omega
    | succ n ih =>
      intro j hj hf hc
      rw [p_at_5]
      by_cases q : j = 5
      · subst q
        rw [if_pos (show (5 : Int32) ≤ nI 5 from nI_le (a := 5) (b := 5) (Nat.le_refl _) (by omega))]
        exact Or.inl ⟨hc, rfl⟩
      · have e : fb_ct U (64 * (j + 1)) = fb_ct U (64 * j) + fb_ct (fun i => (pw ps a j).toBitVec.getLsbD i) 64 := by
          rw [show 64 * (j + 1) = 64 * j + 64 by omega, fb_ct_split]
          congr 1
          exact (fb_ct_cong (h.word (by omega))).symm
        have hle := fb_ct_le (fun i => (pw ps a j).toBitVec.getLsbD i) 64
        rw [if_neg (show ¬ (5 : Int32) ≤ nI j from nI_ge (b := 5) (by omega) (by omega)), if_neg (nI_pos (by omega)), p_word_ok ps a (by omega), bd_s, j_bitCount_ok, bd_s]
        by_cases z : fb_ct (fun i => (pw ps a j).toBitVec.getLsbD i) 64 ≤ k - fb_ct U (64 * j)
        · rw [if_pos (nI_le z (by omega)), n_sub z, nI_1, Nat.sub_sub, ← e]
          exact ih (j + 1) (by omega) (by omega) (by omega)
        · rw [if_neg (nI_ge (by omega) (by omega))]
          have hh : fb_ct (fun i => (pw ps a j).toBitVec.getLsbD i) 64 = fb_ct (fun i => U (64 * j + i)) 64 := fb_ct_cong (h.word (j := j) (by omega))
          obtain ⟨t, ht, bt, ct, et⟩ := p_placeOfBit_ok (h.word (j := j) (by omega)) (k := k - fb_ct U (64 * j)) (by omega)
          rw [et, bd_s, i64, pk_mul, nI_add]
          refine Or.inr ⟨64 * j + t, by omega, bt, ?_, rfl⟩
          rw [fb_ct_split, ct]
          omega
  have := key 20000 0 (by omega) (by omega) (Nat.zero_le _)
  rw [show fb_ct U (64 * 0) = 0 from rfl, Nat.sub_zero] at this
  exact this
theorem p_clear_ok (ps : PSt) : ∃ ps', p_clear ps = some ps' ∧ PB ps' (fun _ => False) (fun _ => False) := by
  have key : ∀ (fuel j : Nat) (f : Nat → Int64), j ≤ 5 → 5 - j < fuel → (∀ i, i < j → f i = 0) → ∃ g, j_fill_d0_6 fuel 5 f 0 (nI j) (nI 5) = some g ∧ ∀ i, i < 5 → g i = 0 := by
    intro fuel
    induction fuel with
    | zero => intro j f _ h; omega
    | succ n ih =>
      intro j f hj hf h0
      rw [j_fill_d0_6]
      by_cases q : j = 5
      · subst q
        rw [if_pos (nI_le (Nat.le_refl _) (by omega))]
        exact ⟨f, rfl, h0⟩
      · rw [if_neg (nI_ge (by omega) (by omega)), gd_nI (by omega) (by omega), nm_eq, nI_1, nc (by omega)]
        refine ih (j + 1) _ (by omega) (by omega) ?_
        intro i hi
        unfold vp_updL
        by_cases z : i = j
        · rw [if_pos z]
        · rw [if_neg z]
          exact h0 i (by omega)
  have fill : ∀ f : Nat → Int64, ∃ g, j_fill_d0 5 f 0 = some g ∧ ∀ i, i < 5 → g i = 0 := by
    intro f
    obtain ⟨g, e, hg⟩ := key 20000 0 f (by omega) (by omega) (fun i hi => absurd hi (Nat.not_lt_zero _))
    refine ⟨g, ?_, hg⟩
    unfold j_fill_d0
    rw [show (0 : Int32) = nI 0 from rfl, e]
    rfl
  obtain ⟨g1, e1, h1⟩ := fill ps.1
  obtain ⟨g2, e2, h2⟩ := fill ps.2
  refine ⟨(g1, g2), ?_, ?_⟩
  · unfold p_clear
    rw [e1, bd_s]
    show bd (j_fill_d0 5 ps.2 0) _ = _
    rw [e2, bd_s]
  · intro x hx
    show ((g1 (x / 64)).toBitVec.getLsbD (x % 64) = true ↔ False) ∧ ((g2 (x / 64)).toBitVec.getLsbD (x % 64) = true ↔ False)
    rw [h1 _ (by omega), h2 _ (by omega)]
    simp
theorem p_become_ok (ps qs : PSt) : ∃ ps', p_become ps qs = some ps' ∧ ∀ {S T : Nat → Prop}, PB qs S T → PB ps' S T := by
  refine ⟨_, rfl, ?_⟩
  intro S T h x hx
  have h1 := h x hx
  show ((va_cpy qs.1 ps.1 0 0 5 (x / 64)).toBitVec.getLsbD (x % 64) = true ↔ S x) ∧ ((va_cpy qs.2 ps.2 0 0 5 (x / 64)).toBitVec.getLsbD (x % 64) = true ↔ T x)
  rw [pk_cpy_in (by omega) (by omega), pk_cpy_in (by omega) (by omega)]
  simpa using h1
