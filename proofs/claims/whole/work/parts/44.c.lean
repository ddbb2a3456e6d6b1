/-! the class's net: its links as a matching of places, its pairs -/
def kI (k : Nat) : Int32 := nI k - 1
theorem kI_0 : kI 0 = mI := rfl
theorem kI_s (k : Nat) : kI (k + 1) = nI k := nI_pred k
theorem kI_p {k : Nat} (h : 0 < k) : kI k = nI (k - 1) := by
  obtain ⟨j, rfl⟩ : ∃ j, k = j + 1 := ⟨k - 1, by omega⟩
  rw [kI_s]
  rfl
def hd (p : Nat) : Prop := p < 900 ∧ p % 3 = 0
def pS (E : Nat → Prop) (L K : Nat → Nat) (x : Nat) : Prop := x < 300 ∧ E (3 * x) ∧ hd (L (3 * x)) ∧ 3 * x < L (3 * x) ∧ K x + K (L (3 * x) / 3) ≠ 5
def pT (E : Nat → Prop) (L K : Nat → Nat) (x : Nat) : Prop := x < 300 ∧ E (3 * x) ∧ hd (L (3 * x)) ∧ 3 * x < L (3 * x) ∧ K x + K (L (3 * x) / 3) = 5
/-- E: the places that are linked; L: to what -/
def MT (E : Nat → Prop) (L : Nat → Nat) : Prop := ∀ p, E p → E (L p) ∧ L (L p) = p ∧ L p ≠ p
def CL (E : Nat → Prop) (L K : Nat → Nat) (n : Nat) (f : Nat → Int32) (ps : PSt) : Prop :=
  MT E L ∧ (∀ p, E p → p < n ∧ f p = nI (L p)) ∧ (∀ p, E p → p < 900 → 0 < K (p / 3)) ∧ PB ps (pS E L K) (pT E L K)
def CN (E : Nat → Prop) (L K : Nat → Nat) (sn : NSt) : Prop := nl sn ≤ 1300 ∧ CL E L K (nl sn) (na sn 1) (np sn) ∧ (∀ m, m < 300 → na sn 0 m = kI (K m) ∧ K m ≤ 3)
/-- links and pairs alone have changed -/
def SL (sn sn' : NSt) : Prop := ∃ f ps, sn' = nsP (nsA sn 1 f) ps
theorem nsA_nsA (s : NSt) (k : Nat) (f g : Nat → Int32) : nsA (nsA s k f) k g = nsA s k g := by
  unfold nsA
  congr 3
  funext j
  simp only [vf_upd]
  split <;> rfl
theorem SL.rf (sn : NSt) : SL sn sn := ⟨na sn 1, np sn, by
  unfold nsP nsA na np
  refine Prod.ext rfl (Prod.ext rfl (Prod.ext ?_ rfl))
  funext j
  simp only [vf_upd]
  split
  · rename_i h; rw [h]
  · rfl⟩
theorem SL.A (sn : NSt) (f : Nat → Int32) : SL sn (nsA sn 1 f) := ⟨f, np sn, rfl⟩
theorem SL.P (sn : NSt) (ps : PSt) : SL sn (nsP sn ps) := by
  obtain ⟨f, qs, e⟩ := SL.rf sn
  refine ⟨f, ps, ?_⟩
  rw [e]
  show nsP (nsP (nsA sn 1 f) qs) ps = _
  rw [← e]
  conv => lhs; rw [e]
  rfl
theorem SL.tr {a b c : NSt} (h : SL a b) (h2 : SL b c) : SL a c := by
  obtain ⟨f, p, rfl⟩ := h
  obtain ⟨g, q, rfl⟩ := h2
  refine ⟨g, q, ?_⟩
  rw [← nsA_nsA a 1 f g]
  rfl
theorem SL.gl {a b : NSt} (h : SL a b) : nl b = nl a := by obtain ⟨f, p, rfl⟩ := h; rfl
theorem SL.gi {a b : NSt} (h : SL a b) (k : Nat) : ni b k = ni a k := by obtain ⟨f, p, rfl⟩ := h; rfl
theorem SL.ga {a b : NSt} (h : SL a b) {k : Nat} (hk : k ≠ 1) : na b k = na a k := by obtain ⟨f, p, rfl⟩ := h; exact if_neg hk
theorem SL.gh {a b : NSt} (h : SL a b) : nh b = nh a := by obtain ⟨f, p, rfl⟩ := h; rfl
/-- matchings -/
def lk2 (L : Nat → Nat) (a b : Nat) : Nat → Nat := ur (ur L a b) b a
theorem lk2_b (L : Nat → Nat) (a b : Nat) : lk2 L a b b = a := ur_s
theorem lk2_a (L : Nat → Nat) {a b : Nat} (h : a ≠ b) : lk2 L a b a = b := by
  unfold lk2
  rw [ur_n h, ur_s]
theorem lk2_o (L : Nat → Nat) {a b p : Nat} (h : p ≠ a) (h2 : p ≠ b) : lk2 L a b p = L p := by
  unfold lk2
  rw [ur_n h2, ur_n h]
def E2 (E : Nat → Prop) (a b : Nat) : Nat → Prop := fun p => E p ∨ p = a ∨ p = b
def Em (E : Nat → Prop) (a b : Nat) : Nat → Prop := fun p => E p ∧ p ≠ a ∧ p ≠ b
theorem MT.add {E : Nat → Prop} {L : Nat → Nat} (h : MT E L) {a b : Nat} (ha : ¬ E a) (hb : ¬ E b) (hab : a ≠ b) : MT (E2 E a b) (lk2 L a b) := by
  intro p hp
  by_cases q : p = a
  · subst q
    rw [lk2_a L hab, lk2_b]
    exact ⟨Or.inr (Or.inr rfl), rfl, Ne.symm hab⟩
  · by_cases z : p = b
    · subst z
      rw [lk2_b, lk2_a L hab]
      exact ⟨Or.inr (Or.inl rfl), rfl, hab⟩
    · have hE : E p := by
        rcases hp with h | h | h
        · exact h
        · exact absurd h q
        · exact absurd h z
      obtain ⟨h1, h2, h3⟩ := h p hE
      have na : L p ≠ a := fun e => ha (e ▸ h1)
      have nb : L p ≠ b := fun e => hb (e ▸ h1)
      rw [lk2_o L q z, lk2_o L na nb]
      exact ⟨Or.inl h1, h2, h3⟩
theorem MT.drop {E : Nat → Prop} {L : Nat → Nat} (h : MT E L) {a : Nat} (ha : E a) : MT (Em E a (L a)) L := by
  intro p ⟨hp, h1, h2⟩
  obtain ⟨g1, g2, g3⟩ := h p hp
  refine ⟨⟨g1, fun e => h2 ?_, fun e => h1 ?_⟩, g2, g3⟩
  · rw [← g2, e]
  · rw [← g2, e, (h a ha).2.1]
theorem MT.cong {E E' : Nat → Prop} {L L' : Nat → Nat} (h : MT E L) (hE : ∀ p, E' p ↔ E p) (hL : ∀ p, E p → L' p = L p) : MT E' L' := by
  intro p hp
  have hp := (hE p).mp hp
  obtain ⟨g1, g2, g3⟩ := h p hp
  rw [hL p hp, hL _ g1]
  exact ⟨(hE _).mpr g1, g2, g3⟩
theorem CL.cong {E E' : Nat → Prop} {L L' K K' : Nat → Nat} {n : Nat} {f : Nat → Int32} {ps : PSt} (h : CL E L K n f ps) (hE : ∀ p, E' p ↔ E p) (hL : ∀ p, E p → L' p = L p) (hK : ∀ p, E p → p < 900 → K' (p / 3) = K (p / 3)) : CL E' L' K' n f ps := by
  obtain ⟨h1, h2, h3, h4⟩ := h
  have hq : ∀ x, x < 300 → E (3 * x) → hd (L (3 * x)) → K' x + K' (L' (3 * x) / 3) = K x + K (L (3 * x) / 3) := by
    intro x hx hE3 hh
    have hl := (h1 _ hE3).1
    have a1 := hK _ hE3 (by omega)
    rw [show 3 * x / 3 = x by omega] at a1
    rw [hL _ hE3, a1, hK _ hl hh.1]
  refine ⟨h1.cong hE hL, fun p hp => ?_, fun p hp hh => ?_, h4.cong (fun x _ => ?_) (fun x _ => ?_)⟩
  · have hp := (hE p).mp hp
    rw [hL p hp]
    exact h2 p hp
  · have hp := (hE p).mp hp
    rw [hK p hp hh]
    exact h3 p hp hh
  · unfold pS
    rw [hE]
    constructor
    · rintro ⟨a, b, c, d, e⟩
      rw [hq x a b c, hL _ b]
      exact ⟨a, b, c, d, e⟩
    · rintro ⟨a, b, c, d, e⟩
      rw [hL _ b] at c d
      rw [hq x a b c] at e
      exact ⟨a, b, c, d, e⟩
  · unfold pT
    rw [hE]
    constructor
    · rintro ⟨a, b, c, d, e⟩
      rw [hq x a b c, hL _ b]
      exact ⟨a, b, c, d, e⟩
    · rintro ⟨a, b, c, d, e⟩
      rw [hL _ b] at c d
      rw [hq x a b c] at e
      exact ⟨a, b, c, d, e⟩
theorem CL.drop {E : Nat → Prop} {L K : Nat → Nat} {n : Nat} {f : Nat → Int32} {ps : PSt} (h : CL E L K n f ps) {a : Nat} (ha : E a) (hh : ¬ (hd a ∧ hd (L a))) : CL (Em E a (L a)) L K n f ps := by
  obtain ⟨h1, h2, h3, h4⟩ := h
  have key : ∀ x, x < 300 → hd (L (3 * x)) → E (3 * x) → Em E a (L a) (3 * x) := by
    intro x hx hl hE
    have hx3 : hd (3 * x) := ⟨by omega, by omega⟩
    refine ⟨hE, fun e => hh ?_, fun e => hh ?_⟩
    · rw [← e]; exact ⟨hx3, hl⟩
    · have : L (3 * x) = a := by rw [e, (h1 a ha).2.1]
      rw [← e, ← this]
      exact ⟨hl, hx3⟩
  refine ⟨h1.drop ha, fun p hp => h2 p hp.1, fun p hp => h3 p hp.1, h4.cong (fun x _ => ?_) (fun x _ => ?_)⟩
  · exact ⟨fun ⟨a, b, c, d, e⟩ => ⟨a, key x a c b, c, d, e⟩, fun ⟨a, b, c, d, e⟩ => ⟨a, b.1, c, d, e⟩⟩
  · exact ⟨fun ⟨a, b, c, d, e⟩ => ⟨a, key x a c b, c, d, e⟩, fun ⟨a, b, c, d, e⟩ => ⟨a, b.1, c, d, e⟩⟩
theorem n_at_in {sn : NSt} {p : Nat} (h : p < nl sn) (hn : nl sn ≤ 1300) : n_at sn (nI p) = some (na sn 1 p) := by
  unfold n_at
  rw [if_neg (nI_pos (by omega)), if_neg (nI_ge h (by omega)), gd_nI h (by omega), nc (by omega)]
theorem n_at_ok {E : Nat → Prop} {L K : Nat → Nat} {sn : NSt} (h : CN E L K sn) {p : Nat} (hp : E p) : n_at sn (nI p) = some (nI (L p)) := by
  have h2 := h.2.1.2.1 p hp
  rw [n_at_in h2.1 h.1, h2.2]
theorem n_tie_ok {sn : NSt} {a b : Nat} (hn : nl sn ≤ 1300) (ha : a < nl sn) (hb : b < nl sn) : n_tie sn (nI a) (nI b) = some (nsA sn 1 (upd (upd (na sn 1) a (nI b)) b (nI a))) := by
  unfold n_tie
  rw [if_neg (nI_pos (by omega)), if_neg (nI_pos (by omega)), if_neg (nI_ge ha (by omega)), if_neg (nI_ge hb (by omega)), gd_nI ha (by omega), nm_eq, nl_A, gd_nI hb (by omega), nm_eq, nc (by omega), nc (by omega), nsA_nsA]
  rfl
theorem n_tie_neg {sn : NSt} {a : Int32} : n_tie sn a mI = some sn := by
  unfold n_tie
  rw [if_pos (show mI < 0 by decide)]
  split <;> rfl
theorem n_tie_neg2 {sn : NSt} {a : Int32} : n_tie sn mI a = some sn := by
  unfold n_tie
  rw [if_pos (show mI < 0 by decide)]
theorem n_isHead_ok {a : Nat} (ha : a < 2147483648) : n_isHead (nI a) = some (if a < 900 ∧ a % 3 = 0 then 1 else 0) := by
  unfold n_isHead
  rw [if_neg (nI_pos ha)]
  by_cases q : a < 900
  · rw [if_neg (show ¬ (900 : Int32) ≤ nI a from nI_ge (b := 900) q (by omega)), i3, n_div ha (by omega) (by omega), pk_mul, n_sub (by omega), sub_dm]
    by_cases z : a % 3 = 0
    · rw [z, if_pos (show nI 0 = 0 from rfl), if_pos ⟨q, rfl⟩]
    · rw [if_neg (show ¬ nI (a % 3) = 0 from nI_ne0 (by omega) (by omega)), if_neg (fun h => z h.2)]
  · rw [if_pos (show (900 : Int32) ≤ nI a from nI_le (a := 900) (by omega) ha), if_neg (fun h => q h.1)]
theorem n_connect_neg {sn : NSt} {a : Int32} (ha : ∃ x, n_isHead a = some x) : n_connect sn a mI = some sn := by
  obtain ⟨x, hx⟩ := ha
  unfold n_connect
  rw [n_tie_neg, bd_s, hx, bd_s]
  split
  · rfl
  · rw [show n_isHead mI = some 0 from rfl, bd_s, if_pos rfl]
theorem n_connect_ok {E : Nat → Prop} {L K : Nat → Nat} {sn : NSt} (h : CN E L K sn) {a b : Nat} (ha : ¬ E a) (hb : ¬ E b) (hab : a ≠ b) (an : a < nl sn) (bn : b < nl sn) (ka : a < 900 → 0 < K (a / 3)) (kb : b < 900 → 0 < K (b / 3)) : ∃ sn', n_connect sn (nI a) (nI b) = some sn' ∧ (SL sn sn' ∧ ∀ q, q ≠ a → q ≠ b → na sn' 1 q = na sn 1 q) ∧ CN (E2 E a b) (lk2 L a b) K sn' := by
  obtain ⟨hn, ⟨h1, h2, h3, h4⟩, h5⟩ := h
  have base : ∀ p, E2 E a b p → p < nl sn ∧ upd (upd (na sn 1) a (nI b)) b (nI a) p = nI (lk2 L a b p) := by
    intro p hp
    unfold lk2
    rw [upd_at, ur_at]
    by_cases q : p = b
    · rw [if_pos q, if_pos q, q]
      exact ⟨bn, rfl⟩
    · rw [if_neg q, if_neg q, upd_at, ur_at]
      by_cases z : p = a
      · rw [if_pos z, if_pos z, z]
        exact ⟨an, rfl⟩
      · rw [if_neg z, if_neg z]
        rcases hp with h | h | h
        · exact h2 p h
        · exact absurd h z
        · exact absurd h q
  have kk : ∀ p, E2 E a b p → p < 900 → 0 < K (p / 3) := by
    rintro p (h | h | h) hh
    · exact h3 p h hh
    · subst h; exact ka hh
    · subst h; exact kb hh
  -- the pairs there are now
  have sv : ∀ x, x < 300 → 3 * x ≠ a → 3 * x ≠ b → (E2 E a b (3 * x) ↔ E (3 * x)) ∧ lk2 L a b (3 * x) = L (3 * x) := by
    intro x hx q z
    refine ⟨⟨fun h => ?_, Or.inl⟩, lk2_o L q z⟩
    rcases h with h | h | h
    · exact h
    · exact absurd h q
    · exact absurd h z
  have hS : ∀ x, pS (E2 E a b) (lk2 L a b) K x ↔ (pS E L K x ∨ (x = min a b / 3 ∧ (hd a ∧ hd b) ∧ K (a / 3) + K (b / 3) ≠ 5)) := by
    intro x
    unfold pS
    by_cases q : 3 * x = a
    · have e : lk2 L a b (3 * x) = b := by rw [q]; exact lk2_a L hab
      rw [e]
      constructor
      · rintro ⟨c1, c2, c3, c4, c5⟩
        refine Or.inr ⟨by omega, ⟨⟨by omega, by omega⟩, c3⟩, ?_⟩
        rw [show a / 3 = x by omega]; exact c5
      · rintro (⟨c1, c2, _⟩ | ⟨c1, ⟨c2, c3⟩, c4⟩)
        · rw [q] at c2; exact absurd c2 ha
        · have : a / 3 = x := by omega
          rw [this] at c4
          have hb3 := c3.2
          have := c2.1
          refine ⟨by omega, Or.inr (Or.inl q), c3, by omega, c4⟩
    · by_cases z : 3 * x = b
      · have e : lk2 L a b (3 * x) = a := by rw [z]; exact lk2_b L a b
        rw [e]
        constructor
        · rintro ⟨c1, c2, c3, c4, c5⟩
          refine Or.inr ⟨by omega, ⟨c3, ⟨by omega, by omega⟩⟩, ?_⟩
          rw [show b / 3 = x by omega, Nat.add_comm]; exact c5
        · rintro (⟨c1, c2, _⟩ | ⟨c1, ⟨c2, c3⟩, c4⟩)
          · rw [z] at c2; exact absurd c2 hb
          · have : b / 3 = x := by omega
            rw [this, Nat.add_comm] at c4
            have ha3 := c2.2
            have := c3.1
            refine ⟨by omega, Or.inr (Or.inr z), c2, by omega, c4⟩
      · constructor
        · rintro ⟨c1, c2, c3, c4, c5⟩
          have s := sv x c1 q z
          rw [s.2] at c3 c4 c5
          exact Or.inl ⟨c1, s.1.mp c2, c3, c4, c5⟩
        · rintro (⟨c1, c2, c3, c4, c5⟩ | ⟨c1, ⟨c2, c3⟩, c4⟩)
          · have s := sv x c1 q z
            rw [s.2]
            exact ⟨c1, s.1.mpr c2, c3, c4, c5⟩
          · have := c2.2
            have := c3.2
            omega
  have hT : ∀ x, pT (E2 E a b) (lk2 L a b) K x ↔ (pT E L K x ∨ (x = min a b / 3 ∧ (hd a ∧ hd b) ∧ K (a / 3) + K (b / 3) = 5)) := by
    intro x
    unfold pT
    by_cases q : 3 * x = a
    · have e : lk2 L a b (3 * x) = b := by rw [q]; exact lk2_a L hab
      rw [e]
      constructor
      · rintro ⟨c1, c2, c3, c4, c5⟩
        refine Or.inr ⟨by omega, ⟨⟨by omega, by omega⟩, c3⟩, ?_⟩
        rw [show a / 3 = x by omega]; exact c5
      · rintro (⟨c1, c2, _⟩ | ⟨c1, ⟨c2, c3⟩, c4⟩)
        · rw [q] at c2; exact absurd c2 ha
        · have : a / 3 = x := by omega
          rw [this] at c4
          have hb3 := c3.2
          have := c2.1
          refine ⟨by omega, Or.inr (Or.inl q), c3, by omega, c4⟩
    · by_cases z : 3 * x = b
      · have e : lk2 L a b (3 * x) = a := by rw [z]; exact lk2_b L a b
        rw [e]
        constructor
        · rintro ⟨c1, c2, c3, c4, c5⟩
          refine Or.inr ⟨by omega, ⟨c3, ⟨by omega, by omega⟩⟩, ?_⟩
          rw [show b / 3 = x by omega, Nat.add_comm]; exact c5
        · rintro (⟨c1, c2, _⟩ | ⟨c1, ⟨c2, c3⟩, c4⟩)
          · rw [z] at c2; exact absurd c2 hb
          · have : b / 3 = x := by omega
            rw [this, Nat.add_comm] at c4
            have ha3 := c2.2
            have := c3.1
            refine ⟨by omega, Or.inr (Or.inr z), c2, by omega, c4⟩
      · constructor
        · rintro ⟨c1, c2, c3, c4, c5⟩
          have s := sv x c1 q z
          rw [s.2] at c3 c4 c5
          exact Or.inl ⟨c1, s.1.mp c2, c3, c4, c5⟩
        · rintro (⟨c1, c2, c3, c4, c5⟩ | ⟨c1, ⟨c2, c3⟩, c4⟩)
          · have s := sv x c1 q z
            rw [s.2]
            exact ⟨c1, s.1.mpr c2, c3, c4, c5⟩
          · have := c2.2
            have := c3.2
            omega
  have fr : ∀ q, q ≠ a → q ≠ b → upd (upd (na sn 1) a (nI b)) b (nI a) q = na sn 1 q := by
    intro q qa qb
    rw [upd_at, if_neg qb, upd_at, if_neg qa]
  unfold n_connect
  rw [n_tie_ok hn an bn, bd_s, n_isHead_ok (by omega), bd_s]
  have fin : ∀ ps', PB ps' (pS (E2 E a b) (lk2 L a b) K) (pT (E2 E a b) (lk2 L a b) K) → CN (E2 E a b) (lk2 L a b) K (nsP (nsA sn 1 (upd (upd (na sn 1) a (nI b)) b (nI a))) ps') := fun ps' hp => ⟨hn, ⟨h1.add ha hb hab, base, kk, hp⟩, h5⟩
  by_cases qa : a < 900 ∧ a % 3 = 0
  · rw [if_pos qa, if_neg (by decide), n_isHead_ok (by omega), bd_s]
    by_cases qb : b < 900 ∧ b % 3 = 0
    · rw [if_pos qb, if_neg (by decide), i3, n_div (by omega) (by omega) (by omega), n_div (by omega) (by omega) (by omega), gd_nI (by omega) (by omega), gd_nI (by omega) (by omega), nc (by omega), nc (by omega)]
      have m : (if nI b < nI a then nI b else nI a) = nI (min a b) := by
        by_cases w : b < a
        · rw [if_pos (nI_lt w (by omega)), Nat.min_eq_right (by omega)]
        · rw [if_neg (nI_nlt (by omega) (by omega)), Nat.min_eq_left (by omega)]
      have k1 := ka qa.1
      have k2 := kb qb.1
      have k3 := (h5 (a / 3) (by omega)).2
      have k4 := (h5 (b / 3) (by omega)).2
      have s0 : na (nsA sn 1 (upd (upd (na sn 1) a (nI b)) b (nI a))) 0 = na sn 0 := rfl
      rw [m, n_div (by omega) (by omega) (by omega), s0, (h5 (a / 3) (by omega)).1, (h5 (b / 3) (by omega)).1, kI_p k1, kI_p k2, nI_add]
      have np0 : np (nsA sn 1 (upd (upd (na sn 1) a (nI b)) b (nI a))) = np sn := rfl
      rw [np0]
      by_cases w : K (a / 3) + K (b / 3) = 5
      · rw [if_pos (show nI (K (a / 3) - 1 + (K (b / 3) - 1)) = nI 3 by congr 1; omega)]
        obtain ⟨ps', e, hp⟩ := p_add_1 h4 (x := min a b / 3) (by omega)
        rw [e, bd_s]
        refine ⟨_, rfl, ⟨⟨_, _, rfl⟩, fr⟩, fin _ (hp.cong (fun x _ => ?_) (fun x _ => ?_))⟩
        · rw [hS]
          exact ⟨Or.inl, fun z => z.elim id (fun z => absurd w z.2.2)⟩
        · rw [hT]
          exact ⟨fun z => z.imp id (fun z => ⟨z, ⟨qa, qb⟩, w⟩), fun z => z.imp id (fun z => z.1)⟩
      · rw [if_neg (show ¬ nI (K (a / 3) - 1 + (K (b / 3) - 1)) = nI 3 by rw [nI_eq (by omega) (by omega)]; omega)]
        obtain ⟨ps', e, hp⟩ := p_add_0 h4 (x := min a b / 3) (by omega)
        rw [e, bd_s]
        refine ⟨_, rfl, ⟨⟨_, _, rfl⟩, fr⟩, fin _ (hp.cong (fun x _ => ?_) (fun x _ => ?_))⟩
        · rw [hS]
          exact ⟨fun z => z.imp id (fun z => ⟨z, ⟨qa, qb⟩, w⟩), fun z => z.imp id (fun z => z.1)⟩
        · rw [hT]
          exact ⟨Or.inl, fun z => z.elim id (fun z => absurd z.2.2 w)⟩
    · rw [if_neg qb, if_pos rfl]
      refine ⟨_, rfl, ⟨SL.A _ _, fr⟩, fin _ (h4.cong (fun x _ => ?_) (fun x _ => ?_))⟩
      · rw [hS]
        exact ⟨Or.inl, fun z => z.elim id (fun z => absurd z.2.1.2 qb)⟩
      · rw [hT]
        exact ⟨Or.inl, fun z => z.elim id (fun z => absurd z.2.1.2 qb)⟩
  · rw [if_neg qa, if_pos rfl]
    refine ⟨_, rfl, ⟨SL.A _ _, fr⟩, fin _ (h4.cong (fun x _ => ?_) (fun x _ => ?_))⟩
    · rw [hS]
      exact ⟨Or.inl, fun z => z.elim id (fun z => absurd z.2.1.1 qa)⟩
    · rw [hT]
      exact ⟨Or.inl, fun z => z.elim id (fun z => absurd z.2.1.1 qa)⟩
theorem n_tie_cn {E : Nat → Prop} {L K : Nat → Nat} {sn : NSt} (h : CN E L K sn) {a b : Nat} (ha : ¬ E a) (hb : ¬ E b) (hab : a ≠ b) (an : a < nl sn) (bn : b < nl sn) (ka : a < 900 → 0 < K (a / 3)) (kb : b < 900 → 0 < K (b / 3)) (hh : ¬ (hd a ∧ hd b)) : ∃ sn', n_tie sn (nI a) (nI b) = some sn' ∧ (SL sn sn' ∧ ∀ q, q ≠ a → q ≠ b → na sn' 1 q = na sn 1 q) ∧ CN (E2 E a b) (lk2 L a b) K sn' := by
  obtain ⟨sn', e, s, c⟩ := n_connect_ok h ha hb hab an bn ka kb
  refine ⟨sn', ?_, s, c⟩
  have hn := h.1
  rw [n_tie_ok hn an bn]
  unfold n_connect at e
  rw [n_tie_ok hn an bn, bd_s, n_isHead_ok (by omega), bd_s] at e
  by_cases qa : a < 900 ∧ a % 3 = 0
  · rw [if_pos qa, if_neg (by decide), n_isHead_ok (by omega), bd_s, if_neg (show ¬ (b < 900 ∧ b % 3 = 0) from fun z => hh ⟨qa, z⟩), if_pos rfl] at e
    exact e
  · rw [if_neg qa, if_pos rfl] at e
    exact e
/-- roots that aren't there are linked to nothing -/
def RT (E : Nat → Prop) (sn : NSt) : Prop := ∀ i, i < 16 → ¬ E (1000 + i) → na sn 1 (1000 + i) = mI
theorem RT.add {E : Nat → Prop} {sn sn' : NSt} {a b : Nat} (h : RT E sn) (f : ∀ q, q ≠ a → q ≠ b → na sn' 1 q = na sn 1 q) : RT (E2 E a b) sn' := fun i hi hE => by
  rw [f _ (fun e => hE (Or.inr (Or.inl e))) (fun e => hE (Or.inr (Or.inr e)))]
  exact h i hi (fun e => hE (Or.inl e))
theorem RT.cong {E E' : Nat → Prop} {sn : NSt} (h : RT E sn) (he : ∀ p, E' p ↔ E p) : RT E' sn := fun i hi hE => h i hi (fun e => hE ((he _).mpr e))
