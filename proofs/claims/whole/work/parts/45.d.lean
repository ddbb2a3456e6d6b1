/-! moves, splices, nodes made and freed, on the class's net -/
theorem ne_m1 {a : Nat} (h : a < 2147483648) : ¬ nI a = (-1 : Int32) := fun e => by
  have := n_em h
  rw [show mI = (-1 : Int32) from rfl] at this
  rw [this] at e
  exact e
theorem CN.cong {E E' : Nat → Prop} {L L' K : Nat → Nat} {sn : NSt} (h : CN E L K sn) (hE : ∀ p, E' p ↔ E p) (hL : ∀ p, E p → L' p = L p) : CN E' L' K sn := ⟨h.1, h.2.1.cong hE hL (fun _ _ _ => rfl), h.2.2⟩
theorem CN.drop {E : Nat → Prop} {L K : Nat → Nat} {sn : NSt} (h : CN E L K sn) {a : Nat} (ha : E a) (hh : ¬ (hd a ∧ hd (L a))) : CN (Em E a (L a)) L K sn := ⟨h.1, h.2.1.drop ha hh, h.2.2⟩
/-- a place bears another name -/
def Er (E : Nat → Prop) (a b : Nat) : Nat → Prop := fun p => (E p ∧ p ≠ a) ∨ p = b
def rl (L : Nat → Nat) (a b : Nat) : Nat → Nat := lk2 L (L a) b
theorem n_move_ok {E : Nat → Prop} {L K : Nat → Nat} {sn : NSt} (h : CN E L K sn) {a b : Nat} (ha : E a) (nha : ¬ hd a) (hb : ¬ E b) (bn : b < nl sn) (kb : b < 900 → 0 < K (b / 3)) : ∃ sn', n_move sn (nI a) (nI b) = some sn' ∧ (SL sn sn' ∧ ∀ q, q ≠ L a → q ≠ b → na sn' 1 q = na sn 1 q) ∧ CN (Er E a b) (rl L a b) K sn' := by
  obtain ⟨g1, g2, g3⟩ := h.2.1.1 a ha
  have h1 := h.drop ha (fun z => nha z.1)
  obtain ⟨sn', e, s, c⟩ := n_connect_ok h1 (a := L a) (b := b) (fun z => z.2.2 rfl) (fun z => hb z.1) (fun e => hb (e ▸ g1)) (h.2.1.2.1 _ g1).1 bn (fun z => h.2.1.2.2.1 _ g1 z) kb
  refine ⟨sn', ?_, s, c.cong (fun p => ?_) (fun p _ => rfl)⟩
  · unfold n_move
    rw [n_at_ok h ha, bd_s, e]
    rfl
  · unfold Er E2 Em
    constructor
    · rintro (⟨z1, z2⟩ | z)
      · by_cases q : p = L a
        · exact Or.inr (Or.inl q)
        · exact Or.inl ⟨z1, z2, q⟩
      · exact Or.inr (Or.inr z)
    · rintro (⟨z1, z2, z3⟩ | z | z)
      · exact Or.inl ⟨z1, z2⟩
      · rw [z]; exact Or.inl ⟨g1, g3⟩
      · exact Or.inr z
theorem n_splice_ok {E : Nat → Prop} {L K : Nat → Nat} {sn : NSt} (h : CN E L K sn) {a b : Nat} (ha : E a) (hb : E b) (hab : a ≠ b) (nha : ¬ hd a) (nb : ¬ hd b) :
    (L a = b → n_splice sn (nI a) (nI b) = some (nsI sn 13 (ni sn 13 + 1)) ∧ CN (Em E a b) L K (nsI sn 13 (ni sn 13 + 1))) ∧
    (L a ≠ b → ∃ sn', n_splice sn (nI a) (nI b) = some sn' ∧ (SL sn sn' ∧ ∀ q, q ≠ L a → q ≠ L b → na sn' 1 q = na sn 1 q) ∧ CN (Em E a b) (lk2 L (L a) (L b)) K sn') := by
  obtain ⟨g1, g2, g3⟩ := h.2.1.1 a ha
  obtain ⟨k1, k2, k3⟩ := h.2.1.1 b hb
  have lb : b < 2147483648 := by have := (h.2.1.2.1 b hb).1; have := h.1; omega
  have lla : L a < 2147483648 := by have := (h.2.1.2.1 _ g1).1; have := h.1; omega
  constructor
  · intro q
    constructor
    · unfold n_splice
      rw [n_at_ok h ha, bd_s, q, if_pos rfl, nm_eq]
    · have h1 := h.drop ha (fun z => nha z.1)
      rw [q] at h1
      exact ⟨h1.1, h1.2.1, h1.2.2⟩
  · intro q
    have q2 : L b ≠ a := fun e => q (by rw [← e]; exact k2)
    have q3 : L a ≠ L b := fun e => hab (by rw [← g2, e, k2])
    have h1 := h.drop ha (fun z => nha z.1)
    have hb1 : Em E a (L a) b := ⟨hb, Ne.symm hab, Ne.symm q⟩
    have h2 := h1.drop hb1 (fun z => nb z.1)
    obtain ⟨sn', e, s, c⟩ := n_connect_ok h2 (a := L a) (b := L b) (fun z => z.1.2.2 rfl) (fun z => z.2.2 rfl) q3 (h.2.1.2.1 _ g1).1 (h.2.1.2.1 _ k1).1 (fun z => h.2.1.2.2.1 _ g1 z) (fun z => h.2.1.2.2.1 _ k1 z)
    refine ⟨sn', ?_, s, c.cong (fun p => ?_) (fun p _ => rfl)⟩
    · unfold n_splice
      rw [n_at_ok h ha, bd_s, if_neg (by rw [nI_eq lla lb]; exact q), bd_s, n_at_ok h hb, bd_s, e]
      rfl
    · unfold Em E2
      constructor
      · rintro ⟨z1, z2, z3⟩
        by_cases w : p = L a
        · exact Or.inr (Or.inl w)
        · by_cases w2 : p = L b
          · exact Or.inr (Or.inr w2)
          · exact Or.inl ⟨⟨z1, z2, w⟩, z3, w2⟩
      · rintro (⟨⟨z1, z2, z3⟩, z4, z5⟩ | z | z)
        · exact ⟨z1, z2, z4⟩
        · rw [z]; exact ⟨g1, g3, q⟩
        · rw [z]; exact ⟨k1, q2, k3⟩
/-- the class's counters stand for the row's -/
def CM (r : Nat → Nat) (sn : NSt) : Prop :=
  (ni sn 6 = nI (r 0) ∧ ni sn 7 = nI (r 1) ∧ ni sn 8 = nI (r 2) ∧ ni sn 9 = nI (r 3)) ∧ (ni sn 11 = nI (r 4) ∧ ni sn 10 = nI (r 5) ∧ ni sn 12 = nI (r 6) ∧ ni sn 13 = nI (r 7)) ∧ (∀ k, k < 6 → na sn 3 k = nI (r (8 + k))) ∧ (∀ m, m < 300 → na sn 0 m = kI (r (30 + m))) ∧ (∀ k, k < r 5 → na sn 2 k = nI (r (330 + k)))
theorem CM.sl {r : Nat → Nat} {sn sn' : NSt} (h : CM r sn) (s : SL sn sn') : CM r sn' := by
  unfold CM
  rw [s.gi, s.gi, s.gi, s.gi, s.gi, s.gi, s.gi, s.gi, s.ga (by decide), s.ga (by decide), s.ga (by decide)]
  exact h
theorem n_hasRoom_ok {r : Nat → Nat} {sn : NSt} (h : CM r sn) {a : Nat} (ha : a < 1000) (h0 : r 0 ≤ 300) (h1 : r 1 ≤ 300) : n_hasRoom sn (nI a) = some (if r 1 + a ≤ r 0 then 1 else 0) := by
  unfold n_hasRoom
  rw [h.1.1, h.1.2.1, nI_add]
  by_cases q : r 1 + a ≤ r 0
  · rw [if_neg (nI_nlt q (by omega)), if_pos q]
  · rw [if_pos (nI_lt (by omega) (by omega)), if_neg q]
/-- nodes alone have changed, and what counts them -/
def SK (sn sn' : NSt) : Prop := nl sn' = nl sn ∧ na sn' 1 = na sn 1 ∧ np sn' = np sn ∧ nh sn' = nh sn ∧ ni sn' 14 = ni sn 14
theorem CN.sk {E : Nat → Prop} {L K K' : Nat → Nat} {sn sn' : NSt} (h : CN E L K sn) (s : SK sn sn') (hk : ∀ m, m < 300 → na sn' 0 m = kI (K' m) ∧ K' m ≤ 3) (he : ∀ p, E p → p < 900 → K' (p / 3) = K (p / 3)) : CN E L K' sn' := by
  refine ⟨by rw [s.1]; exact h.1, ?_, hk⟩
  rw [s.1, s.2.1, s.2.2.1]
  exact h.2.1.cong (fun _ => Iff.rfl) (fun _ _ => rfl) he
theorem n_makes_ok {r : Nat → Nat} {sn : NSt} (h : CM r sn) (hw : WM r) (hr : r 1 < r 0) {k : Nat} : ∃ sn', n_make sn (nI k) = some (nI (mN r), sn') ∧ CM (mK r k) sn' ∧ SK sn sn' := by
  have hn := mN_lt hw hr
  obtain ⟨⟨w0, w1, w2⟩, -⟩ := hw
  obtain ⟨⟨c6, c7, c8, c9⟩, ⟨c11, c10, c12, c13⟩, c3, c0, c2⟩ := h
  have gn : n_givenNext sn (nI 0) = some (nI (mN r)) := by
    unfold n_givenNext mN
    rw [if_neg (nI_pos (by omega)), c6, c7, n_sub (by omega), if_pos (nI_lt (by omega) (by omega)), c10]
    by_cases q : r 5 = 0
    · rw [if_pos (nI_le (by omega) (by omega)), c11, q, n_sub (by omega), nI_add, if_pos rfl]
      rfl
    · rw [if_neg (nI_ge (by omega) (by omega)), i1, n_sub (by omega), n_sub (by omega), Nat.sub_zero, gd_nI (by omega) (by omega), nc (by omega), c2 _ (by omega), if_neg q]
  have m43 : ∀ s : NSt, ∃ sn', n_make_43 s (nI k) (nI (mN r)) = some (nI (mN r), sn') ∧ sn' = nsI (nsI (nsA s 0 (upd (na s 0) (mN r) (nI k))) 7 (ni s 7 + 1)) 8 (ni s 8 + 1) := by
    intro s
    refine ⟨_, ?_, rfl⟩
    unfold n_make_43
    simp only [nm_eq]
    rw [gd_nI (by omega) (by omega), nc (by omega)]
    rfl
  have hk0 : ∀ m, m < 300 → upd (na sn 0) (mN r) (nI k) m = kI (mK r k (30 + m)) := by
    intro m hm
    rw [upd_at, mK_k]
    by_cases z : m = mN r
    · rw [if_pos z, if_pos z, kI_s]
    · rw [if_neg z, if_neg z]
      exact c0 m hm
  have e0 : mK r k 0 = r 0 := mK_o (by omega) (by omega) (by omega) (by omega) (by omega)
  have e3 : mK r k 3 = r 3 := mK_o (by omega) (by omega) (by omega) (by omega) (by omega)
  unfold n_make
  rw [i0, gn, bd_s, if_neg (ne_m1 (by omega)), c10]
  by_cases q : r 5 = 0
  · rw [if_pos (nI_le (by omega) (by omega)), nm_eq]
    obtain ⟨sn', e, rfl⟩ := m43 (nsI sn 11 (ni sn 11 + 1))
    refine ⟨_, e, ⟨⟨?_, ?_, ?_, ?_⟩, ⟨?_, ?_, ?_, ?_⟩, ?_, ?_, ?_⟩, rfl, rfl, rfl, rfl, rfl⟩
    · rw [e0]; exact c6
    · rw [mK_1, ← nI_1, ← c7]; rfl
    · rw [mK_2, ← nI_1, ← c8]; rfl
    · rw [e3]; exact c9
    · rw [mK_4, if_pos q, ← nI_1, ← c11]; rfl
    · rw [mK_5, q]; rw [q] at c10; exact c10
    · rw [mK_s (by omega) (by omega)]; exact c12
    · rw [mK_s (by omega) (by omega)]; exact c13
    · intro j hj
      rw [mK_s (by omega) (by omega)]
      exact c3 j hj
    · exact hk0
    · intro j hj
      rw [mK_5, q] at hj
      omega
  · rw [if_neg (nI_ge (by omega) (by omega)), nm_eq]
    obtain ⟨sn', e, rfl⟩ := m43 (nsI sn 10 (nI (r 5) - 1))
    refine ⟨_, e, ⟨⟨?_, ?_, ?_, ?_⟩, ⟨?_, ?_, ?_, ?_⟩, ?_, ?_, ?_⟩, rfl, rfl, rfl, rfl, rfl⟩
    · rw [e0]; exact c6
    · rw [mK_1, ← nI_1, ← c7]; rfl
    · rw [mK_2, ← nI_1, ← c8]; rfl
    · rw [e3]; exact c9
    · rw [mK_4, if_neg q]; exact c11
    · rw [mK_5, ← n_sub (show 1 ≤ r 5 by omega)]; rfl
    · rw [mK_s (by omega) (by omega)]; exact c12
    · rw [mK_s (by omega) (by omega)]; exact c13
    · intro j hj
      rw [mK_s (by omega) (by omega)]
      exact c3 j hj
    · exact hk0
    · intro j hj
      rw [mK_5] at hj
      rw [mK_l hn.1]
      exact c2 j (by omega)
theorem n_frees_ok {r : Nat → Nat} {sn : NSt} (h : CM r sn) (hw : WM r) {x : Nat} (hx : x < 300) (hk : 0 < r (30 + x)) : ∃ sn', n_free sn (nI x) = some sn' ∧ CM (fK r x) sn' ∧ SK sn sn' := by
  have hp := hw.pos hx hk
  have h3 := (hw.2.1 x hx).1
  obtain ⟨⟨c6, c7, c8, c9⟩, ⟨c11, c10, c12, c13⟩, c3, c0, c2⟩ := h
  have e0 : fK r x 0 = r 0 := fK_o (by omega) (by omega) (by omega) (by omega) (by omega)
  have e2 : fK r x 2 = r 2 := fK_o (by omega) (by omega) (by omega) (by omega) (by omega)
  have e4 : fK r x 4 = r 4 := fK_o (by omega) (by omega) (by omega) (by omega) (by omega)
  have e : n_free sn (nI x) = some (nsI (nsI (nsI (nsA (nsA sn 0 (upd (na sn 0) x mI)) 2 (upd (na sn 2) (r 5) (nI x))) 10 (nI (r 5) + 1)) 9 (ni sn 9 + 1)) 7 (ni sn 7 - 1)) := by
    unfold n_free n_kindOf
    simp only [nm_eq]
    rw [if_neg (nI_pos (by omega)), if_neg (show ¬ (300 : Int32) ≤ nI x from nI_ge (b := 300) hx (by omega)), gd_nI hx (by omega), nc (by omega), bd_s, c0 x hx, kI_p hk, if_neg (ne_m1 (by omega)), c10, if_pos (show nI (r 5) < (300 : Int32) from nI_lt (b := 300) hp.2.1 (by omega)), gd_nI hx (by omega)]
    have : ni (nsA sn 0 (upd (na sn 0) x (-1))) 10 = nI (r 5) := c10
    rw [this, gd_nI hp.2.1 (by omega), nc (by omega)]
    rw [show ni (nsA (nsA sn 0 (upd (na sn 0) x (-1))) 2 (upd (na (nsA sn 0 (upd (na sn 0) x (-1))) 2) (r 5) (nI x))) 10 = nI (r 5) from c10]
    rfl
  refine ⟨_, e, ⟨⟨?_, ?_, ?_, ?_⟩, ⟨?_, ?_, ?_, ?_⟩, ?_, ?_, ?_⟩, rfl, rfl, rfl, rfl, rfl⟩
  · rw [e0]; exact c6
  · rw [fK_1, ← n_sub (show 1 ≤ r 1 by omega), ← c7]; rfl
  · rw [e2]; exact c8
  · rw [fK_3, ← nI_1, ← c9]; rfl
  · rw [e4]; exact c11
  · rw [fK_5, ← nI_1]; rfl
  · rw [fK_s (by omega) (by omega)]; exact c12
  · rw [fK_s (by omega) (by omega)]; exact c13
  · intro j hj
    rw [fK_s (by omega) (by omega)]
    exact c3 j hj
  · intro m hm
    show upd (na sn 0) x mI m = _
    rw [upd_at, fK_k hx hm]
    by_cases z : m = x
    · rw [if_pos z, if_pos z, kI_0]
    · rw [if_neg z, if_neg z]
      exact c0 m hm
  · intro j hj
    rw [fK_5] at hj
    show upd (na sn 2) (r 5) (nI x) j = _
    rw [upd_at, fK_t hx]
    by_cases z : j = r 5
    · rw [if_pos z, if_pos z]
    · rw [if_neg z, if_neg z]
      exact c2 j (by omega)
