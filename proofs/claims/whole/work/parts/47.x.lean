/-! places renamed, places taken out: matchings -/
def RN (E : Nat → Prop) (L σ : Nat → Nat) (E' : Nat → Prop) (L' : Nat → Nat) : Prop :=
  (∀ p, E p → E' (σ p) ∧ L' (σ p) = σ (L p)) ∧ (∀ q, E' q → ∃ p, E p ∧ q = σ p) ∧ (∀ p q, E p → E q → σ p = σ q → p = q)
def sg (σ : Nat → Nat) (a b : Nat) : Nat → Nat := fun p => if σ p = a then b else σ p
theorem sg_y {σ : Nat → Nat} {a b p : Nat} (h : σ p = a) : sg σ a b p = b := if_pos h
theorem sg_n {σ : Nat → Nat} {a b p : Nat} (h : σ p ≠ a) : sg σ a b p = σ p := if_neg h
theorem RN.self (E : Nat → Prop) (L : Nat → Nat) : RN E L (fun p => p) E L := ⟨fun _ h => ⟨h, rfl⟩, fun q h => ⟨q, h, rfl⟩, fun _ _ _ _ h => h⟩
theorem RN.move {E E' : Nat → Prop} {L L' σ : Nat → Nat} (h : RN E L σ E' L') (hm : MT E L) {a b : Nat} (ha : E' a) (hb : ¬ E' b) : RN E L (sg σ a b) (Er E' a b) (rl L' a b) := by
  obtain ⟨h1, h2, h3⟩ := h
  obtain ⟨p0, hp0, rfl⟩ := h2 a ha
  obtain ⟨m1, m2, m3⟩ := hm p0 hp0
  have nb : ∀ p, E p → σ p ≠ b := fun p hp e => hb (e ▸ (h1 p hp).1)
  have la : L' (σ p0) = σ (L p0) := (h1 p0 hp0).2
  refine ⟨fun p hp => ?_, fun q hq => ?_, fun p q hp hq e => ?_⟩
  · unfold rl
    rw [la]
    by_cases q : σ p = σ p0
    · have e := h3 p p0 hp hp0 q
      subst e
      rw [sg_y rfl, lk2_b, sg_n (fun e => m3 (h3 _ _ m1 hp0 e))]
      exact ⟨Or.inr rfl, rfl⟩
    · rw [sg_n q]
      refine ⟨Or.inl ⟨(h1 p hp).1, q⟩, ?_⟩
      by_cases z : σ p = σ (L p0)
      · have e := h3 p (L p0) hp m1 z
        subst e
        rw [lk2_a _ (nb _ m1), m2, sg_y rfl]
      · rw [lk2_o _ z (nb p hp), (h1 p hp).2, sg_n]
        intro e
        apply z
        rw [← h3 _ _ (hm p hp).1 hp0 e, (hm p hp).2.1]
  · rcases hq with ⟨c1, c2⟩ | c
    · obtain ⟨p, hp, rfl⟩ := h2 q c1
      exact ⟨p, hp, (sg_n c2).symm⟩
    · exact ⟨p0, hp0, by rw [sg_y rfl, c]⟩
  · by_cases c1 : σ p = σ p0
    · by_cases c2 : σ q = σ p0
      · exact h3 p q hp hq (c1.trans c2.symm)
      · rw [sg_y c1, sg_n c2] at e
        exact absurd e.symm (nb q hq)
    · by_cases c2 : σ q = σ p0
      · rw [sg_n c1, sg_y c2] at e
        exact absurd e (nb p hp)
      · rw [sg_n c1, sg_n c2] at e
        exact h3 p q hp hq e
/-- two places are taken out; what they were linked to is linked -/
def ctr (L : Nat → Nat) (a b : Nat) : Nat → Nat := if L a = b then L else lk2 L (L a) (L b)
def lp (L : Nat → Nat) (a b : Nat) : Nat := if L a = b then 1 else 0
theorem lk2_sym (L : Nat → Nat) {a b : Nat} (h : a ≠ b) : lk2 L a b = lk2 L b a := by
  funext p
  by_cases q : p = a
  · subst q; rw [lk2_a L h, lk2_b]
  · by_cases z : p = b
    · subst z; rw [lk2_b, lk2_a L (Ne.symm h)]
    · rw [lk2_o L q z, lk2_o L z q]
theorem ctr_sym {E : Nat → Prop} {L : Nat → Nat} (h : MT E L) {a b : Nat} (ha : E a) (hb : E b) (hab : a ≠ b) : ctr L a b = ctr L b a ∧ lp L a b = lp L b a := by
  have e : (L a = b) ↔ (L b = a) := ⟨fun e => by rw [← e]; exact (h a ha).2.1, fun e => by rw [← e]; exact (h b hb).2.1⟩
  unfold ctr lp
  by_cases q : L a = b
  · rw [if_pos q, if_pos (e.mp q), if_pos q, if_pos (e.mp q)]
    exact ⟨rfl, rfl⟩
  · rw [if_neg q, if_neg (mt e.mpr q), if_neg q, if_neg (mt e.mpr q)]
    exact ⟨lk2_sym L (fun e => hab (by rw [← (h a ha).2.1, e, (h b hb).2.1])), rfl⟩
theorem MT.ct {E : Nat → Prop} {L : Nat → Nat} (h : MT E L) {a b : Nat} (ha : E a) (hb : E b) (hab : a ≠ b) : MT (Em E a b) (ctr L a b) := by
  unfold ctr
  by_cases q : L a = b
  · rw [if_pos q]
    have := h.drop ha
    rw [q] at this
    exact this
  · rw [if_neg q]
    obtain ⟨g1, g2, g3⟩ := h a ha
    obtain ⟨k1, k2, k3⟩ := h b hb
    have q2 : L b ≠ a := fun e => q (by rw [← e]; exact k2)
    have q3 : L a ≠ L b := fun e => hab (by rw [← g2, e, k2])
    intro p ⟨hp, c1, c2⟩
    by_cases z : p = L a
    · subst z
      rw [lk2_a _ q3, lk2_b]
      exact ⟨⟨k1, q2, k3⟩, rfl, Ne.symm q3⟩
    · by_cases w : p = L b
      · subst w
        rw [lk2_b, lk2_a _ q3]
        exact ⟨⟨g1, g3, q⟩, rfl, q3⟩
      · obtain ⟨m1, m2, m3⟩ := h p hp
        have n1 : L p ≠ L a := fun e => c1 (by rw [← m2, e, g2])
        have n2 : L p ≠ L b := fun e => c2 (by rw [← m2, e, k2])
        rw [lk2_o _ z w, lk2_o _ n1 n2]
        exact ⟨⟨m1, fun e => z (by rw [← e, m2]), fun e => w (by rw [← e, m2])⟩, m2, m3⟩
theorem RN.ct {E E' : Nat → Prop} {L L' σ : Nat → Nat} (h : RN E L σ E' L') (hm : MT E L) {a b : Nat} (ha : E a) (hb : E b) (hab : a ≠ b) : RN (Em E a b) (ctr L a b) σ (Em E' (σ a) (σ b)) (ctr L' (σ a) (σ b)) ∧ lp L' (σ a) (σ b) = lp L a b := by
  obtain ⟨h1, h2, h3⟩ := h
  obtain ⟨g1, g2, g3⟩ := hm a ha
  obtain ⟨k1, k2, k3⟩ := hm b hb
  have ea : L' (σ a) = σ (L a) := (h1 a ha).2
  have eb : L' (σ b) = σ (L b) := (h1 b hb).2
  have eq : (L' (σ a) = σ b) ↔ L a = b := by
    rw [ea]
    exact ⟨fun e => h3 _ _ g1 hb e, fun e => by rw [e]⟩
  refine ⟨⟨fun p hp => ?_, fun q hq => ?_, fun p q hp hq e => h3 p q hp.1 hq.1 e⟩, ?_⟩
  · obtain ⟨hp, c1, c2⟩ := hp
    refine ⟨⟨(h1 p hp).1, fun e => c1 (h3 _ _ hp ha e), fun e => c2 (h3 _ _ hp hb e)⟩, ?_⟩
    unfold ctr
    by_cases q : L a = b
    · rw [if_pos q, if_pos (eq.mpr q)]
      exact (h1 p hp).2
    · rw [if_neg q, if_neg (mt eq.mp q), ea, eb]
      have q3 : L a ≠ L b := fun e => hab (by rw [← g2, e, k2])
      by_cases z : p = L a
      · subst z
        rw [lk2_a _ q3, lk2_a _ (fun e => q3 (h3 _ _ g1 k1 e))]
      · by_cases w : p = L b
        · subst w
          rw [lk2_b, lk2_b]
        · rw [lk2_o _ z w, lk2_o _ (fun e => z (h3 _ _ hp g1 e)) (fun e => w (h3 _ _ hp k1 e))]
          exact (h1 p hp).2
  · obtain ⟨c, c1, c2⟩ := hq
    obtain ⟨p, hp, rfl⟩ := h2 q c
    exact ⟨p, ⟨hp, fun e => c1 (by rw [e]), fun e => c2 (by rw [e])⟩, rfl⟩
  · unfold lp
    by_cases q : L a = b
    · rw [if_pos q, if_pos (eq.mpr q)]
    · rw [if_neg q, if_neg (mt eq.mp q)]
/-- the row, other places -/
theorem ur_comm (r : Nat → Nat) {a b : Nat} (h : a ≠ b) (v w : Nat) : ur (ur r a v) b w = ur (ur r b w) a v := by
  funext j
  simp only [ur]
  by_cases q : j = a
  · subst q; rw [if_neg h, if_pos rfl, if_pos rfl]
  · by_cases z : j = b
    · subst z; rw [if_pos rfl, if_neg q, if_pos rfl]
    · rw [if_neg z, if_neg q, if_neg q, if_neg z]
theorem fK_ur {r : Nat → Nat} {j v x : Nat} (h6 : 6 ≤ j) (h30 : j < 30) : fK (ur r j v) x = ur (fK r x) j v := by
  unfold fK
  rw [ur_n (show 5 ≠ j by omega), ur_n (show 1 ≠ j by omega), ur_n (show 3 ≠ j by omega)]
  rw [ur_comm r (show j ≠ 30 + x by omega), ur_comm _ (show j ≠ 330 + r 5 by omega), ur_comm _ (show j ≠ 5 by omega), ur_comm _ (show j ≠ 1 by omega), ur_comm _ (show j ≠ 3 by omega)]
theorem mN_ur {r : Nat → Nat} {j v : Nat} (h6 : 6 ≤ j) (h30 : j < 30) : mN (ur r j v) = mN r := by
  unfold mN
  rw [ur_n (show 5 ≠ j by omega), ur_n (show 4 ≠ j by omega), ur_n (show 330 + (r 5 - 1) ≠ j by omega)]
theorem mK_ur {r : Nat → Nat} {j v k : Nat} (h6 : 6 ≤ j) (h30 : j < 30) : mK (ur r j v) k = ur (mK r k) j v := by
  unfold mK
  rw [mN_ur h6 h30, ur_n (show 1 ≠ j by omega), ur_n (show 2 ≠ j by omega)]
  have : mA (ur r j v) = ur (mA r) j v := by
    unfold mA
    rw [ur_n (show 5 ≠ j by omega), ur_n (show 4 ≠ j by omega)]
    split
    · rw [ur_comm r (show j ≠ 4 by omega)]
    · rw [ur_comm r (show j ≠ 5 by omega)]
  rw [this, ur_comm _ (show j ≠ 30 + mN r by omega), ur_comm _ (show j ≠ 1 by omega), ur_comm _ (show j ≠ 2 by omega)]
theorem WM_ur {r : Nat → Nat} {j v : Nat} (h6 : 6 ≤ j) (h30 : j < 30) (h : WM r) : WM (ur r j v) := by
  obtain ⟨⟨h0, h1, h2⟩, h3, h4, h5⟩ := h
  have e0 := ur_n (r := r) (v := v) (show 0 ≠ j by omega)
  have e1 := ur_n (r := r) (v := v) (show 1 ≠ j by omega)
  have e4 := ur_n (r := r) (v := v) (show 4 ≠ j by omega)
  have e5 := ur_n (r := r) (v := v) (show 5 ≠ j by omega)
  have ek : ∀ n, ur r j v (30 + n) = r (30 + n) := fun n => ur_n (by omega)
  have es : ∀ n, ur r j v (330 + n) = r (330 + n) := fun n => ur_n (by omega)
  refine ⟨⟨by rw [e0]; exact h0, by rw [e4, e1, e5]; exact h1, by rw [e4, e0]; exact h2⟩, ?_, ?_, ?_⟩
  · intro n hn
    rw [ek, e4]
    exact h3 n hn
  · intro k hk
    rw [e5] at hk
    rw [es, e4, ek]
    exact h4 k hk
  · intro i k hik hk
    rw [e5] at hk
    rw [es, es]
    exact h5 i k hik hk
/-- links alone: the rest of the row is as it was -/
theorem aL_lo {r : Nat → Nat} {a b j : Nat} (h : j < 630) : aL r a b j = r j := by
  unfold aL
  rw [ur_n (by omega), ur_n (by omega)]
theorem aL_l (r : Nat → Nat) (a b p : Nat) : aL r a b (630 + p) = lk2 (lk r) a b p := by
  unfold aL lk2 lk
  simp only [ur]
  by_cases q : p = b
  · rw [if_pos (by omega), if_pos q]
  · rw [if_neg (by omega), if_neg q]
    by_cases z : p = a
    · rw [if_pos (by omega), if_pos z]
    · rw [if_neg (by omega), if_neg z]
theorem WM_lo {r t : Nat → Nat} (h : ∀ j, j < 630 → t j = r j) (hw : WM r) : WM t := by
  obtain ⟨⟨h0, h1, h2⟩, h3, h4, h5⟩ := hw
  have h50 : r 5 ≤ 300 := by omega
  refine ⟨⟨by rw [h 0 (by omega)]; exact h0, by rw [h 4 (by omega), h 1 (by omega), h 5 (by omega)]; exact h1, by rw [h 4 (by omega), h 0 (by omega)]; exact h2⟩, ?_, ?_, ?_⟩
  · intro n hn
    rw [h (30 + n) (by omega), h 4 (by omega)]
    exact h3 n hn
  · intro k hk
    rw [h 5 (by omega)] at hk
    have := h4 k hk
    rw [h (330 + k) (by omega), h 4 (by omega), h (30 + r (330 + k)) (by omega)]
    exact this
  · intro i k hik hk
    rw [h 5 (by omega)] at hk
    rw [h (330 + i) (by omega), h (330 + k) (by omega)]
    exact h5 i k hik hk
theorem CM_lo {r t : Nat → Nat} {sn : NSt} (h : ∀ j, j < 630 → t j = r j) (h5 : r 5 ≤ 300) (hc : CM r sn) : CM t sn := by
  obtain ⟨⟨c6, c7, c8, c9⟩, ⟨c11, c10, c12, c13⟩, c3, c0, c2⟩ := hc
  refine ⟨⟨by rw [h 0 (by omega)]; exact c6, by rw [h 1 (by omega)]; exact c7, by rw [h 2 (by omega)]; exact c8, by rw [h 3 (by omega)]; exact c9⟩, ⟨by rw [h 4 (by omega)]; exact c11, by rw [h 5 (by omega)]; exact c10, by rw [h 6 (by omega)]; exact c12, by rw [h 7 (by omega)]; exact c13⟩, ?_, ?_, ?_⟩
  · intro k hk; rw [h (8 + k) (by omega)]; exact c3 k hk
  · intro m hm; rw [h (30 + m) (by omega)]; exact c0 m hm
  · intro k hk
    rw [h 5 (by omega)] at hk
    rw [h (330 + k) (by omega)]
    exact c2 k hk
