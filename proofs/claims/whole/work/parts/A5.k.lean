/-! the ring: what both sides hold between calls -/
theorem NVC_cong {r t : Nat → Nat} {sn : NSt} (h : ∀ j, j < 1646 → t j = r j) (hv : NV r) (hc : NC r sn) : NV t ∧ NC t sn := by
  have hx : ∀ p, xP t p ↔ xP r p := fun p => by
    unfold xP
    by_cases h9 : p < 900
    · rw [h (30 + p / 3) (by omega)]
      constructor
      · rintro (z | ⟨z, _, _⟩)
        · exact Or.inl z
        · omega
      · rintro (z | ⟨z, _, _⟩)
        · exact Or.inl z
        · omega
    · constructor
      · rintro (⟨z, _⟩ | ⟨z1, z2, z3⟩)
        · exact absurd z h9
        · exact Or.inr ⟨z1, z2, by rw [← h _ (by omega)]; exact z3⟩
      · rintro (⟨z, _⟩ | ⟨z1, z2, z3⟩)
        · exact absurd z h9
        · exact Or.inr ⟨z1, z2, by rw [h _ (by omega)]; exact z3⟩
  have w5 : r 5 ≤ 300 := by
    obtain ⟨⟨z0, z1, z2⟩, _⟩ := hv.1
    omega
  have hw : WR t := by
    obtain ⟨_, ⟨a, b⟩, _⟩ := hv
    refine ⟨by rw [h 6 (by omega)]; exact a, fun i hi => ?_⟩
    rw [h (14 + i) (by omega), h 6 (by omega)]
    exact b i hi
  exact quies_fin (E := xP r) (L := lk r) (K := Kr r) (WM_lo (fun j hj => h j (by omega)) hv.1) hw (CM_lo (fun j hj => h j (by omega)) w5 hc.1) hc.2.1 (fun m hm => h _ (by omega)) hc.2.2.2 hc.2.2.1 hx (fun p hp => h _ (by have := xP_lt hp; omega))
/-- a kept net stands for a row of the reference -/
def KN (o : Option ((Nat → Nat) × NSt)) (g : Nat → Int32) (b : Nat) : Prop := ∃ (q : Nat → Nat) (s : NSt) (rk : Nat → Nat), o = some (q, s) ∧ NV rk ∧ NC rk s ∧ ∀ j, j < 1646 → g (b + j) = nI (rk j)
def TPE (T : Nat) (B : Nat → Nat) (sr : OSt) (ta : Nat → Int32) (st : OSt) : Prop := sr.1 1 = nI T ∧ st.1 3 = nI T ∧ ∀ i, i < T → B i < 256 ∧ ta i = nI (B i) ∧ st.2 2 i &&& 255 = nI (B i)
def RI (V : VS) (sr : OSt) (ta : Nat → Int32) (sc sh sn : NSt) (st : OSt) (r : Nat → Nat) : Prop :=
  (NV r ∧ NC r sc) ∧ (nl sc = 1020 ∧ nl sh = 1020 ∧ nl sn = 1266) ∧ (∃ (T : Nat) (B : Nat → Nat), T ≤ 500 ∧ TPE T B sr ta st) ∧
  (∃ (f c : Nat), (sr.1 10 = nI f ∧ sr.1 11 = nI c ∧ f < 12 ∧ c ≤ 12) ∧ st.1 37 = nI c ∧ ∀ k, k < c → KN (V ((f + k) % 12 + 2)) (st.2 38) (1646 * k)) ∧
  (∀ (i : Nat) (q : Nat → Nat) (s : NSt), V i = some (q, s) → nl s = 1016) ∧
  (∀ k, k < 2 → (sr.2 8 k = 0 ∨ sr.2 8 k = 1) ∧ st.2 40 k = sr.2 8 k ∧ (sr.2 8 k = 1 → KN (V k) (st.2 41) (1646 * k)))
theorem RI.step {V : VS} {sr : OSt} {ta : Nat → Int32} {sc sh sn : NSt} {st : OSt} {r : Nat → Nat} (h : RI V sr ta sc sh sn st r) {sc' sh' sn' : NSt} {st' : OSt} {r' : Nat → Nat} (k : KP st st') (hv : NV r') (hc : NC r' sc') (l1 : nl sc' = 1020) (l2 : nl sh' = 1020) (l3 : nl sn' = 1266) : RI V sr ta sc' sh' sn' st' r' := by
  obtain ⟨_, _, ⟨T, B, a0, a1, a2, a3⟩, ⟨f, c, b1, b2, b3⟩, d, e⟩ := h
  obtain ⟨⟨k3, k2, k38, k41⟩, k37, k40⟩ := k
  exact ⟨⟨hv, hc⟩, ⟨l1, l2, l3⟩, ⟨T, B, a0, a1, by rw [k3]; exact a2, by rw [k2]; exact a3⟩, ⟨f, c, b1, by rw [k37]; exact b2, by rw [k38]; exact b3⟩, d, by rw [k40, k41]; exact e⟩
/-- the net stays -/
theorem RI.same {V : VS} {sr : OSt} {ta : Nat → Int32} {sc sh sn : NSt} {st : OSt} {r : Nat → Nat} (h : RI V sr ta sc sh sn st r) {st' : OSt} (k : KP st st') : RI V sr ta sc sh sn st' r := h.step k h.1.1 h.1.2 h.2.1.1 h.2.1.2.1 h.2.1.2.2
/-- .. but the thought -/
theorem RI.thou {V : VS} {sr : OSt} {ta : Nat → Int32} {sc sh sn : NSt} {st : OSt} {r : Nat → Nat} (h : RI V sr ta sc sh sn st r) {st' : OSt} (k : KP st st') {sh' : NSt} {r' : Nat → Nat} (hr : ∀ j, j < 1646 → r' j = r j) (l2 : nl sh' = 1020) : RI V sr ta sc sh' sn st' r' := h.step k (NVC_cong hr h.1.1 h.1.2).1 (NVC_cong hr h.1.1 h.1.2).2 h.2.1.1 l2 h.2.1.2.2
theorem FA.kp {a b : OSt} (h : FA a b) : KP a b := ⟨⟨h.1 3 (by decide) (by decide), h.2 2 (by decide) (by decide) (by decide) (by decide) (by decide) (by decide), h.2 38 (by decide) (by decide) (by decide) (by decide) (by decide) (by decide), h.2 41 (by decide) (by decide) (by decide) (by decide) (by decide) (by decide)⟩, h.1 37 (by decide) (by decide), h.2 40 (by decide) (by decide) (by decide) (by decide) (by decide) (by decide)⟩
theorem FL.kp {a b : OSt} (h : FL a b) : KP a b := ⟨⟨h.1 3 (by decide) (by decide), h.2 2 (by decide) (by decide) (by decide) (by decide) (by decide) (by decide), h.2 38 (by decide) (by decide) (by decide) (by decide) (by decide) (by decide), h.2 41 (by decide) (by decide) (by decide) (by decide) (by decide) (by decide)⟩, h.1 37 (by decide) (by decide), h.2 40 (by decide) (by decide) (by decide) (by decide) (by decide) (by decide)⟩
theorem FA.a39 {a b : OSt} (h : FA a b) : b.2 39 = a.2 39 := h.2 39 (by decide) (by decide) (by decide) (by decide) (by decide) (by decide)
theorem FL.a39 {a b : OSt} (h : FL a b) : b.2 39 = a.2 39 := h.2 39 (by decide) (by decide) (by decide) (by decide) (by decide) (by decide)
theorem KP.i0 (st : OSt) : KP st (sI st 0 0) := ⟨⟨rfl, rfl, rfl, rfl⟩, rfl, rfl⟩
theorem KP.A39 (st : OSt) (f : Nat → Int32) : KP st (sA st 39 f) := ⟨⟨rfl, rfl, rfl, rfl⟩, rfl, rfl⟩
theorem KP.I26 (st : OSt) (v : Int32) : KP st (sI st 26 v) := ⟨⟨rfl, rfl, rfl, rfl⟩, rfl, rfl⟩
/-! the state is kept ahead of a change -/
theorem keeps11 {st : OSt} {r : Nat → Nat} : ∀ (fuel k : Nat) (g : Nat → Int32), k ≤ 18106 → 18106 - k < fuel → (∀ j, g j = if j < k then st.2 38 (j + 1646) else st.2 38 j) → m_keepsAhead_11 fuel (sR (sA st 38 g) r) (nI k) = some (sR (sA st 38 (fun j => if j < 18106 then st.2 38 (j + 1646) else st.2 38 j)) r) := by
  intro fuel
  induction fuel with
  | zero => intro k g _ h; omega
  | succ n ih =>
    intro k g hk hf hg
    rw [m_keepsAhead_11]
    by_cases q : k = 18106
    · rw [if_pos (show (18106 : Int32) ≤ nI k from nI_le (a := 18106) (by omega) (by omega))]
      have e : g = fun j => if j < 18106 then st.2 38 (j + 1646) else st.2 38 j := by
        funext j
        rw [hg j, q]
      rw [e]
    · rw [if_neg (show ¬ (18106 : Int32) ≤ nI k from nI_ge (b := 18106) (by omega) (by omega)), i1646, nI_add, gd_nI (by omega) (by omega), gd_nI (by omega) (by omega), nm_eq, nc (by omega), nc (by omega), sR_o _ _ (by decide), sA_2, if_pos rfl, sR_A _ _ (by decide), sA_sA, nI_1]
      refine ih (k + 1) _ (by omega) (by omega) (fun j => ?_)
      rw [upd_at, hg j, hg (k + 1646)]
      by_cases z : j = k
      · rw [if_pos z, if_neg (by omega), if_pos (by omega), z]
      · rw [if_neg z]
        by_cases w : j < k
        · rw [if_pos w, if_pos (by omega)]
        · rw [if_neg w, if_neg (by omega)]
def kp50 (g : Nat → Int32) (r : Nat → Nat) (c : Nat) : Nat → Int32 := fun j => if 1646 * c ≤ j ∧ j < 1646 * c + 1646 then nI (r (j - 1646 * c)) else g j
theorem keeps50 {st : OSt} {r : Nat → Nat} {c : Nat} (h : st.1 37 = nI c) (hc : c ≤ 11) : m_keepsAhead_50 (sR st r) = some (sR (sI (sA st 38 (kp50 (st.2 38) r c)) 37 (nI (c + 1))) r) := by
  unfold m_keepsAhead_50
  simp only [nm_eq]
  rw [sR_1, h, i1646, pk_mul, sR_2, sR_o _ _ (by decide), show m_copies 1646 (nR r) 19752 (st.2 38) 0 (nI (1646 * c)) = _ from m_copies_ok (a := 0) (b := 1646 * c) (by omega) (by omega) (by omega) (by omega), bd_s]
  have e : (fun j => if 1646 * c ≤ j ∧ j < 1646 * c + 1646 then nR r (0 + (j - 1646 * c)) else st.2 38 j) = kp50 (st.2 38) r c := by
    funext j
    unfold kp50
    rw [Nat.zero_add, nR_at]
  rw [e, sR_A _ _ (by decide), sR_1, sA_1, h, nI_1, sR_I]
theorem REM.new {x00 : NSt} (h00 : n_clear (n0 0) 200 = some x00) {V : VS} {sr : OSt} {ta : Nat → Int32} {sc sh sn : NSt} {st : OSt} {r : Nat → Nat} (h : RI V sr ta sc sh sn st r) {i : Nat} {q' : Nat → Nat} {s0 s' : NSt} (hv : V i = some (q', s0) ∨ (V i = none ∧ s0 = x00)) (hb : n_become s0 sc = some s') : NC r s' ∧ nl s' = 1016 := by
  have l0 : nl s0 = 1016 := by
    rcases hv with z | ⟨_, z⟩
    · exact h.2.2.2.2.1 _ _ _ z
    · obtain ⟨y, e1, e2⟩ := n_clear_any (sn := n0 0) (Nat.le_of_ble_eq_true rfl) 200
      rw [h00] at e1
      rw [z, Option.some.inj e1, e2]
      rfl
  obtain ⟨y, e1, e2, e3⟩ := n_become_ok (sn := s0) h.1.2 (by omega) (by omega) h.1.1
  rw [hb] at e1
  rw [Option.some.inj e1]
  exact ⟨e2, e3.trans l0⟩
theorem RI.bec {x00 : NSt} (h00 : n_clear (n0 0) 200 = some x00) {V : VS} {sr : OSt} {ta : Nat → Int32} {sc sh sn : NSt} {st : OSt} {r : Nat → Nat} (h : RI V sr ta sc sh sn st r) {i : Nat} (s0 : NSt) (hv : (∃ q, V i = some (q, s0)) ∨ (V i = none ∧ s0 = x00)) : ∃ s', n_become s0 sc = some s' := by
  have l0 : nl s0 = 1016 := by
    rcases hv with ⟨q, z⟩ | ⟨_, z⟩
    · exact h.2.2.2.2.1 _ _ _ z
    · obtain ⟨y, e1, e2⟩ := n_clear_any (sn := n0 0) (Nat.le_of_ble_eq_true rfl) 200
      rw [h00] at e1
      rw [z, Option.some.inj e1, e2]
      rfl
  obtain ⟨y, e1, _⟩ := n_become_ok (sn := s0) h.1.2 (by omega) (by omega) h.1.1
  exact ⟨y, e1⟩
theorem RI.rh {x00 : NSt} (h00 : n_clear (n0 0) 200 = some x00) {V : VS} {sr : OSt} {ta : Nat → Int32} {sc sh sn : NSt} {st : OSt} {r : Nat → Nat} (h : RI V sr ta sc sh sn st r) : RH x00 V sr sc := by
  obtain ⟨f, c, b1, _⟩ := h.2.2.2.1
  exact ⟨h00, f, c, b1, fun s0 hv => h.bec h00 s0 hv⟩
theorem KN.of {o : Option ((Nat → Nat) × NSt)} {g g' : Nat → Int32} {b b' : Nat} (h : KN o g b) (e : ∀ j, j < 1646 → g' (b' + j) = g (b + j)) : KN o g' b' := by
  obtain ⟨q, s, rk, h1, h2, h3, h4⟩ := h
  exact ⟨q, s, rk, h1, h2, h3, fun j hj => (e j hj).trans (h4 j hj)⟩
theorem keeps_ok {x00 : NSt} (h00 : n_clear (n0 0) 200 = some x00) {V : VS} {sr : OSt} {ta : Nat → Int32} {sc sh sn : NSt} {st : OSt} {r : Nat → Nat} (h : RI V sr ta sc sh sn st r) : ∃ st', m_keepsAhead (sR st r) = some (sR st' r) ∧ ∀ V' sr', REM x00 V sr sc V' sr' → RI V' sr' ta sc sh sn st' r := by
  have h' := h
  obtain ⟨hn, hl, ⟨T, B, a0, a1, a2, a3⟩, ⟨f, c, ⟨b1, b2, b3, b4⟩, b5, b6⟩, d, e⟩ := h
  have fin : ∀ (g : Nat → Int32) (c0 f' : Nat) (st' : OSt), (∀ k, k ≠ 37 → st'.1 k = st.1 k) → (∀ k, k ≠ 38 → st'.2 k = st.2 k) → st'.1 37 = nI (c0 + 1) → st'.2 38 = kp50 g r c0 → f' < 12 → c0 < 12 → (f' + c0) % 12 = (f + c) % 12 → f' = (if c = 12 then (f + 1) % 12 else f) → c0 + 1 = (if c = 12 then 12 else c + 1) → (∀ k, k < c0 → KN (V ((f' + k) % 12 + 2)) g (1646 * k)) → ∀ V' sr', REM x00 V sr sc V' sr' → RI V' sr' ta sc sh sn st' r := by
    intro g c0 f' st' k1 k2 k37 k38 hf hc0 hs ef ec hk V' sr' hr
    obtain ⟨f2, c2, q', s0, s', ⟨z1, z2, z3, z4⟩, hv, hb, eV, es⟩ := hr
    have e1 : f2 = f := (nI_eq (a := f2) (b := f) (by omega) (by omega)).mp (z1.symm.trans b1)
    have e2 : c2 = c := (nI_eq (a := c2) (b := c) (by omega) (by omega)).mp (z2.symm.trans b2)
    subst e1
    subst e2
    obtain ⟨n1, n2⟩ := REM.new h00 h' hv hb
    rw [← ef, ← ec] at es
    subst es
    subst eV
    refine ⟨hn, hl, ⟨T, B, a0, a1, ?_, ?_⟩, ⟨f', c0 + 1, ⟨rfl, rfl, hf, by omega⟩, k37, ?_⟩, ?_, ?_⟩
    · rw [k1 3 (by decide)]; exact a2
    · rw [k2 2 (by decide)]; exact a3
    · intro k hk1
      rw [k38]
      by_cases z : k = c0
      · rw [z, hs, vup_s]
        refine ⟨q', s', r, rfl, hn.1, n1, fun j hj => ?_⟩
        unfold kp50
        rw [if_pos (by omega), show 1646 * c0 + j - 1646 * c0 = j by omega]
      · rw [vup_n (by omega)]
        refine (hk k (by omega)).of (fun j hj => ?_)
        unfold kp50
        rw [if_neg (by omega)]
    · intro i q s hq
      by_cases z : i = (f2 + c2) % 12 + 2
      · rw [z, vup_s] at hq
        have := Option.some.inj hq
        rw [show s = s' from (congrArg Prod.snd this).symm]
        exact n2
      · rw [vup_n z] at hq
        exact d i q s hq
    · intro k hk2
      rw [k2 40 (by decide), k2 41 (by decide), vup_n (by omega)]
      exact e k hk2
  by_cases z : c = 12
  · subst z
    have E1 := keeps11 (st := st) (r := r) 20000 0 (st.2 38) (by omega) (by omega) (fun j => by rw [if_neg (by omega)])
    have es : sA st 38 (st.2 38) = st := by
      unfold sA
      refine Prod.ext rfl ?_
      funext j
      show (if j = 38 then st.2 38 else st.2 j) = st.2 j
      split
      · rename_i w; rw [w]
      · rfl
    rw [es] at E1
    obtain ⟨g, hg⟩ : ∃ u, u = (fun j => if j < 18106 then st.2 38 (j + 1646) else st.2 38 j) := ⟨_, rfl⟩
    rw [← hg] at E1
    have E2 := keeps50 (st := sI (sA st 38 g) 37 (nI 11)) (r := r) (c := 11) rfl (by omega)
    refine ⟨sI (sA (sI (sA st 38 g) 37 (nI 11)) 38 (kp50 ((sI (sA st 38 g) 37 (nI 11)).2 38) r 11)) 37 (nI (11 + 1)), ?_, fin g 11 ((f + 1) % 12) _ (fun k hk => ?_) (fun k hk => ?_) rfl ?_ (by omega) (by omega) (by omega) (by rw [if_pos rfl]) (by rw [if_pos rfl]) ?_⟩
    · unfold m_keepsAhead
      rw [sR_1, b5, if_pos (show nI 12 = (12 : Int32) from rfl), show m_keepsAhead_11 20000 (sR st r) 0 = _ from E1, bd_s, nm_eq, sR_1, sA_1, b5, show nI 12 - 1 = nI 11 by decide, sR_I]
      exact E2
    · rw [sI_1, if_neg hk, sA_1, sI_1, if_neg hk, sA_1]
    · rw [sI_2, sA_2, if_neg hk, sI_2, sA_2, if_neg hk]
    · rw [sI_2, sA_2, if_pos rfl, sI_2, sA_2, if_pos rfl]
    · intro k hk
      have hh := b6 (k + 1) (by omega)
      rw [show ((f + 1) % 12 + k) % 12 = (f + (k + 1)) % 12 by omega]
      refine hh.of (fun j hj => ?_)
      rw [hg]
      show (if 1646 * k + j < 18106 then st.2 38 (1646 * k + j + 1646) else _) = _
      rw [if_pos (by omega), show 1646 * k + j + 1646 = 1646 * (k + 1) + j by omega]
  · have E2 := keeps50 (st := st) (r := r) (c := c) b5 (by omega)
    refine ⟨sI (sA st 38 (kp50 (st.2 38) r c)) 37 (nI (c + 1)), ?_, fin (st.2 38) c f _ (fun k hk => ?_) (fun k hk => ?_) rfl ?_ b3 (by omega) rfl (by rw [if_neg z]) (by rw [if_neg z]) b6⟩
    · unfold m_keepsAhead
      rw [sR_1, b5, if_neg (show ¬ nI c = (12 : Int32) from fun w => z ((nI_eq (a := c) (b := 12) (by omega) (by omega)).mp w))]
      exact E2
    · rw [sI_1, if_neg hk, sA_1]
    · rw [sI_2, sA_2, if_neg hk]
    · rw [sI_2, sA_2, if_pos rfl]
