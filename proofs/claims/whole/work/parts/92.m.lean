/-! the reference joins wires: from every place that is no wire -/
theorem j24_eq {n : Nat} {st : OSt} {r : Nat → Nat} {p : Nat} (hp : p < 1016) (hk : ∀ m, m < 300 → r (30 + m) ≤ 3) (h14 : ∀ i, i < 16 → r (14 + i) ≤ 1) :
    (¬ xP r p → m_joinsWires_24 (n + 1) (sR st r) (nI p) = m_joinsWires_24 n (sR st r) (nI (p + 1))) ∧
    (xP r p → lk r p < 2147483648 → m_joinsWires_24 (n + 1) (sR st r) (nI p) = if lk r p < 1100 then m_joinsWires_24 n (sR st r) (nI (p + 1)) else bd (m_beyond (sR st r) (nI (lk r p))) fun x11 => bd (m_links x11.2 (nI p) x11.1) fun x12 => m_joinsWires_24 n x12 (nI (p + 1))) := by
  have inn : lk r p < 2147483648 → (gd (630 + nI p) 1646 (if (nR r (630 + nI p).toNatClampNeg) < 1100 then m_joinsWires_24 n (sR st r) (nI p + 1) else gd (630 + nI p) 1646 (bd (m_beyond (sR st r) (nR r (630 + nI p).toNatClampNeg)) fun x11 => bd (m_links x11.2 (nI p) x11.1) fun x12 => m_joinsWires_24 n x12 (nI p + 1)))) = if lk r p < 1100 then m_joinsWires_24 n (sR st r) (nI (p + 1)) else bd (m_beyond (sR st r) (nI (lk r p))) fun x11 => bd (m_links x11.2 (nI p) x11.1) fun x12 => m_joinsWires_24 n x12 (nI (p + 1)) := by
    intro hl
    rw [i630, nI_add, gd_nI (by omega) (by omega), gd_nI (by omega) (by omega), nc_ (by omega), nR_at, nI_1]
    by_cases z : lk r p < 1100
    · rw [if_pos (show nI (r (630 + p)) < (1100 : Int32) from nI_lt (b := 1100) z (by omega)), if_pos z]
    · rw [if_neg (show ¬ nI (r (630 + p)) < (1100 : Int32) from nI_nlt (b := 1100) (Nat.le_of_not_lt z) hl), if_neg z]
      rfl
  rw [m_joinsWires_24, if_neg (show ¬ (1016 : Int32) ≤ nI p from nI_ge (b := 1016) hp (by omega)), sR_2]
  by_cases p9 : p < 900
  · have k3 := hk (p / 3) (by omega)
    rw [if_neg (show ¬ (900 : Int32) ≤ nI p from nI_ge (b := 900) p9 (by omega)), i3, n_div (by omega) (by omega) (by omega), pk_mul, n_sub (by omega), sub_dm, i30, nI_add, gd_nI (by omega) (by omega), nc_ (by omega), nR_at r (30 + p / 3)]
    by_cases k0 : r (30 + p / 3) = 0
    · rw [if_pos (show nI (r (30 + p / 3)) ≤ (0 : Int32) by rw [k0]; decide), nI_1]
      refine ⟨fun _ => rfl, fun z => ?_⟩
      rcases z with z | z <;> omega
    · rw [if_neg (show ¬ nI (r (30 + p / 3)) ≤ (0 : Int32) from nI_ge (a := 0) (by omega) (by omega))]
      by_cases m3 : p % 3 = 0
      · rw [if_pos (show nI (p % 3) = (0 : Int32) by rw [m3]; rfl)]
        exact ⟨fun z => absurd (Or.inl ⟨p9, by omega, Or.inl m3⟩) z, fun _ z => inn z⟩
      · rw [if_neg (show ¬ nI (p % 3) = (0 : Int32) from nI_ne0 (by omega) (by omega)), gd_nI (by omega) (by omega)]
        by_cases k1 : r (30 + p / 3) = 1
        · rw [if_pos (show nI (r (30 + p / 3)) ≤ (1 : Int32) by rw [k1]; decide), nI_1]
          refine ⟨fun _ => rfl, fun z => ?_⟩
          rcases z with z | z <;> omega
        · rw [if_neg (show ¬ nI (r (30 + p / 3)) ≤ (1 : Int32) from nI_ge (a := 1) (by omega) (by omega))]
          exact ⟨fun z => absurd (Or.inl ⟨p9, by omega, Or.inr (by omega)⟩) z, fun _ z => inn z⟩
  · rw [if_pos (show (900 : Int32) ≤ nI p from nI_le (a := 900) (by omega) (by omega))]
    by_cases p10 : p < 1000
    · rw [if_pos (show nI p < (1000 : Int32) from nI_lt (b := 1000) p10 (by omega)), nI_1]
      refine ⟨fun _ => rfl, fun z => ?_⟩
      rcases z with z | z <;> omega
    · have k1 := h14 (p - 1000) (by omega)
      rw [if_neg (show ¬ nI p < (1000 : Int32) from nI_nlt (b := 1000) (by omega) (by omega)), i14, nI_add, i1000, n_sub (by omega), show 14 + p - 1000 = 14 + (p - 1000) by omega, gd_nI (by omega) (by omega), nc_ (by omega), nR_at r (14 + (p - 1000))]
      by_cases k0 : r (14 + (p - 1000)) = 1
      · rw [if_pos (show nI (r (14 + (p - 1000))) = (1 : Int32) by rw [k0]; rfl)]
        exact ⟨fun z => absurd (Or.inr ⟨by omega, hp, k0⟩) z, fun _ z => inn z⟩
      · rw [if_neg (show ¬ nI (r (14 + (p - 1000))) = (1 : Int32) by rw [show r (14 + (p - 1000)) = 0 by omega]; decide), nI_1]
        refine ⟨fun _ => rfl, fun z => ?_⟩
        rcases z with z | z <;> omega
theorem joins24_ok {X : Nat → Prop} {L0 wl : Nat → Nat} {nc : Nat} (w : WX X L0 wl nc) : ∀ (fuel p : Nat) (l : List Nat) (st : OSt) (r : Nat → Nat), p ≤ 1016 → 1016 - p < fuel → okl l X → (∀ i, i ∈ l → i < nc) → cC l L0 = 0 → (∀ q, cX l X q → 1100 ≤ q → cL l L0 q = L0 q) → (∀ q, q < 1100 → (xP r q ↔ X q)) → (∀ q, X q → q < 1100 → cL l L0 q = lk r q) → (∀ q, X q → q < p → lk r q < 1100) → SE st (fun i => i ∈ l) → (∀ k, k < 500 → st.2 14 k = nI (wl k)) → (∀ m, m < 300 → r (30 + m) ≤ 3) → (∀ i, i < 16 → r (14 + i) ≤ 1) →
    ∃ (l' : List Nat) (st' : OSt) (r' : Nat → Nat), m_joinsWires_24 fuel (sR st r) (nI p) = some (sR st' r') ∧ okl l' X ∧ (∀ i, i ∈ l' → i < nc) ∧ cC l' L0 = 0 ∧ (∀ q, cX l' X q → 1100 ≤ q → cL l' L0 q = L0 q) ∧ (∀ q, X q → q < 1100 → cL l' L0 q = lk r' q ∧ lk r' q < 1100) ∧ SE st' (fun i => i ∈ l') ∧ (∀ j, j < 630 → r' j = r j) ∧ st'.1 = st.1 ∧ (∀ k, k ≠ 18 → st'.2 k = st.2 k) := by
  intro fuel
  induction fuel with
  | zero => intro p _ _ _ _ h; omega
  | succ n ih =>
    intro p l st r hp hf o hl hc un hx hr hlt hS hw hk h14
    have hm := w.1.1
    by_cases q : p = 1016
    · refine ⟨l, st, r, ?_, o, hl, hc, un, fun q hq q11 => ⟨hr q hq q11, hlt q hq ?_⟩, hS, fun _ _ => rfl, rfl, fun _ _ => rfl⟩
      · rw [m_joinsWires_24, if_pos (show (1016 : Int32) ≤ nI p from nI_le (a := 1016) (by omega) (by omega))]
      · have := w.2.2.2.2 q hq q11
        omega
    obtain ⟨e1, e2⟩ := j24_eq (n := n) (st := st) (r := r) (p := p) (by omega) hk h14
    by_cases hX : X p
    · have hxp := (hx p (by omega)).mpr hX
      have hcp : cX l X p := (cX_lo (by omega)).mpr hX
      have mi := MT.cl l hm o
      have lkp := hr p hX (by omega)
      have lX : X (lk r p) := by
        have := (mi p hcp).1
        rw [lkp] at this
        exact ((cX_iff l X _).mp this).1
      have big : lk r p < 2000 := by
        by_cases z : lk r p < 1100
        · omega
        · obtain ⟨j, hj, y⟩ := w.2.1 _ lX (by omega)
          have := w.1.2
          unfold wa wb at y
          omega
      have e3 := e2 hxp (by omega)
      by_cases z : lk r p < 1100
      · rw [if_pos z] at e3
        obtain ⟨l', st', r', f1, f2⟩ := ih (p + 1) l st r (by omega) (by omega) o hl hc un hx hr (fun q hq q1 => by
          by_cases y : q = p
          · rw [y]; exact z
          · exact hlt q hq (by omega)) hS hw hk h14
        exact ⟨l', st', r', e3.trans f1, f2⟩
      · rw [if_neg z] at e3
        obtain ⟨l1, st1, to, b1, b2, b3, b4, b5, b6, b7, b8, b9, b10, b11, b12⟩ := beyond_ok (r := r) w 20000 l st p (lk r p) o hl hcp (by omega) lkp (fun q h1 h2 _ => un q h1 h2) hS hw (by have := rmn_le l nc; have := w.1.2; omega)
        have m1 := MT.cl l1 hm b3
        have hcp1 : cX l1 X p := (cX_lo (by omega)).mpr hX
        obtain ⟨t1, t2, t3⟩ := m1 p hcp1
        rw [b6] at t1 t2 t3
        have tX : X to := ((cX_iff l1 X _).mp t1).1
        have to16 := w.2.2.2.2 to tX b2
        obtain ⟨r1, hr1⟩ : ∃ u, u = aL r p to := ⟨_, rfl⟩
        have lo : ∀ j, j < 630 → r1 j = r j := fun j hj => by rw [hr1]; exact aL_lo hj
        have lk1 : lk r1 = lk2 (lk r) p to := by rw [hr1, lk_aL]
        have e4 : m_joinsWires_24 (n + 1) (sR st r) (nI p) = m_joinsWires_24 n (sR st1 r1) (nI (p + 1)) := by
          rw [e3]
          unfold m_beyond
          rw [b1, bd_s, bd_s]
          simp only
          rw [m_links_ok (by omega) to16, bd_s, hr1]
        obtain ⟨l', st', r', f1, f2, f3, f4, f5, f6, f7, f8, f9, f10⟩ := ih (p + 1) l1 st1 r1 (by omega) (by omega) b3 b4 (b5.trans hc) b7 (fun q hq => by rw [xP_lo (fun j h1 h2 => lo j (by omega)) q]; exact hx q hq) (fun q hq q11 => by
          rw [lk1]
          by_cases y : q = to
          · rw [y, lk2_b, t2]
          · by_cases y2 : q = p
            · rw [y2, lk2_a _ (Ne.symm t3), b6]
            · rw [lk2_o _ y2 y, b8 q hq q11 y2 y]
              exact hr q hq q11) (fun q hq q1 => by
          rw [lk1]
          by_cases y : q = to
          · rw [y, lk2_b]; omega
          · by_cases y2 : q = p
            · rw [y2, lk2_a _ (Ne.symm t3)]; exact b2
            · rw [lk2_o _ y2 y]
              exact hlt q hq (by omega)) b9 (fun k hk5 => by rw [b11 14 (by decide)]; exact hw k hk5) (fun m hm3 => by rw [lo _ (by omega)]; exact hk m hm3) (fun i hi => by rw [lo _ (by omega)]; exact h14 i hi)
        exact ⟨l', st', r', e4.trans f1, f2, f3, f4, f5, f6, f7, fun j hj => (f8 j hj).trans (lo j hj), f9.trans b10, fun k hk18 => (f10 k hk18).trans (b11 k hk18)⟩
    · have e3 := e1 (fun z => hX ((hx p (by omega)).mp z))
      obtain ⟨l', st', r', f1, f2⟩ := ih (p + 1) l st r (by omega) (by omega) o hl hc un hx hr (fun q hq q1 => by
        by_cases y : q = p
        · rw [y] at hq; exact absurd hq hX
        · exact hlt q hq (by omega)) hS hw hk h14
      exact ⟨l', st', r', e3.trans f1, f2⟩
