/-! trees of the text: links with wires; a name; an eraser -/
def sl (r wl : Nat → Nat) (q v : Nat) : (Nat → Nat) × (Nat → Nat) := if q < 1100 then (ur r (630 + q) v, wl) else (r, ur wl (q - 1100) v)
theorem sl_rk (r wl : Nat → Nat) (q v q' : Nat) : rk (sl r wl q v).1 (sl r wl q v).2 q' = if q' = q then v else rk r wl q' := by
  unfold sl rk
  by_cases a : q < 1100
  · rw [if_pos a]
    simp only
    by_cases b : q' < 1100
    · rw [if_pos b, if_pos b]
      unfold lk
      rw [ur_at]
      by_cases c : q' = q
      · rw [if_pos (by omega), if_pos c]
      · rw [if_neg (by omega), if_neg c]
    · rw [if_neg b, if_neg b, if_neg (by omega)]
  · rw [if_neg a]
    simp only
    by_cases b : q' < 1100
    · rw [if_pos b, if_pos b, if_neg (by omega)]
    · rw [if_neg b, if_neg b, ur_at]
      by_cases c : q' = q
      · rw [if_pos (by omega), if_pos c]
      · rw [if_neg (by omega), if_neg c]
theorem sl_lo (r wl : Nat → Nat) (q v : Nat) {j : Nat} (h : j < 630) : (sl r wl q v).1 j = r j := by
  unfold sl
  split
  · exact ur_n (by omega)
  · rfl
/-- two ends, as the reference ties them -/
def sl2 (r wl : Nat → Nat) (a b : Nat) : (Nat → Nat) × (Nat → Nat) := sl (sl r wl a b).1 (sl r wl a b).2 b a
theorem m_ties_ok {st : OSt} {r wl : Nat → Nat} (h14 : ∀ k, k < 500 → st.2 14 k = nI (wl k)) {a b : Nat} (ha : a < 1016 ∨ (1100 ≤ a ∧ a < 1600)) (hb : b < 1016 ∨ (1100 ≤ b ∧ b < 1600)) : ∃ st', m_ties (sR st r) (nI a) (nI b) = some (sR st' (sl2 r wl a b).1) ∧ (∀ k, k < 500 → st'.2 14 k = nI ((sl2 r wl a b).2 k)) ∧ st'.1 = st.1 ∧ (∀ k, k ≠ 14 → st'.2 k = st.2 k) := by
  have one : ∀ (st : OSt) (r wl : Nat → Nat) (q v : Nat), (q < 1016 ∨ (1100 ≤ q ∧ q < 1600)) → (∀ k, k < 500 → st.2 14 k = nI (wl k)) → ∃ st', (∀ K : OSt → Option OSt, (if nI q < (1100 : Int32) then gd (630 + nI q) 1646 (nm (sA (sR st r) 1 (upd ((sR st r).2 1) (630 + nI q).toNatClampNeg (nI v))) K) else gd (nI q - 1100) 500 (nm (sA (sR st r) 14 (upd ((sR st r).2 14) (nI q - 1100).toNatClampNeg (nI v))) K)) = K (sR st' (sl r wl q v).1)) ∧ (∀ k, k < 500 → st'.2 14 k = nI ((sl r wl q v).2 k)) ∧ st'.1 = st.1 ∧ (∀ k, k ≠ 14 → st'.2 k = st.2 k) := by
    intro st r wl q v hq h14
    unfold sl
    by_cases c : q < 1100
    · refine ⟨st, fun K => ?_, ?_, rfl, fun _ _ => rfl⟩
      · rw [if_pos (show nI q < (1100 : Int32) from nI_lt (b := 1100) c (by omega)), i630, nI_add, gd_nI (by omega) (by omega), nm_eq, nc (by omega), sR_2, upd_nR, sR_A1, if_pos c]
      · rw [if_pos c]; exact h14
    · refine ⟨sA st 14 (upd (st.2 14) (q - 1100) (nI v)), fun K => ?_, fun k hk => ?_, rfl, fun k hk => ?_⟩
      · rw [if_neg (show ¬ nI q < (1100 : Int32) from nI_nlt (b := 1100) (by omega) (by omega)), show (1100 : Int32) = nI 1100 from rfl, n_sub (by omega), gd_nI (by omega) (by omega), nm_eq, nc (by omega), sR_o _ _ (by decide), sR_A _ _ (by decide), if_neg c]
      · rw [if_neg c]
        show upd (st.2 14) (q - 1100) (nI v) k = nI (ur wl (q - 1100) v k)
        rw [upd_at, ur_at]
        split
        · rfl
        · exact h14 k hk
      · rw [sA_2, if_neg hk]
  obtain ⟨s1, x1, x2, x3, x4⟩ := one st r wl a b ha h14
  obtain ⟨s2, y1, y2, y3, y4⟩ := one s1 (sl r wl a b).1 (sl r wl a b).2 b a hb x2
  refine ⟨s2, ?_, y2, y3.trans x3, fun k hk => (y4 k hk).trans (x4 k hk)⟩
  unfold m_ties
  rw [x1 (fun s => m_ties_32 s (nI a) (nI b))]
  unfold m_ties_32
  exact y1 some
theorem BS.tieW {E : Nat → Prop} {L ρ wl r : Nat → Nat} {sn : NSt} {a b : Nat} (h : BS E (fun p => Q0 p ∨ p = a ∨ p = b) L ρ wl r sn) (ha : E a) (hl : L a = b) : BS E Q0 L ρ (sl2 r wl (ρ a) (ρ b)).2 (sl2 r wl (ρ a) (ρ b)).1 sn ∧ (∀ p, xP (sl2 r wl (ρ a) (ρ b)).1 p ↔ xP r p) ∧ (∀ j, j < 630 → (sl2 r wl (ρ a) (ρ b)).1 j = r j) := by
  obtain ⟨⟨w, c, n, t⟩, e1, e2, e3, e4, e5⟩ := h
  have lo : ∀ j, j < 630 → (sl2 r wl (ρ a) (ρ b)).1 j = r j := fun j hj => by
    unfold sl2
    rw [sl_lo _ _ _ _ hj, sl_lo _ _ _ _ hj]
  have xl : ∀ p, xP (sl2 r wl (ρ a) (ρ b)).1 p ↔ xP r p := fun p => xP_lo (fun j h1 h2 => lo j (by omega)) p
  have kl : ∀ m, m < 300 → Kr (sl2 r wl (ρ a) (ρ b)).1 m = Kr r m := fun m hm => lo _ (by omega)
  obtain ⟨g1, g2, g3⟩ := n.2.1.1 a ha
  rw [hl] at g1 g2 g3
  have rks : ∀ q, rk (sl2 r wl (ρ a) (ρ b)).1 (sl2 r wl (ρ a) (ρ b)).2 q = if q = ρ b then ρ a else if q = ρ a then ρ b else rk r wl q := fun q => by
    unfold sl2
    rw [sl_rk, sl_rk]
  refine ⟨⟨⟨WM_lo lo w, CM_lo lo (by obtain ⟨⟨z0, z1, z2⟩, _⟩ := w; omega) c, ⟨n.1, n.2.1.cong (fun _ => Iff.rfl) (fun _ _ => rfl) (fun p _ h9 => kl _ (by omega)), fun m hm => by rw [kl m hm]; exact n.2.2 m hm⟩, t⟩, fun p hp h9 => (xl p).mpr (e1 p hp h9), fun p hp _ => ?_, e3, e4, e5⟩, xl, lo⟩
  rw [rks]
  by_cases pb : p = b
  · rw [pb, if_pos rfl, g2]
  · rw [if_neg (fun z => pb (e5 p b z))]
    by_cases pa : p = a
    · rw [pa, if_pos rfl, hl]
    · rw [if_neg (fun z => pa (e5 p a z))]
      exact e2 p hp (by rintro (z | z | z); exact z; exact pa z; exact pb z)
/-- the reference's object but for what it reads with -/
def RFr (st st' : OSt) : Prop := (∀ k, k ≠ 5 → k ≠ 6 → k ≠ 7 → k ≠ 8 → k ≠ 9 → k ≠ 10 → k ≠ 11 → k ≠ 15 → k ≠ 16 → st'.1 k = st.1 k) ∧ (∀ k, k ≠ 1 → k ≠ 12 → k ≠ 13 → k ≠ 14 → k ≠ 17 → st'.2 k = st.2 k)
theorem RFr.rf (st : OSt) : RFr st st := ⟨fun _ _ _ _ _ _ _ _ _ _ => rfl, fun _ _ _ _ _ _ => rfl⟩
theorem RFr.tr {a b c : OSt} (h : RFr a b) (g : RFr b c) : RFr a c := ⟨fun k h1 h2 h3 h4 h5 h6 h7 h8 h9 => (g.1 k h1 h2 h3 h4 h5 h6 h7 h8 h9).trans (h.1 k h1 h2 h3 h4 h5 h6 h7 h8 h9), fun k h1 h2 h3 h4 h5 => (g.2 k h1 h2 h3 h4 h5).trans (h.2 k h1 h2 h3 h4 h5)⟩
theorem RF.fr {a b : OSt} (h : RF a b) : RFr a b := by
  obtain ⟨x1, x2, x3, x4, x5, rfl⟩ := h
  refine ⟨fun k h1 h2 h3 h4 h5 _ _ _ _ => ?_, fun _ _ _ _ _ _ => rfl⟩
  show (if k = 6 then x1 else if k = 5 then x2 else if k = 7 then x3 else if k = 8 then x4 else if k = 9 then x5 else a.1 k) = a.1 k
  rw [if_neg h2, if_neg h1, if_neg h3, if_neg h4, if_neg h5]
theorem RFr.I (st : OSt) {j : Nat} (hj : j = 10 ∨ j = 11 ∨ j = 15 ∨ j = 16) (v : Int32) : RFr st (sI st j v) := ⟨fun k _ _ _ _ _ h6 h7 h8 h9 => by rw [sI_1, if_neg (by omega)], fun _ _ _ _ _ _ => rfl⟩
theorem RFr.A (st : OSt) {j : Nat} (hj : j = 12 ∨ j = 13 ∨ j = 14 ∨ j = 17) (f : Nat → Int32) : RFr st (sA st j f) := ⟨fun _ _ _ _ _ _ _ _ _ _ => rfl, fun k h1 h2 h3 h4 h5 => by rw [sA_2, if_neg (by omega)]⟩
theorem st_lt {N s e : Nat} {st : OSt} (hN : N ≤ 500) (k4 : st.1 5 = nI s) (hs : s ≤ N) (h : s < e) : ∀ q, q ≤ N → st.1 5 = nI q → q < e := fun q hq z => by
  rw [k4, nI_eq (by omega) (by omega)] at z
  omega
/-- a tree read: both come through, or both tell the same fault -/
def TOk (B : Nat → Nat) (N : Nat) (sa : Nat → Int32) (E : Nat → Prop) (r ρ : Nat → Nat) (wc : Nat) (st : OSt) (cls : Option (Int32 × OSt × NSt)) (ref : Option (Int32 × OSt)) : Prop :=
  ∃ (x e nc' wc' : Nat) (tt' st0 st' : OSt) (sn' : NSt) (E' : Nat → Prop) (L' ρ' wl' r' : Nat → Nat) (nm' : Nat → List Nat) (fi' gi' so' : Nat → Nat), (cls = some (nI x, tt', sn') ∧ ref = some (1, sR st' r') ∧ m_go (sR st0 r') = some (sR st' r')) ∧ RS B N sa E' L' ρ' wl' r' sn' tt' st0 nc' wc' nm' fi' gi' so' ∧ (tt'.1 3 = nI e ∧ st0.1 6 = nI e ∧ e ≤ N) ∧ (st0.1 16 = nI (ρ' x) ∧ st0.1 15 = st.1 15) ∧ WI B N wc' e ∧ (∀ p, uA E' r' wc' p ↔ (uA E r wc p ∨ p = x)) ∧ ¬ uA E r wc x ∧ (∀ p, E p → E' p) ∧ (wc ≤ wc' ∧ wc' ≤ 250 ∧ ∀ p, p < 1016 + wc → ρ' p = ρ p) ∧ (∀ j, j = 0 ∨ (6 ≤ j ∧ j < 30) → r' j = r j) ∧ RFr st st0 ∧ (∀ q, q ≤ N → st.1 5 = nI q → q < e)
def TFl (st : OSt) (cls : Option (Int32 × OSt × NSt)) (ref : Option (Int32 × OSt)) : Prop :=
  ∃ (x' : Int32) (tt' st' : OSt) (sn' : NSt) (r' : Nat → Nat), cls = some (x', tt', sn') ∧ ref = some (0, sR st' r') ∧ FLT tt' st' ∧ nl sn' = 1266 ∧ RFr st st'
