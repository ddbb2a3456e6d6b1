/-! a name read by both -/
theorem WI.at {B : Nat → Nat} {N wc p s : Nat} (h : WI B N wc p) (hp : p ≤ s) (hs : s < N) (hL : isL (B s)) : 2 * wc ≤ s := by
  rcases h with h | ⟨h1, h2⟩
  · omega
  · by_cases q : s = p
    · subst q; exact absurd hL (h2 hs)
    · omega
theorem WI.mono {B : Nat → Nat} {N wc p q : Nat} (h : WI B N wc p) (hq : p < q) : WI B N wc q := by
  rcases h with h | ⟨h1, _⟩
  · exact Or.inl (by omega)
  · exact Or.inl (by omega)
theorem uA_ext {E : Nat → Prop} {r : Nat → Nat} {wc : Nat} (hE : ∀ p, E p → 900 ≤ p → 1016 ≤ p ∧ p < 1016 + wc) (p : Nat) : uA E r (wc + 1) p ↔ (uA E r wc p ∨ p = 1016 + wc) := by
  unfold uA
  constructor
  · rintro (z | ⟨z1, z2, z3⟩)
    · exact Or.inl (Or.inl z)
    · by_cases q : p = 1016 + wc
      · exact Or.inr q
      · exact Or.inl (Or.inr ⟨z1, by omega, z3⟩)
  · rintro ((z | ⟨z1, z2, z3⟩) | z)
    · exact Or.inl z
    · exact Or.inr ⟨z1, by omega, z3⟩
    · refine Or.inr ⟨by omega, by omega, fun w => ?_⟩
      have := hE p w (by omega)
      omega
/-- a wire gets its name -/
theorem BS.wire {E Q : Nat → Prop} {L ρ wl r : Nat → Nat} {sn : NSt} (h : BS E Q L ρ wl r sn) {w v : Nat} (hw : 1016 ≤ w) (hE : ¬ E w) (hv : 1100 ≤ v) (hn : ∀ p, p ≠ w → ρ p ≠ v) : BS E Q L (ur ρ w v) wl r sn := by
  obtain ⟨e0, e1, e2, e3, e4, e5⟩ := h
  have ne : ∀ p, E p → p ≠ w := fun p hp z => hE (z ▸ hp)
  refine ⟨e0, e1, fun p hp hQ => ?_, fun p hp => ?_, fun p hp => ?_, fun p q z => ?_⟩
  · rw [ur_n (ne p hp), ur_n (ne _ (e0.2.2.1.2.1.1 p hp).1)]
    exact e2 p hp hQ
  · rw [ur_n (by omega)]
    exact e3 p hp
  · rw [ur_at]
    split
    · exact hv
    · exact e4 p hp
  · rw [ur_at, ur_at] at z
    by_cases a : p = w
    · by_cases b : q = w
      · rw [a, b]
      · rw [if_pos a, if_neg b] at z
        exact absurd z.symm (hn q b)
    · by_cases b : q = w
      · rw [if_neg a, if_pos b] at z
        exact absurd z (hn p a)
      · rw [if_neg a, if_neg b] at z
        exact e5 p q z
theorem name_ok {B : Nat → Nat} {N : Nat} {sa : Nat → Int32} {E : Nat → Prop} {L ρ wl r : Nat → Nat} {sn : NSt} {tt st : OSt} {nc wc : Nat} {nm : Nat → List Nat} {fi gi so : Nat → Nat} {s e e' p0 : Nat} (h : RS B N sa E L ρ wl r sn tt st nc wc nm fi gi so) (tk : TOK B N tt st s e e') (h4 : tt.1 4 = 2) (hwi : WI B N wc p0) (hp0 : p0 ≤ s) :
    TOk B N sa E r ρ wc st (bd (t_readName tt 500 sa sn) fun x1 => some (x1.1, x1.2, sn)) (bd (m_name (sR st r)) fun x3 => gb x3.1 (some (x3.1, x3.2))) ∨ TFl st (bd (t_readName tt 500 sa sn) fun x1 => some (x1.1, x1.2, sn)) (bd (m_name (sR st r)) fun x3 => gb x3.1 (some (x3.1, x3.2))) := by
  obtain ⟨tp, bs, hnl, hwl, nms, hEw, f7, f10⟩ := h
  obtain ⟨k1, k2, k3, k4, tkr⟩ := tk
  have hN := tp.1
  have tk2 : ∃ l : List Nat, (e = e' ∧ s < e ∧ e ≤ N ∧ isL (B s) ∧ (e < N → ¬ isL (B e))) ∧ lett l ∧ 1 ≤ l.length ∧ l.length ≤ 5 ∧ tt.1 6 = nI (e27 l) ∧ st.1 9 = nI (e32 l) := by
    rcases tkr with ⟨z, _⟩ | ⟨_, _, z, l, hl⟩ | ⟨z, _⟩ | ⟨z, _⟩ | ⟨c, hc, z, _⟩ | ⟨z, _⟩
    · rw [h4] at z; exact absurd z (by decide)
    · exact ⟨l, z, hl⟩
    · rw [h4] at z; exact absurd z (by decide)
    · rw [h4] at z; exact absurd z (by decide)
    · rw [h4] at z
      have : nI 2 = nI c := z
      rw [nI_eq (by omega) (by unfold isSg at hc; omega)] at this
      unfold isSg at hc
      omega
    · rw [h4] at z; exact absurd z (by decide)
  obtain ⟨l, ⟨ee, se, eN, sL, eL⟩, hl, l1, l5, v6, w9⟩ := tk2
  subst ee
  have hw2 := hwi.at hp0 (by omega) sL
  have hnm := nms
  obtain ⟨⟨a1, a2, a3, a4⟩, b, cd', d, f, g⟩ := nms
  obtain ⟨k, x1, x2, x3, x4, x5⟩ := index_ok (sa := sa) (sn := sn) hnm (by omega) hl l5 w9 r
  have wi' : WI B N (wc + 1) e := by
    by_cases q : 2 * (wc + 1) ≤ e
    · exact Or.inl q
    · exact Or.inr ⟨by omega, eL⟩
  -- which value the wire gets
  have hwE : ¬ E (1016 + wc) := fun z => by have := hEw _ z (by omega); omega
  have rn : ∀ v j, v = 1100 + 2 * k + j → (j = 0 → k = nc) → (j = 1 → k < nc ∧ so k = 1) → j ≤ 1 → ∀ p, p ≠ 1016 + wc → ρ p ≠ v := by
    intro v j hv j0 j1 jj p hp z
    by_cases p1 : p < 1016
    · rw [bs.2.2.2.1 p p1] at z; omega
    · obtain ⟨m, rfl⟩ : ∃ m, p = 1016 + m := ⟨p - 1016, by omega⟩
      by_cases mw : m < wc
      · obtain ⟨i, hi, hh⟩ := f m mw
        obtain ⟨c1, c2, c3, c4, c5⟩ := d i hi
        rcases hh with hh | ⟨hs, hh⟩
        · rw [hh, c3] at z
          have : j = 0 ∨ j = 1 := by omega
          rcases this with y | y
          · have := j0 y; omega
          · omega
        · rcases c5 with ⟨y, _⟩ | ⟨_, _, _, y⟩
          · omega
          · rw [hh, y] at z
            have : j = 1 := by omega
            have q := j1 this
            have : i = k := by omega
            rw [this] at hs
            omega
      · rw [g m (by omega)] at z
        omega
  have w12 : tt.1 12 = nI wc := a3
  by_cases hk : k = nc
  · -- a new name
    left
    subst hk
    obtain ⟨st1, hst1⟩ : ∃ u, u = sI (sA (sA st 12 (upd (st.2 12) k (st.1 9))) 13 (upd (st.2 13) k 0)) 11 (nI (k + 1)) := ⟨_, rfl⟩
    obtain ⟨st0, hst0⟩ : ∃ u, u = sA (sI st1 16 (nI (1100 + 2 * k + 0))) 13 (upd (upd (st.2 13) k 0) k (nI (0 + 1))) := ⟨_, rfl⟩
    obtain ⟨tt', htt⟩ : ∃ u, u = sI (sA (sA (sA (sI tt 12 (nI (wc + 1))) 8 (upd (tt.2 8) k (tt.1 6))) 9 (upd (tt.2 9) k (nI (1016 + wc)))) 10 (upd (tt.2 10) k (-1))) 11 (nI (k + 1)) := ⟨_, rfl⟩
    have cls : t_readName tt 500 sa sn = some (nI (1016 + wc), tt') := by
      unfold t_readName
      simp only [nm_eq]
      rw [v6, x4, bd_s, if_pos (show nI k < (250 : Int32) from nI_lt (b := 250) (by omega) (by omega)), show (sI tt 12 (tt.1 12 + 1)).1 11 = tt.1 11 from rfl, a1, if_pos rfl, gd_nI (by omega) (by omega), gd_nI (by omega) (by omega), gd_nI (by omega) (by omega), nc_ (by omega), w12, i1016, nI_add, nI_1]
      rw [show (sA (sA (sA (sI tt 12 (nI (wc + 1))) 8 (upd ((sI tt 12 (nI (wc + 1))).2 8) k ((sI tt 12 (nI (wc + 1))).1 6))) 9 (upd ((sA (sI tt 12 (nI (wc + 1))) 8 (upd ((sI tt 12 (nI (wc + 1))).2 8) k ((sI tt 12 (nI (wc + 1))).1 6))).2 9) k (nI (1016 + wc)))) 10 (upd ((sA (sA (sI tt 12 (nI (wc + 1))) 8 (upd ((sI tt 12 (nI (wc + 1))).2 8) k ((sI tt 12 (nI (wc + 1))).1 6))) 9 (upd ((sA (sI tt 12 (nI (wc + 1))) 8 (upd ((sI tt 12 (nI (wc + 1))).2 8) k ((sI tt 12 (nI (wc + 1))).1 6))).2 9) k (nI (1016 + wc)))).2 10) k (-1))).1 11 = nI k from a1, nI_1, htt]
      rfl
    have hgo : ∀ x st', m_go (sR st0 r) = some (sR st' r) → x = sR st' r → m_name (sR st r) = some (1, x) := by
      intro x st' hg hx
      have na : m_nameAt (sR st r) = some (nI k, sR st1 r) := by
        unfold m_nameAt m_nameAt_29
        simp only [nm_eq]
        rw [x5, bd_s, sR_1, a2, if_pos rfl, gd_nI (by omega) (by omega), gd_nI (by omega) (by omega), nc_ (by omega), sR_o _ _ (by decide), sR_A _ _ (by decide), sR_o _ _ (by decide), sR_A _ _ (by decide), sR_1, hst1]
        rw [show (sA (sA st 12 (upd (st.2 12) k (st.1 9))) 13 (upd ((sA st 12 (upd (st.2 12) k (st.1 9))).2 13) k 0)).1 11 = nI k from a2, nI_1, sR_I]
        rfl
      have s13 : st1.2 13 k = nI 0 := by rw [hst1]; show upd (st.2 13) k 0 k = _; rw [upd_at, if_pos rfl]; rfl
      unfold m_name
      simp only [nm_eq]
      rw [na, bd_s]
      simp only
      rw [gd_nI (by omega) (by omega), nc_ (by omega), sR_o _ _ (by decide), s13, if_neg (show ¬ nI 0 = 2 by decide), gd_nI (by omega) (by omega), gd_nI (by omega) (by omega), gd_nI (by omega) (by omega), sR_I, sR_o _ _ (by decide), sR_A _ _ (by decide), show (1100 : Int32) = nI 1100 from rfl, i2, pk_mul, nI_add, nI_add]
      rw [show (sI st1 16 (nI (1100 + 2 * k + 0))).2 13 = st1.2 13 from rfl, s13, nI_1]
      have e0 : sR (sA (sI st1 16 (nI (1100 + 2 * k + 0))) 13 (upd (st1.2 13) k (nI (0 + 1)))) r = sR st0 r := by rw [hst0, hst1]; rfl
      rw [e0, hg, bd_s, hx]
    have tp0 : TP B N sa tt' st0 := by rw [htt, hst0, hst1]; exact tp
    have p6 : st0.1 6 = nI e := by rw [hst0, hst1]; exact k3
    have p3 : tt'.1 3 = nI e := by rw [htt]; exact k1
    have p7 : tt'.1 7 = 0 := by rw [htt]; exact f7
    obtain ⟨tt2, st', _, _, _, _, hg, _, _, _, rf⟩ := adv_ok (sn := sn) tp0 p7 eN p3 p6 r
    have rho : ∀ i, i < k → ur ρ (1016 + wc) (1100 + 2 * k) (1016 + fi i) = ρ (1016 + fi i) := fun i hi => ur_n (by have := (d i hi).2.1; omega)
    refine ⟨1016 + wc, e, k + 1, wc + 1, tt', st0, st', sn, E, L, ur ρ (1016 + wc) (1100 + 2 * k), wl, r, fun i => if i = k then l else nm i, fun i => if i = k then wc else fi i, gi, fun i => if i = k then 1 else so i, ⟨?_, ?_, hg⟩, ⟨tp0, bs.wire (by omega) hwE (by omega) (rn _ 0 (by omega) (fun _ => rfl) (fun z => by omega) (by omega)), hnl, ?_, ⟨⟨?_, ?_, ?_, by omega⟩, ?_, ?_, ?_, ?_, ?_⟩, fun p hp h1 => by have := hEw p hp h1; omega, p7, ?_⟩, ⟨p3, p6, eN⟩, ⟨?_, ?_⟩, wi', uA_ext hEw, fun z => ?_, fun p hp => hp, ⟨by omega, by omega, fun p hp => ur_n (by omega)⟩, fun _ _ => rfl, ?_, st_lt hN k4 (by omega) se⟩
    · rw [cls, bd_s]
    · rw [hgo _ st' hg rfl, bd_s]
      rfl
    · rw [hst0, hst1]; exact hwl
    · rw [htt]; rfl
    · rw [hst0, hst1]; rfl
    · rw [htt]; rfl
    · intro i hi
      have t8 : tt'.2 8 = upd (tt.2 8) k (tt.1 6) := by rw [htt]; rfl
      have s12 : st0.2 12 = upd (st.2 12) k (st.1 9) := by rw [hst0, hst1]; rfl
      rw [t8, s12, upd_at, upd_at]
      by_cases q : i = k
      · simp only [if_pos q]
        exact ⟨hl, l1, l5, v6, w9⟩
      · simp only [if_neg q]
        exact b i (by omega)
    · intro i j hij hj
      show (if i = k then l else nm i) ≠ (if j = k then l else nm j)
      rw [if_neg (by omega)]
      by_cases q : j = k
      · rw [if_pos q]; exact x3 i (by omega)
      · rw [if_neg q]; exact cd' i j hij (by omega)
    · intro i hi
      have t9 : tt'.2 9 = upd (tt.2 9) k (nI (1016 + wc)) := by rw [htt]; rfl
      have t10 : tt'.2 10 = upd (tt.2 10) k (-1) := by rw [htt]; rfl
      have s13 : st0.2 13 = upd (upd (st.2 13) k 0) k (nI (0 + 1)) := by rw [hst0]; rfl
      by_cases q : i = k
      · have e1 : tt'.2 9 i = nI (1016 + wc) := by rw [t9, upd_at, if_pos q]
        have e2 : tt'.2 10 i = -1 := by rw [t10, upd_at, if_pos q]
        have e3 : st0.2 13 i = nI 1 := by rw [s13, upd_at, if_pos q]
        simp only [if_pos q]
        exact ⟨e1, by omega, by rw [ur_s, q], e3, Or.inl ⟨by first | rfl | trivial, e2⟩⟩
      · obtain ⟨c1, c2, c3, c4, c5⟩ := d i (by omega)
        have e1 : tt'.2 9 i = tt.2 9 i := by rw [t9, upd_at, if_neg q]
        have e2 : tt'.2 10 i = tt.2 10 i := by rw [t10, upd_at, if_neg q]
        have e3 : st0.2 13 i = st.2 13 i := by rw [s13, upd_at, if_neg q, upd_at, if_neg q]
        simp only [if_neg q]
        rw [e1, e2, e3]
        refine ⟨c1, by omega, by rw [rho i (by omega)]; exact c3, c4, ?_⟩
        rcases c5 with c5 | ⟨y1, y2, y3, y4⟩
        · exact Or.inl c5
        · exact Or.inr ⟨y1, y2, by omega, by rw [ur_n (by omega)]; exact y4⟩
    · intro j hj
      by_cases q : j = wc
      · refine ⟨k, by omega, Or.inl ?_⟩
        show j = if k = k then wc else fi k
        rw [if_pos rfl, q]
      · obtain ⟨i, hi, hh⟩ := f j (by omega)
        refine ⟨i, by omega, ?_⟩
        show j = (if i = k then wc else fi i) ∨ ((if i = k then 1 else so i) = 2 ∧ j = gi i)
        rw [if_neg (by omega), if_neg (by omega)]
        exact hh
    · intro j hj
      rw [ur_n (by omega)]
      exact g j (by omega)
    · rw [hst0, hst1]; exact f10
    · rw [ur_s, hst0]; rfl
    · rw [hst0, hst1]; rfl
    · rcases z with z | z
      · have := z.1; omega
      · omega
    · rw [hst0, hst1]
      exact ((((RFr.A st (by omega) _).tr (RFr.A _ (by omega) _)).tr (RFr.I _ (by omega) _)).tr (RFr.I _ (by omega) _)).tr (RFr.A _ (by omega) _)
  · -- a name that stood already
    have hkn : k < nc := by omega
    obtain ⟨c1, c2, c3, c4, c5⟩ := d k hkn
    have na : m_nameAt (sR st r) = some (nI k, sR st r) := by
      unfold m_nameAt m_nameAt_29
      rw [x5, bd_s, sR_1, a2, if_neg (by rw [nI_eq (by omega) (by omega)]; exact hk)]
    rcases c5 with ⟨so1, t10⟩ | ⟨so2, t10, g2, g3⟩
    · left
      obtain ⟨st0, hst0⟩ : ∃ u, u = sA (sI st 16 (nI (1100 + 2 * k + 1))) 13 (upd (st.2 13) k (nI (1 + 1))) := ⟨_, rfl⟩
      obtain ⟨tt', htt⟩ : ∃ u, u = sA (sI tt 12 (nI (wc + 1))) 10 (upd (tt.2 10) k (nI (1016 + wc))) := ⟨_, rfl⟩
      have cls : t_readName tt 500 sa sn = some (nI (1016 + wc), tt') := by
        unfold t_readName
        simp only [nm_eq]
        rw [v6, x4, bd_s, if_pos (show nI k < (250 : Int32) from nI_lt (b := 250) (by omega) (by omega)), show (sI tt 12 (tt.1 12 + 1)).1 11 = tt.1 11 from rfl, a1, if_neg (show ¬ nI k = nI nc by rw [nI_eq (by omega) (by omega)]; exact hk), gd_nI (by omega) (by omega), nc_ (by omega), show (sI tt 12 (tt.1 12 + 1)).2 10 = tt.2 10 from rfl, t10, if_pos rfl, gd_nI (by omega) (by omega), w12, i1016, nI_add, nI_1, htt]
      have hgo : ∀ x st', m_go (sR st0 r) = some (sR st' r) → x = sR st' r → m_name (sR st r) = some (1, x) := by
        intro x st' hg hx
        unfold m_name
        simp only [nm_eq]
        rw [na, bd_s]
        simp only
        rw [gd_nI (by omega) (by omega), nc_ (by omega), sR_o _ _ (by decide), c4, so1, if_neg (show ¬ nI 1 = 2 by decide), gd_nI (by omega) (by omega), gd_nI (by omega) (by omega), gd_nI (by omega) (by omega), sR_I, sR_o _ _ (by decide), sR_A _ _ (by decide), show (1100 : Int32) = nI 1100 from rfl, i2, pk_mul, nI_add, nI_add]
        rw [show (sI st 16 (nI (1100 + 2 * k + 1))).2 13 = st.2 13 from rfl, c4, so1, nI_1, ← hst0, hg, bd_s, hx]
      have tp0 : TP B N sa tt' st0 := by rw [htt, hst0]; exact tp
      have p6 : st0.1 6 = nI e := by rw [hst0]; exact k3
      have p3 : tt'.1 3 = nI e := by rw [htt]; exact k1
      have p7 : tt'.1 7 = 0 := by rw [htt]; exact f7
      obtain ⟨tt2, st', _, _, _, _, hg, _, _, _, rf⟩ := adv_ok (sn := sn) tp0 p7 eN p3 p6 r
      refine ⟨1016 + wc, e, nc, wc + 1, tt', st0, st', sn, E, L, ur ρ (1016 + wc) (1100 + 2 * k + 1), wl, r, nm, fi, fun i => if i = k then wc else gi i, fun i => if i = k then 2 else so i, ⟨?_, ?_, hg⟩, ⟨tp0, bs.wire (by omega) hwE (by omega) (rn _ 1 rfl (fun z => by omega) (fun _ => ⟨hkn, so1⟩) (by omega)), hnl, ?_, ⟨⟨?_, ?_, ?_, by omega⟩, ?_, cd', ?_, ?_, ?_⟩, fun p hp h1 => by have := hEw p hp h1; omega, p7, ?_⟩, ⟨p3, p6, eN⟩, ⟨?_, ?_⟩, wi', uA_ext hEw, fun z => ?_, fun p hp => hp, ⟨by omega, by omega, fun p hp => ur_n (by omega)⟩, fun _ _ => rfl, ?_, st_lt hN k4 (by omega) se⟩
      · rw [cls, bd_s]
      · rw [hgo _ st' hg rfl, bd_s]
        rfl
      · rw [hst0]; exact hwl
      · rw [htt]; exact a1
      · rw [hst0]; exact a2
      · rw [htt]; rfl
      · rw [htt, hst0]; exact b
      · intro i hi
        have t9' : tt'.2 9 = tt.2 9 := by rw [htt]; rfl
        have t10' : tt'.2 10 = upd (tt.2 10) k (nI (1016 + wc)) := by rw [htt]; rfl
        have s13 : st0.2 13 = upd (st.2 13) k (nI (1 + 1)) := by rw [hst0]; rfl
        obtain ⟨d1, d2, d3, d4, d5⟩ := d i hi
        rw [t9', t10', s13, upd_at, upd_at]
        show _ ∧ fi i < wc + 1 ∧ ur ρ (1016 + wc) (1100 + 2 * k + 1) (1016 + fi i) = 1100 + 2 * i ∧ _ = nI (if i = k then 2 else so i) ∧ (((if i = k then 2 else so i) = 1 ∧ _) ∨ ((if i = k then 2 else so i) = 2 ∧ _ = nI (1016 + (if i = k then wc else gi i)) ∧ (if i = k then wc else gi i) < wc + 1 ∧ ur ρ (1016 + wc) (1100 + 2 * k + 1) (1016 + (if i = k then wc else gi i)) = _))
        rw [ur_n (show 1016 + fi i ≠ 1016 + wc by omega)]
        refine ⟨d1, by omega, d3, ?_, ?_⟩
        · by_cases q : i = k
          · rw [if_pos q, if_pos q]
          · rw [if_neg q, if_neg q]; exact d4
        · by_cases q : i = k
          · simp only [q, if_true]
            exact Or.inr ⟨trivial, trivial, by omega, ur_s⟩
          · simp only [if_neg q]
            rcases d5 with d5 | ⟨y1, y2, y3, y4⟩
            · exact Or.inl d5
            · exact Or.inr ⟨y1, y2, by omega, by rw [ur_n (by omega)]; exact y4⟩
      · intro j hj
        by_cases q : j = wc
        · refine ⟨k, hkn, Or.inr ⟨?_, ?_⟩⟩
          · show (if k = k then 2 else so k) = 2; rw [if_pos rfl]
          · show j = if k = k then wc else gi k; rw [if_pos rfl, q]
        · obtain ⟨i, hi, hh⟩ := f j (by omega)
          refine ⟨i, hi, ?_⟩
          show j = fi i ∨ ((if i = k then 2 else so i) = 2 ∧ j = if i = k then wc else gi i)
          rcases hh with hh | ⟨y1, y2⟩
          · exact Or.inl hh
          · right
            have : i ≠ k := fun z => by rw [z] at y1; omega
            rw [if_neg this, if_neg this]
            exact ⟨y1, y2⟩
      · intro j hj
        rw [ur_n (by omega)]
        exact g j (by omega)
      · rw [hst0]; exact f10
      · rw [ur_s, hst0]; rfl
      · rw [hst0]; rfl
      · rcases z with z | z
        · have := z.1; omega
        · omega
      · rw [hst0]
        exact (RFr.I st (by omega) _).tr (RFr.A _ (by omega) _)
    · right
      refine ⟨nI (1016 + wc), sI (sI tt 12 (nI (wc + 1))) 7 ((-2) - nI (8 * s + 2)), sI st 10 (nI (8 * s + 2)), sn, r, ?_, ?_, FLT.mk (by omega) (by omega), hnl, RFr.I st (by omega) _⟩
      · unfold t_readName
        simp only [nm_eq]
        rw [v6, x4, bd_s, if_pos (show nI k < (250 : Int32) from nI_lt (b := 250) (by omega) (by omega)), show (sI tt 12 (tt.1 12 + 1)).1 11 = tt.1 11 from rfl, a1, if_neg (show ¬ nI k = nI nc by rw [nI_eq (by omega) (by omega)]; exact hk), gd_nI (by omega) (by omega), nc_ (by omega), show (sI tt 12 (tt.1 12 + 1)).2 10 = tt.2 10 from rfl, t10, if_neg (ne_m1 (by omega)), w12, nI_1, show (sI tt 12 (nI (wc + 1))).1 5 = nI s from k2, i2, t_refuse_ok (show (sI tt 12 (nI (wc + 1))).1 7 = 0 from f7), bd_s, bd_s, i1016, nI_add]
        rfl
      · unfold m_name
        rw [na, bd_s]
        simp only
        rw [gd_nI (by omega) (by omega), nc_ (by omega), sR_o _ _ (by decide), c4, so2, if_pos (show nI 2 = 2 from rfl), i2, m_bad_ok f10 k4, bd_s]
        rfl
