/-! all that is seen from the roots; whether two are alike -/
theorem n_hasRoot_ok {r : Nat → Nat} {sn : NSt} (hv : NV r) (h : NC r sn) {i : Nat} (hi : i < 16) : n_hasRoot sn (nI i) = some (if r (14 + i) = 1 then 1 else 0) := by
  have xr : xP r (1000 + i) ↔ r (14 + i) = 1 := by
    unfold xP
    rw [show 1000 + i - 1000 = i by omega]
    constructor
    · rintro (a | a)
      · omega
      · exact a.2.2
    · intro a
      exact Or.inr ⟨by omega, by omega, a⟩
  have hl := h.2.2.1
  have hl2 := h.2.1.1
  unfold n_hasRoot
  rw [if_neg (nI_pos (by omega)), if_neg (show ¬ (16 : Int32) ≤ nI i from nI_ge (b := 16) hi (by omega)), i1000, nI_add, gd_nI (by omega) (by omega), nc (by omega)]
  by_cases q : r (14 + i) = 1
  · have e := (h.2.1.2.1.2.1 _ (xr.mpr q)).2
    have lt := hv.lk3 (xr.mpr q)
    rw [e, if_neg (ne_m1 (by omega)), if_pos q]
  · have e := h.2.2.2 i hi (fun z => q (xr.mp z))
    rw [e, if_pos (show mI = -1 from rfl), if_neg q]
theorem m_isRoot_ok {st : OSt} {r : Nat → Nat} (hv : NV r) {i : Nat} (hi : i < 16) : m_isRoot (sR st r) (nI i) = some (if r (14 + i) = 1 then 1 else 0) := by
  have h1 := (hv.2.1.2 i hi).1
  unfold m_isRoot m_within
  rw [if_neg (nI_pos (by omega)), if_neg (show ¬ (15 : Int32) < nI i from nI_nlt (a := 15) (by omega) (by omega)), bd_s, if_neg (by decide), i14, nI_add, gd_nI (by omega) (by omega), nc (by omega), sR_2, nR_at]
  by_cases q : r (14 + i) = 1
  · rw [q, if_pos (show nI 1 = 1 from rfl), if_pos rfl]
  · rw [if_neg (show ¬ nI (r (14 + i)) = 1 by rw [i1, nI_eq (by omega) (by omega)]; exact q), if_neg q]
theorem root_xP {r : Nat → Nat} {i : Nat} (hi : i < 16) (q : r (14 + i) = 1) : xP r (1000 + i) := Or.inr ⟨by omega, by omega, by rw [show 1000 + i - 1000 = i by omega]; exact q⟩
theorem LR.of {r : Nat → Nat} {ss ss' st : OSt} {mc tc w : Nat} (h : LR r ss st mc tc w) (e : ss'.1 3 = ss.1 3 ∧ ss'.1 5 = ss.1 5 ∧ ss'.1 7 = ss.1 7) (e2 : ss'.2 0 = ss.2 0 ∧ ss'.2 1 = ss.2 1 ∧ ss'.2 2 = ss.2 2 ∧ ss'.2 4 = ss.2 4 ∧ (∀ i, i < w → ss'.2 6 i = ss.2 6 i)) : LR r ss' st mc tc w := by
  obtain ⟨⟨a1, a2, a3, a4, a5⟩, b, c1, d, g, f⟩ := h
  refine ⟨⟨e.1.trans a1, a2, e.2.1.trans a3, a4, e.2.2.trans a5⟩, ?_, ?_, d, ?_, ?_⟩
  · rw [e2.1, e2.2.1]; exact b
  · rw [e2.2.2.1]; exact c1
  · rw [e2.2.2.2.1]; exact g
  · intro i hi
    rw [e2.2.2.2.2 i hi]
    exact f i hi
theorem look_loop {r : Nat → Nat} {sn : NSt} (hv : NV r) (hc : NC r sn) {B : Nat} (hB : B ≤ 32) (v : Int32) : ∀ (d f1 f2 i mc tc w : Nat) (ss st : OSt), 633 - tc ≤ d → d < f1 → d < f2 → LR r ss st mc tc w → mc ≤ 300 → w ≤ 2 * mc → tc + w ≤ B + 2 * mc → i ≤ tc →
    ∃ ss' st' mc' tc', g_lookFrom_12 f1 ss sn (nI i) = some ss' ∧ m_looksAll_68 f2 (sR st r) v (nI w) = some (sR st' r) ∧ LR r ss' st' mc' tc' 0 ∧ FL st st' ∧ (mc' ≤ 300 ∧ tc' ≤ B + 2 * mc') := by
  intro d
  induction d with
  | zero => intro f1 f2 i mc tc w ss st h1 _ _ _ hmc _ hb; omega
  | succ d ih =>
    intro f1 f2 i mc tc w ss st h1 hf1 hf2 h hmc hw hb hi
    obtain ⟨f1, rfl⟩ : ∃ f, f1 = f + 1 := ⟨f1 - 1, by omega⟩
    obtain ⟨f2, rfl⟩ : ∃ f, f2 = f + 1 := ⟨f2 - 1, by omega⟩
    rw [g_lookFrom_12, m_looksAll_68]
    have h7 := h.1.2.2.2.2
    rcases Nat.eq_zero_or_pos w with z | z
    · subst z
      rw [if_pos (show nI 0 ≤ (0 : Int32) by decide)]
      refine ⟨ss, st, mc, tc, ?_, rfl, h, FL.rf st, hmc, by omega⟩
      split
      · rfl
      · rw [h7, if_pos (show nI 0 ≤ (0 : Int32) by decide)]
    · obtain ⟨w, rfl⟩ : ∃ u, w = u + 1 := ⟨w - 1, by omega⟩
      obtain ⟨p, hp, e6, e34⟩ := h.2.2.2.2.2 w (by omega)
      have hq := h.pop
      obtain ⟨ss', st', mc', w', b1, b2, b3, b4, b5, b6, b7, b8⟩ := look_step hv hc hq hp (by omega) (by omega)
      obtain ⟨ss2, st2, mc2, tc2, c1, c2, c3, c4, c5⟩ := ih f1 f2 (i + 1) mc' (tc + 1) w' ss' st' (by omega) (by omega) (by omega) b3 b5 b7 (by omega) (by omega)
      refine ⟨ss2, st2, mc2, tc2, ?_, ?_, c3, b4.tr c4, c5⟩
      · rw [if_neg (show ¬ (632 : Int32) ≤ nI i from nI_ge (b := 632) (by omega) (by omega)), h7, if_neg (show ¬ nI (w + 1) ≤ (0 : Int32) from nI_ge (a := 0) (by omega) (by omega)), nm_eq, nI_pred]
        have s7 : (sI ss 7 (nI w)).1 7 = nI w := rfl
        rw [s7, gd_nI (by omega) (by omega), nc (by omega), show (sI ss 7 (nI w)).2 6 w = nI p from e6, n_at_ok hc.2.1 hp, bd_s, b1, bd_s, nI_1]
        exact c1
      · rw [if_neg (show ¬ nI (w + 1) ≤ (0 : Int32) from nI_ge (a := 0) (by omega) (by omega)), nI_pred, gd_nI (by omega) (by omega), nc (by omega), sR_o _ _ (by decide), e34, b2, bd_s]
        exact c2
theorem look_roots {r : Nat → Nat} {sn : NSt} (hv : NV r) (hc : NC r sn) : ∀ (fuel i mc tc : Nat) (ss st : OSt), i ≤ 16 → 16 - i < fuel → LR r (sI ss 7 (nI 0)) st mc tc 0 → mc ≤ 300 → tc ≤ 2 * i + 2 * mc →
    ∃ ss' st' mc' tc', g_look_20 fuel ss sn (nI i) = some ss' ∧ m_looksAll_34 fuel (sR st r) (nI i) = some (sR st' r) ∧ LR r (sI ss' 7 (nI 0)) st' mc' tc' 0 ∧ FL st st' ∧ (mc' ≤ 300 ∧ tc' ≤ 632) := by
  intro fuel
  induction fuel with
  | zero => intro i mc tc ss st _ h; omega
  | succ f ih =>
    intro i mc tc ss st hi hf h hmc ht
    rw [g_look_20, m_looksAll_34]
    by_cases q : i = 16
    · subst q
      rw [if_pos (show (16 : Int32) ≤ nI 16 from nI_le (a := 16) (b := 16) (Nat.le_refl _) (by omega)), if_pos (show (16 : Int32) ≤ nI 16 from nI_le (a := 16) (b := 16) (Nat.le_refl _) (by omega))]
      exact ⟨ss, st, mc, tc, rfl, rfl, h, FL.rf st, hmc, by omega⟩
    · rw [if_neg (show ¬ (16 : Int32) ≤ nI i from nI_ge (b := 16) (by omega) (by omega)), if_neg (show ¬ (16 : Int32) ≤ nI i from nI_ge (b := 16) (by omega) (by omega)), n_hasRoot_ok hv hc (by omega), bd_s, m_isRoot_ok hv (by omega), bd_s, nI_1]
      by_cases z : r (14 + i) = 1
      · have h5 : ss.1 5 = nI tc := h.1.2.2.1
        rw [if_pos z, if_neg (by decide), if_neg (by decide), i2000, i30000, nI_add, nI_add, g_tell_ok h5 (by omega), bd_s, m_tells_ok h.1.2.2.2.1 (by omega), bd_s, i1000, nI_add]
        have hcd : cd (nI (2000 + i)) (nI (30000 + i)) := Or.inr (Or.inr (Or.inr ⟨i, by omega, rfl, rfl⟩))
        have hT := h.tell hcd
        generalize hs1 : sI (sA ss 4 (upd (ss.2 4) tc (nI (2000 + i)))) 5 (nI (tc + 1)) = ss1
        generalize hs2 : sI (sA st 33 (upd (st.2 33) tc (nI (30000 + i)))) 32 (nI (tc + 1)) = st1 at hT
        have fl1 : FL st st1 := by rw [← hs2]; exact (FL.A st (by omega) _).tr (FL.I _ (by omega) _)
        unfold g_lookFrom
        rw [nm_eq, i0]
        have s7 : (sI ss1 7 (nI 0)).1 7 = nI 0 := rfl
        rw [g_leaveOpen_ok s7 (by omega), bd_s]
        generalize hs3 : sI (sA (sI ss1 7 (nI 0)) 6 (upd ((sI ss1 7 (nI 0)).2 6) 0 (nI (1000 + i)))) 7 (nI (0 + 1)) = ss2
        have s27 : ss2.1 7 = nI 1 := by rw [← hs3]; rfl
        have s26 : ss2.2 6 0 = nI (1000 + i) := by rw [← hs3]; show upd ((sI ss1 7 (nI 0)).2 6) 0 (nI (1000 + i)) 0 = _; rw [upd_at, if_pos rfl]
        have hP : LR r (sI ss2 7 (nI 0)) st1 mc (tc + 1) 0 := by
          refine hT.of ⟨?_, ?_, rfl⟩ ⟨?_, ?_, ?_, ?_, fun i hi => absurd hi (Nat.not_lt_zero _)⟩
          all_goals (rw [← hs3, ← hs1]; rfl)
        obtain ⟨ss', st', mc', w', b1, b2, b3, b4, b5, b6, b7, b8⟩ := look_step hv hc hP (root_xP (by omega) z) (by omega) (Nat.zero_le _)
        obtain ⟨ss4, st4, mc4, tc4, c1, c2, c3, c4, c5, c6⟩ := look_loop hv hc (B := 2 * (i + 1)) (by omega) (nI i) 633 19999 20000 1 mc' (tc + 1 + 1) w' ss' st' (by omega) (by omega) (by omega) b3 b5 b7 (by omega) (by omega)
        have cl : g_lookFrom_12 20000 ss2 sn (nI 0) = some ss4 := by
          show g_lookFrom_12 (19999 + 1) ss2 sn (nI 0) = some ss4
          rw [g_lookFrom_12, if_neg (by decide), s27, if_neg (by decide), nm_eq, show nI 1 - 1 = nI 0 from nI_pred 0]
          have s7' : (sI ss2 7 (nI 0)).1 7 = nI 0 := rfl
          rw [s7', gd_nI (by omega) (by omega), nc (by omega), show (sI ss2 7 (nI 0)).2 6 0 = nI (1000 + i) from s26, n_at_ok hc.2.1 (root_xP (by omega) z), bd_s, b1, bd_s]
          exact c1
        rw [cl, bd_s, bd_s, b2, bd_s]
        simp only
        rw [c2, bd_s]
        have c7 : ss4.1 7 = nI 0 := c3.1.2.2.2.2
        have c3' : LR r (sI ss4 7 (nI 0)) st4 mc4 tc4 0 := c3.of ⟨rfl, rfl, c7.symm⟩ ⟨rfl, rfl, rfl, rfl, fun _ _ => rfl⟩
        obtain ⟨ss5, st5, mc5, tc5, d1, d2, d3, d4, d5⟩ := ih (i + 1) mc4 tc4 ss4 st4 (by omega) (by omega) c3' c5 c6
        exact ⟨ss5, st5, mc5, tc5, d1, d2, d3, fl1.tr (b4.tr (c4.tr d4)), d5⟩
      · rw [if_neg z, if_pos rfl, if_pos rfl]
        exact ih (i + 1) mc tc ss st (by omega) (by omega) h hmc (by omega)
theorem fill_ok {ka : Nat} (hk : ka < 15000) (v : Int32) (f : Nat → Int32) : ∃ g, j_fill_53 ka f v = some g ∧ ∀ i, i < ka → g i = v := by
  have key : ∀ (fuel j : Nat) (f : Nat → Int32), j ≤ ka → ka - j < fuel → (∀ i, i < j → f i = v) → ∃ g, j_fill_53_5 fuel ka f v (nI j) (nI ka) = some g ∧ ∀ i, i < ka → g i = v := by
    intro fuel
    induction fuel with
    | zero => intro j f _ h; omega
    | succ n ih =>
      intro j f hj hf h0
      rw [j_fill_53_5]
      by_cases q : j = ka
      · rw [if_pos (nI_le (by omega) (by omega))]
        exact ⟨f, rfl, fun i hi => h0 i (by omega)⟩
      · rw [if_neg (nI_ge (by omega) (by omega)), gd_nI (by omega) (by omega), nm_eq, nI_1, nc (by omega)]
        refine ih (j + 1) _ (by omega) (by omega) (fun i hi => ?_)
        rw [upd_at]
        by_cases z : i = j
        · rw [if_pos z]
        · rw [if_neg z]
          exact h0 i (by omega)
  obtain ⟨g, e, hg⟩ := key 20000 0 f (by omega) (by omega) (fun i hi => absurd hi (Nat.not_lt_zero _))
  refine ⟨g, ?_, hg⟩
  unfold j_fill_53
  rw [i0, e]
  rfl
/-- what both have seen -/
def LSe (ss st : OSt) (mc tc : Nat) : Prop := (ss.1 3 = nI mc ∧ st.1 28 = nI mc ∧ ss.1 5 = nI tc ∧ st.1 32 = nI tc) ∧ (∀ i, i < mc → ss.2 0 i = st.2 29 i ∧ ss.2 1 i = st.2 30 i) ∧ (∀ i, i < tc → cd (ss.2 4 i) (st.2 33 i)) ∧ (mc ≤ 300 ∧ tc ≤ 632)
theorem looks_ok {r : Nat → Nat} {sn : NSt} (hv : NV r) (hc : NC r sn) (ss st : OSt) : ∃ ss' st' mc tc, g_look ss sn = some ss' ∧ m_looksAll (sR st r) = some (sR st' r) ∧ LSe ss' st' mc tc ∧ FL st st' := by
  obtain ⟨g, e, hg⟩ := fill_ok (ka := 300) (by omega) (-1) (ss.2 2)
  have key : ∀ (fuel j : Nat) (st : OSt), j ≤ 300 → 300 - j < fuel → (∀ i, i < j → st.2 31 i = -1) → ∃ st', m_looksAll_12 fuel (sR st r) (nI j) = some (sR st' r) ∧ (∀ i, i < 300 → st'.2 31 i = -1) ∧ FL st st' ∧ st'.1 = st.1 := by
    intro fuel
    induction fuel with
    | zero => intro j st _ h; omega
    | succ n ih =>
      intro j st hj hf h0
      rw [m_looksAll_12]
      by_cases q : j = 300
      · subst q
        rw [if_pos (show (300 : Int32) ≤ nI 300 from nI_le (a := 300) (b := 300) (Nat.le_refl _) (by omega))]
        exact ⟨st, rfl, h0, FL.rf st, rfl⟩
      · rw [if_neg (show ¬ (300 : Int32) ≤ nI j from nI_ge (b := 300) (by omega) (by omega)), gd_nI (by omega) (by omega), nm_eq, nc (by omega), sR_o _ _ (by decide), sR_A _ _ (by decide), nI_1]
        obtain ⟨st', a, b, c, d⟩ := ih (j + 1) (sA st 31 (upd (st.2 31) j (-1))) (by omega) (by omega) (fun i hi => by
          show upd (st.2 31) j (-1) i = -1
          rw [upd_at]
          by_cases z : i = j
          · rw [if_pos z]
          · rw [if_neg z]
            exact h0 i (by omega))
        exact ⟨st', a, b, (FL.A st (by omega) _).tr c, d⟩
  obtain ⟨st1, a1, a2, a3, a4⟩ := key 20000 0 (sI (sI st 28 0) 32 0) (by omega) (by omega) (fun i hi => absurd hi (Nat.not_lt_zero _))
  have h28 : st1.1 28 = nI 0 := by rw [a4]; rfl
  have h32 : st1.1 32 = nI 0 := by rw [a4]; rfl
  have z0 : fb_ct (nM st1) 300 = 0 := fb_ct_zero.mpr (fun k hk => by unfold nM; rw [a2 k hk]; rfl)
  have h0 : LR r (sI (sI (sI (sA ss 2 g) 3 0) 5 0) 7 (nI 0)) st1 0 0 0 := by
    refine ⟨⟨rfl, h28, rfl, h32, rfl⟩, fun i hi => absurd hi (Nat.not_lt_zero _), fun n hn => ?_, z0.symm, fun i hi => absurd hi (Nat.not_lt_zero _), fun i hi => absurd hi (Nat.not_lt_zero _)⟩
    show g n = st1.2 31 n ∧ _
    rw [hg n hn, a2 n hn]
    exact ⟨rfl, Or.inl rfl⟩
  obtain ⟨ss', st', mc, tc, b1, b2, b3, b4, b5, b6⟩ := look_roots hv hc 20000 0 0 0 (sI (sI (sA ss 2 g) 3 0) 5 0) st1 (by omega) (by omega) h0 (by omega) (by omega)
  refine ⟨ss', st', mc, tc, ?_, ?_, ⟨⟨b3.1.1, b3.1.2.1, b3.1.2.2.1, b3.1.2.2.2.1⟩, b3.2.1, b3.2.2.2.2.1, b5, b6⟩, ((FL.I st (by omega) _).tr (FL.I _ (by omega) _)).tr (a3.tr b4)⟩
  · unfold g_look
    simp only [nm_eq]
    rw [e, bd_s]
    show bd (g_look_20 20000 _ sn (nI 0)) _ = _
    rw [b1, bd_s]
  · unfold m_looksAll
    simp only [nm_eq]
    rw [sR_I, sR_I, i0]
    rw [i0] at a1
    rw [a1, bd_s, b2, bd_s]
/-- two tellings, compared -/
theorem g_isLike_ok {ss so : OSt} {t1 t2 : Nat} (h1 : ss.1 5 = nI t1) (h2 : so.1 5 = nI t2) (l1 : t1 ≤ 632) (l2 : t2 ≤ 632) : ∃ b : Bool, g_isLike ss so = some (if b then 1 else 0) ∧ (b = true ↔ (t1 = t2 ∧ ∀ i, i < t1 → ss.2 4 i = so.2 4 i)) := by
  have key : ∀ (fuel j : Nat), j ≤ t1 → t1 - j < fuel → (∀ i, i < j → ss.2 4 i = so.2 4 i) → ∃ b : Bool, g_isLike_15 fuel ss so (nI j) = some (if b then 1 else 0) ∧ (b = true ↔ ∀ i, i < t1 → ss.2 4 i = so.2 4 i) := by
    intro fuel
    induction fuel with
    | zero => intro j _ h; omega
    | succ n ih =>
      intro j hj hf h0
      rw [g_isLike_15, h1]
      by_cases q : j = t1
      · rw [if_pos (nI_le (by omega) (by omega))]
        exact ⟨true, rfl, ⟨fun _ i hi => h0 i (by omega), fun _ => rfl⟩⟩
      · rw [if_neg (nI_ge (by omega) (by omega)), gd_nI (by omega) (by omega), gd_nI (by omega) (by omega), nc (by omega)]
        by_cases z : ss.2 4 j = so.2 4 j
        · rw [if_pos z, nI_1]
          refine ih (j + 1) (by omega) (by omega) (fun i hi => ?_)
          by_cases w : i = j
          · rw [w]; exact z
          · exact h0 i (by omega)
        · rw [if_neg z]
          exact ⟨false, rfl, ⟨fun h => (by cases h), fun h => absurd (h j (by omega)) z⟩⟩
  unfold g_isLike
  rw [h1, h2]
  by_cases q : t1 = t2
  · subst q
    rw [if_pos rfl]
    obtain ⟨b, e, hb⟩ := key 20000 0 (by omega) (by omega) (fun i hi => absurd hi (Nat.not_lt_zero _))
    rw [i0]
    exact ⟨b, e, hb.trans ⟨fun h => ⟨rfl, h⟩, fun h => h.2⟩⟩
  · rw [if_neg (by rw [nI_eq (by omega) (by omega)]; exact q)]
    exact ⟨false, rfl, ⟨fun h => (by cases h), fun h => absurd h.1 q⟩⟩
theorem m_alike20_ok {st : OSt} {r : Nat → Nat} {t1 t2 : Nat} (h2 : st.1 32 = nI t2) (h1 : st.1 35 = nI t1) (l1 : t1 ≤ 632) (l2 : t2 ≤ 632) : ∃ b : Bool, (if (sR st r).1 32 = (sR st r).1 35 then m_areAlike_20 (sR st r) 1 else m_areAlike_20 (sR st r) 0) = some ((if b then 1 else 0), sR st r) ∧ (b = true ↔ (t1 = t2 ∧ ∀ i, i < t1 → st.2 36 i = st.2 33 i)) := by
  have z0 : ∀ (n j : Nat), m_areAlike_23 (n + 1) (sR st r) 0 (nI j) = some 0 := by
    intro n j
    rw [m_areAlike_23]
    split
    · rfl
    · rw [if_pos rfl]
  have key : ∀ (fuel j : Nat), j ≤ t2 → t2 - j + 1 < fuel → (∀ i, i < j → st.2 36 i = st.2 33 i) → ∃ b : Bool, m_areAlike_23 fuel (sR st r) 1 (nI j) = some (if b then 1 else 0) ∧ (b = true ↔ ∀ i, i < t2 → st.2 36 i = st.2 33 i) := by
    intro fuel
    induction fuel with
    | zero => intro j _ h; omega
    | succ n ih =>
      intro j hj hf h0
      rw [m_areAlike_23, sR_1, h2]
      by_cases q : j = t2
      · rw [if_pos (nI_le (by omega) (by omega))]
        exact ⟨true, rfl, ⟨fun _ i hi => h0 i (by omega), fun _ => rfl⟩⟩
      · rw [if_neg (nI_ge (by omega) (by omega)), if_neg (by decide), gd_nI (by omega) (by omega), gd_nI (by omega) (by omega), nc (by omega), sR_o _ _ (by decide), sR_o _ _ (by decide), nI_1]
        by_cases z : st.2 33 j = st.2 36 j
        · rw [if_pos z]
          refine ih (j + 1) (by omega) (by omega) (fun i hi => ?_)
          by_cases w : i = j
          · rw [w]; exact z.symm
          · exact h0 i (by omega)
        · rw [if_neg z]
          obtain ⟨n, rfl⟩ : ∃ m, n = m + 1 := ⟨n - 1, by omega⟩
          rw [z0]
          exact ⟨false, rfl, ⟨fun h => (by cases h), fun h => absurd (h j (by omega)).symm z⟩⟩
  rw [sR_1, h1, h2]
  by_cases q : t1 = t2
  · subst q
    rw [if_pos rfl]
    obtain ⟨b, e, hb⟩ := key 20000 0 (by omega) (by omega) (fun i hi => absurd hi (Nat.not_lt_zero _))
    unfold m_areAlike_20
    rw [i0, e, bd_s]
    refine ⟨b, ?_, hb.trans ⟨fun h => ⟨rfl, h⟩, fun h => h.2⟩⟩
    cases b <;> rfl
  · rw [if_neg (by rw [nI_eq (by omega) (by omega)]; exact fun e => q e.symm)]
    unfold m_areAlike_20
    rw [i0, show m_areAlike_23 20000 (sR st r) (nI 0) (nI 0) = some 0 from z0 19999 0, bd_s]
    exact ⟨false, rfl, ⟨fun h => (by cases h), fun h => absurd h.1 q⟩⟩
