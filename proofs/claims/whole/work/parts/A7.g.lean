/-! calls that look, calls that change the net -/
theorem L_seen {V : VS} {sr : OSt} {ta : Nat → Int32} {sc sh sn : NSt} {st : OSt} {r : Nat → Nat} (h : RI V sr ta sc sh sn st r) (ss : OSt) : ∃ x ss' st', r_seen sc ss = some (x, ss') ∧ m_seen (sR st r) = some (x, sR st' r) ∧ RI V sr ta sc sh sn st' r := by
  obtain ⟨ss', st', mc, tc, e1, e2, e3, e4⟩ := looks_ok h.1.1 h.1.2 ss (sI st 0 0)
  refine ⟨nI mc, ss', st', ?_, ?_, h.same ((KP.i0 st).tr e4.kp)⟩
  · unfold r_seen
    rw [e1, bd_s, e3.1.1]
  · unfold m_seen
    rw [nm_eq, sR_I, e2, bd_s, sR_1, e3.1.2.1]
theorem L_met {V : VS} {sr : OSt} {ta : Nat → Int32} {sc sh sn : NSt} {st : OSt} {r : Nat → Nat} (h : RI V sr ta sc sh sn st r) (ss : OSt) (a b : Int32) : ∃ x ss' st', r_met sc ss a b = some (x, ss') ∧ m_met (sR st r) a b = some (x, sR st' r) ∧ RI V sr ta sc sh sn st' r := by
  obtain ⟨ss', st', mc, tc, e1, e2, ⟨⟨l1, l2, _⟩, l3, _, l4, _⟩, e4⟩ := looks_ok h.1.1 h.1.2 ss (sI st 0 0)
  have hR := h.same ((KP.i0 st).tr e4.kp)
  have n10 : ¬ (1 : Int32) = 0 := by decide
  have eC : r_met sc ss a b = if a < 0 then some (-1, ss') else if a < nI mc then if b = 0 then gd a 300 (some (ss'.2 0 a.toNatClampNeg, ss')) else if b = 1 then gd a 300 (some (ss'.2 1 a.toNatClampNeg, ss')) else some (-1, ss') else some (-1, ss') := by
    unfold r_met
    rw [e1, bd_s, l1]
  have eR : m_met (sR st r) a b = bd (m_within a 0 (nI mc - 1)) fun x3 => if x3 = 0 then some (-1, sR st' r) else bd (m_within b 0 1) fun x5 => if x5 = 0 then some (-1, sR st' r) else if b = 0 then gd a 300 (some (st'.2 29 a.toNatClampNeg, sR st' r)) else gd a 300 (some (st'.2 30 a.toNatClampNeg, sR st' r)) := by
    unfold m_met
    rw [nm_eq, sR_I, e2, bd_s]
    rw [sR_1, l2, sR_o _ _ (by decide), sR_o _ _ (by decide)]
  by_cases z : a < 0
  · refine ⟨-1, ss', st', by rw [eC, if_pos z], ?_, hR⟩
    rw [eR]
    unfold m_within
    rw [if_pos z, bd_s, if_pos rfl]
  · obtain ⟨j, hj, rfl⟩ := ge_j z
    by_cases w : j < mc
    · have w1 : m_within (nI j) 0 (nI mc - 1) = some 1 := by
        unfold m_within
        rw [if_neg z, show nI mc - 1 = nI (mc - 1) from n_sub (b := 1) (by omega), if_neg (nI_nlt (by omega) (by omega))]
      rw [eC, eR, if_neg z, if_pos (nI_lt w (by omega)), w1, bd_s, if_neg n10]
      by_cases b0 : b = 0
      · refine ⟨ss'.2 0 j, ss', st', ?_, ?_, hR⟩
        · rw [if_pos b0, gd_nI (by omega) (by omega), nc (by omega)]
        · rw [b0]
          unfold m_within
          rw [if_neg (show ¬ (0 : Int32) < 0 by decide), if_neg (show ¬ (1 : Int32) < 0 by decide), bd_s, if_neg n10, if_pos rfl, gd_nI (by omega) (by omega), nc (by omega), (l3 j w).1]
      · by_cases b1 : b = 1
        · refine ⟨ss'.2 1 j, ss', st', ?_, ?_, hR⟩
          · rw [if_neg b0, if_pos b1, gd_nI (by omega) (by omega), nc (by omega)]
          · rw [b1]
            unfold m_within
            rw [if_neg (show ¬ (1 : Int32) < 0 by decide), if_neg (show ¬ (1 : Int32) < 1 by decide), bd_s, if_neg n10, if_neg n10, gd_nI (by omega) (by omega), nc (by omega), (l3 j w).2]
        · refine ⟨-1, ss', st', ?_, ?_, hR⟩
          · rw [if_neg b0, if_neg b1]
          · have : m_within b 0 1 = some 0 := by
              unfold m_within
              by_cases y : b < 0
              · rw [if_pos y]
              · obtain ⟨k, hk, rfl⟩ := ge_j y
                rw [if_neg y, if_pos (show (1 : Int32) < nI k from nI_lt (a := 1) (by
                  have k0 : k ≠ 0 := fun q => b0 (by rw [q]; rfl)
                  have k1 : k ≠ 1 := fun q => b1 (by rw [q]; rfl)
                  omega) hk)]
            rw [this, bd_s, if_pos rfl]
    · refine ⟨-1, ss', st', ?_, ?_, hR⟩
      · rw [eC, if_neg z, if_neg (nI_nlt (by omega) hj)]
      · have : m_within (nI j) 0 (nI mc - 1) = some 0 := by
          unfold m_within
          rw [if_neg z]
          by_cases m0 : mc = 0
          · rw [m0, show nI 0 - 1 = mI by decide, if_pos (by rw [m_lt hj]; trivial)]
          · rw [show nI mc - 1 = nI (mc - 1) from n_sub (b := 1) (by omega), if_pos (nI_lt (by omega) hj)]
        rw [eR, this, bd_s, if_pos rfl]
/-- a call that keeps the state ahead, or refuses -/
def JP (x00 : NSt) (V : VS) (sr : OSt) (ta : Nat → Int32) (sc sh sn : NSt) (cl : Option (Int32 × Int32 × NSt)) (md : Option (Int32 × OSt)) : Prop := ∃ g x sc' st' r', cl = some (g, x, sc') ∧ md = some (x, sR st' r') ∧ ∀ V' sr', ((g = 0 ∧ V' = V ∧ sr' = sr) ∨ (g = 1 ∧ REM x00 V sr sc V' sr')) → RI V' sr' ta sc' sh sn st' r'
theorem JP.no {x00 : NSt} {V : VS} {sr : OSt} {ta : Nat → Int32} {sc sh sn : NSt} {st : OSt} {r : Nat → Nat} (h : RI V sr ta sc sh sn st r) {cl : Option (Int32 × Int32 × NSt)} {md : Option (Int32 × OSt)} (hc : cl = some (0, -1, sc)) (hm : md = some (-1, sR (sI st 0 0) r)) : JP x00 V sr ta sc sh sn cl md := by
  refine ⟨0, -1, sc, sI st 0 0, r, hc, hm, fun V' sr' z => ?_⟩
  rcases z with ⟨_, rfl, rfl⟩ | ⟨z, _⟩
  · exact h.same (KP.i0 st)
  · exact absurd z (by decide)
theorem JP.yes {x00 : NSt} {V : VS} {sr : OSt} {ta : Nat → Int32} {sc sh sn : NSt} {st1 : OSt} {r : Nat → Nat} (h : ∀ V' sr', REM x00 V sr sc V' sr' → RI V' sr' ta sc sh sn st1 r) {cl : Option (Int32 × Int32 × NSt)} {md : Option (Int32 × OSt)} {x : Int32} {sc' : NSt} {st' : OSt} {r' : Nat → Nat} (hl : nl sc' = 1020) (hc : cl = some (1, x, sc')) (hm : md = some (x, sR st' r')) (k : KP st1 st') (hv : NV r') (hn : NC r' sc') : JP x00 V sr ta sc sh sn cl md := by
  refine ⟨1, x, sc', st', r', hc, hm, fun V' sr' z => ?_⟩
  rcases z with ⟨z, _⟩ | ⟨_, z⟩
  · exact absurd z (by decide)
  · have hh := h V' sr' z
    exact hh.step k hv hn hl hh.2.1.2.1 hh.2.1.2.2
theorem ord_any (a : Int32) : (∃ o, o ≤ 2 ∧ a = nI o ∧ r_isOrder a = some 1 ∧ m_within a 0 2 = some 1) ∨ (r_isOrder a = some 0 ∧ m_within a 0 2 = some 0) := by
  unfold r_isOrder m_within
  by_cases z : a < 0
  · right
    rw [if_pos z, if_pos z]
    exact ⟨rfl, rfl⟩
  · obtain ⟨j, hj, rfl⟩ := ge_j z
    by_cases w : j ≤ 2
    · left
      refine ⟨j, w, rfl, ?_, ?_⟩
      · rw [if_neg z, if_neg (show ¬ (3 : Int32) ≤ nI j from nI_ge (b := 3) (by omega) (by omega))]
      · rw [if_neg z, if_neg (show ¬ (2 : Int32) < nI j from nI_nlt (a := 2) (by omega) (by omega))]
    · right
      refine ⟨?_, ?_⟩
      · rw [if_neg z, if_pos (show (3 : Int32) ≤ nI j from nI_le (a := 3) (by omega) hj)]
      · rw [if_neg z, if_pos (show (2 : Int32) < nI j from nI_lt (a := 2) (by omega) hj)]
theorem lim_any (a : Int32) : (∃ o, o ≤ 9999 ∧ a = nI o ∧ r_isStepLimit a = some 1 ∧ m_within a 0 9999 = some 1) ∨ (r_isStepLimit a = some 0 ∧ m_within a 0 9999 = some 0) := by
  unfold r_isStepLimit m_within
  by_cases z : a < 0
  · right
    rw [if_pos z]
    exact ⟨rfl, rfl⟩
  · obtain ⟨j, hj, rfl⟩ := ge_j z
    by_cases w : j ≤ 9999
    · left
      refine ⟨j, w, rfl, ?_, ?_⟩
      · rw [if_neg z, if_neg (show ¬ (9999 : Int32) < nI j from nI_nlt (a := 9999) (by omega) (by omega))]
      · rw [if_neg z, if_neg (show ¬ (9999 : Int32) < nI j from nI_nlt (a := 9999) (by omega) (by omega))]
    · right
      refine ⟨?_, ?_⟩
      · rw [if_neg z, if_pos (show (9999 : Int32) < nI j from nI_lt (a := 9999) (by omega) hj)]
      · rw [if_neg z, if_pos (show (9999 : Int32) < nI j from nI_lt (a := 9999) (by omega) hj)]
theorem n10i : ¬ (1 : Int32) = 0 := by decide
theorem run_any (a b : Int32) : (∃ o m, o ≤ 2 ∧ m ≤ 9999 ∧ a = nI o ∧ b = nI m ∧ r_isOrder a = some 1 ∧ r_isStepLimit b = some 1 ∧ m_isRun a b = some 1) ∨ ((r_isOrder a = some 0 ∨ (r_isOrder a = some 1 ∧ r_isStepLimit b = some 0)) ∧ m_isRun a b = some 0) := by
  unfold m_isRun
  rcases ord_any a with ⟨o, o1, o2, o3, o4⟩ | ⟨o3, o4⟩
  · rcases lim_any b with ⟨m, m1, m2, m3, m4⟩ | ⟨m3, m4⟩
    · left
      refine ⟨o, m, o1, m1, o2, m2, o3, m3, ?_⟩
      rw [o4, bd_s, if_neg n10i, m4, bd_s, if_neg n10i]
    · right
      refine ⟨Or.inr ⟨o3, m3⟩, ?_⟩
      rw [o4, bd_s, if_neg n10i, m4, bd_s, if_pos rfl]
  · right
    refine ⟨Or.inl o3, ?_⟩
    rw [o4, bd_s, if_pos rfl]
theorem L_run {x00 : NSt} (h00 : n_clear (n0 0) 200 = some x00) {V : VS} {sr : OSt} {ta : Nat → Int32} {sc sh sn : NSt} {st : OSt} {r : Nat → Nat} (h : RI V sr ta sc sh sn st r) (a b s : Int32) : JP x00 V sr ta sc sh sn (r_run sc a b s) (m_run (sR st r) a b s) := by
  rcases run_any a b with ⟨o, m, o1, m1, rfl, rfl, q1, q2, q3⟩ | ⟨q1, q3⟩
  · obtain ⟨st1, k1, k2⟩ := keeps_ok h00 (h.same (KP.i0 st))
    obtain ⟨n', r', st', sn', e1, e2, e3, e4, e5, e6, e7⟩ := steps_ok (st := st1) o1 m1 h.1.1 h.1.2 (by rw [h.2.1.1]; omega) s
    refine JP.yes k2 (e5.trans h.2.1.1) (x := nI n') ?_ ?_ e6.kp e3 e4
    · unfold r_run
      rw [q1, bd_s, if_neg n10i, q2, bd_s, if_neg n10i, e2, bd_s]
    · unfold m_run
      rw [nm_eq, sR_I, q3, bd_s, if_neg n10i, k1, bd_s, e1, bd_s]
  · refine JP.no h ?_ ?_
    · unfold r_run
      rcases q1 with q1 | ⟨q1, q2⟩
      · rw [q1, bd_s, if_pos rfl]
      · rw [q1, bd_s, if_neg n10i, q2, bd_s, if_pos rfl]
    · unfold m_run
      rw [nm_eq, sR_I, q3, bd_s, if_pos rfl]
theorem L_round {x00 : NSt} (h00 : n_clear (n0 0) 200 = some x00) {V : VS} {sr : OSt} {ta : Nat → Int32} {sc sh sn : NSt} {st : OSt} {r : Nat → Nat} (h : RI V sr ta sc sh sn st r) : JP x00 V sr ta sc sh sn (r_round sc) (m_round (sR st r)) := by
  obtain ⟨st1, k1, k2⟩ := keeps_ok h00 (h.same (KP.i0 st))
  obtain ⟨w, r', st', sn', e1, e2, e3, e4, e5, e6, e7⟩ := round_ok (st := st1) h.1.1 h.1.2 (by rw [h.2.1.1]; omega)
  refine JP.yes k2 (e5.trans h.2.1.1) (x := nI w) ?_ ?_ e6.kp e3 e4
  · unfold r_round
    rw [e2, bd_s]
  · unfold m_round
    rw [nm_eq, sR_I, k1, bd_s, e1, bd_s]
theorem pair_any {r : Nat → Nat} {sc : NSt} {st : OSt} (hv : NV r) (hc : NC r sc) (a : Int32) : (∃ x, a = nI x ∧ x < 300 ∧ iP r x = true ∧ p_has (np sc) a = some 1 ∧ m_isPair (sR st r) a = some 1) ∨ (p_has (np sc) a = some 0 ∧ m_isPair (sR st r) a = some 0) := by
  have out : (a < 0 ∨ (300 : Int32) ≤ a) → (p_has (np sc) a = some 0 ∧ m_isPair (sR st r) a = some 0) := by
    intro z
    refine ⟨?_, ?_⟩
    · unfold p_has
      by_cases w : a < 0
      · rw [if_pos w]
      · rw [if_neg w, if_pos (z.resolve_left w)]
    · unfold m_isPair
      rcases m_isNode_any (st := st) hv a with ⟨n, n1, rfl, _⟩ | ⟨n1, _⟩
      · exfalso
        rcases z with z | z
        · exact nI_pos (n := n) (by omega) z
        · exact nI_ge (b := 300) n1 (by omega) z
      · rw [n1, bd_s, if_pos rfl]
  by_cases z : a < 0
  · exact Or.inr (out (Or.inl z))
  · obtain ⟨j, hj, rfl⟩ := ge_j z
    by_cases w : j < 300
    · have e1 := p_has_ok hc.evy w
      have e2 := m_isPair_ok (st := st) hv w
      by_cases y : iP r j = true
      · rw [if_pos y] at e1 e2
        exact Or.inl ⟨j, rfl, w, y, e1, e2⟩
      · rw [if_neg y] at e1 e2
        exact Or.inr ⟨e1, e2⟩
    · exact Or.inr (out (Or.inr (nI_le (a := 300) (by omega) hj)))
theorem L_reduce {x00 : NSt} (h00 : n_clear (n0 0) 200 = some x00) {V : VS} {sr : OSt} {ta : Nat → Int32} {sc sh sn : NSt} {st : OSt} {r : Nat → Nat} (h : RI V sr ta sc sh sn st r) (a : Int32) : JP x00 V sr ta sc sh sn (r_reduce sc a) (m_reduce (sR st r) a) := by
  rcases pair_any (st := sI st 0 0) h.1.1 h.1.2 a with ⟨x, rfl, x3, hp, q1, q2⟩ | ⟨q1, q2⟩
  · have c1 := n_canGo_ok h.1.2 h.1.1 hp
    have c2 := m_canReduce_ok (st := sI st 0 0) h.1.1 hp
    by_cases y : rd r x = true
    · rw [if_pos y] at c1 c2
      obtain ⟨st1, k1, k2⟩ := keeps_ok h00 (h.same (KP.i0 st))
      obtain ⟨r', st', sn', e1, e2, e3, e4, e5, e6, _⟩ := reduce_ok (st := st1) h.1.1 h.1.2 (by rw [h.2.1.1]; omega) y
      refine JP.yes k2 (e6.1.trans h.2.1.1) (x := nI (ru r x)) ?_ ?_ e2.fa.kp e4 e5
      · unfold r_reduce
        rw [q1, bd_s, if_neg n10i, c1, bd_s, if_neg n10i, e3, bd_s]
      · unfold m_reduce
        rw [nm_eq, sR_I, q2, bd_s, if_neg n10i, c2, bd_s, if_neg n10i, m_ruleOf_ok h.1.1 hp, bd_s, k1, bd_s, e1, bd_s]
    · rw [if_neg y] at c1 c2
      refine JP.no h ?_ ?_
      · unfold r_reduce
        rw [q1, bd_s, if_neg n10i, c1, bd_s, if_pos rfl]
      · unfold m_reduce
        rw [nm_eq, sR_I, q2, bd_s, if_neg n10i, c2, bd_s, if_pos rfl]
  · refine JP.no h ?_ ?_
    · unfold r_reduce
      rw [q1, bd_s, if_pos rfl]
    · unfold m_reduce
      rw [nm_eq, sR_I, q2, bd_s, if_pos rfl]
theorem KP.rf' (st : OSt) : KP st st := KP.rf st
theorem L_put {x00 : NSt} (h00 : n_clear (n0 0) 200 = some x00) {V : VS} {sr : OSt} {ta : Nat → Int32} {sc sh sn : NSt} {st : OSt} {r : Nat → Nat} (h : RI V sr ta sc sh sn st r) (a b : Int32) : JP x00 V sr ta sc sh sn (r_put sc a b) (m_put (sR st r) a b) := by
  rcases root_any (st := sI st 0 0) h.1.1 h.1.2 a with ⟨i, i16, rfl, hi, q1, q2⟩ | ⟨q1, q2⟩
  · have wl := h.1.1.1.le1
    by_cases z : b < 0
    · refine JP.no h ?_ ?_
      · unfold r_put
        rw [q1, bd_s, if_neg n10i, if_pos z]
      · unfold m_put m_within
        rw [nm_eq, sR_I, q2, bd_s, if_neg n10i, if_pos z, bd_s, if_pos rfl]
    · obtain ⟨k, hk, rfl⟩ := ge_j z
      by_cases w : k ≤ 20
      · have n1 : ¬ (20 : Int32) < nI k := nI_nlt (a := 20) (by omega) (by omega)
        have en : (2 : Int32) * nI k + 1 = nI (2 * k + 1) := by rw [i2, pk_mul, nI_1]
        have r1 := n_hasRoom_ok h.1.2.1 (a := 2 * k + 1) (by omega) wl.1 wl.2
        have r2 := m_hasRoom_ok (st := sI st 0 0) (r := r) (a := 2 * k + 1) (by omega) wl.1 wl.2
        by_cases y : r 1 + (2 * k + 1) ≤ r 0
        · rw [if_pos y] at r1 r2
          obtain ⟨st1, k1, k2⟩ := keeps_ok h00 (h.same (KP.i0 st))
          obtain ⟨x, s1, rr, sn', r', e1, e2, e3, e4, e5, e6, e7⟩ := put_core (st := st1) h.1.1 h.1.2 i16 hi w y
          refine JP.yes k2 (e7.1.trans h.2.1.1) (x := nI (r' 1)) ?_ ?_ (KP.rf st1) e5 e6
          · unfold r_put n_numberSize
            rw [q1, bd_s, if_neg n10i, if_neg z, if_neg n1, bd_s, en, r1, bd_s, if_neg n10i, e1, bd_s, e2, bd_s, e6.1.1.2.1]
          · unfold m_put m_within
            rw [nm_eq, sR_I, q2, bd_s, if_neg n10i, if_neg z, if_neg n1, bd_s, if_neg n10i, en, r2, bd_s, if_neg n10i, k1, bd_s, e3, bd_s, e4, bd_s, sR_2, nR_at]
        · rw [if_neg y] at r1 r2
          refine JP.no h ?_ ?_
          · unfold r_put n_numberSize
            rw [q1, bd_s, if_neg n10i, if_neg z, if_neg n1, bd_s, en, r1, bd_s, if_pos rfl]
          · unfold m_put m_within
            rw [nm_eq, sR_I, q2, bd_s, if_neg n10i, if_neg z, if_neg n1, bd_s, if_neg n10i, en, r2, bd_s, if_pos rfl]
      · have n1 : (20 : Int32) < nI k := nI_lt (a := 20) (by omega) hk
        refine JP.no h ?_ ?_
        · unfold r_put
          rw [q1, bd_s, if_neg n10i, if_neg z, if_pos n1]
        · unfold m_put m_within
          rw [nm_eq, sR_I, q2, bd_s, if_neg n10i, if_neg z, if_pos n1, bd_s, if_pos rfl]
  · refine JP.no h ?_ ?_
    · unfold r_put
      rw [q1, bd_s, if_pos rfl]
    · unfold m_put
      rw [nm_eq, sR_I, q2, bd_s, if_pos rfl]
theorem L_parts {x00 : NSt} (h00 : n_clear (n0 0) 200 = some x00) {V : VS} {sr : OSt} {ta : Nat → Int32} {sc sh sn : NSt} {st : OSt} {r : Nat → Nat} (h : RI V sr ta sc sh sn st r) (a : Int32) {k : Nat} (hk : k = 1 ∨ k = 2) : JP x00 V sr ta sc sh sn (r_branchRoot sc a (nI k)) (m_parts (sR (sI st 0 0) r) a (nI k)) := by
  rcases root_any (st := sI st 0 0) h.1.1 h.1.2 a with ⟨i, i16, rfl, hi, q1, q2⟩ | ⟨q1, q2⟩
  · have wl := h.1.1.1.le1
    have r1 := n_hasRoom_ok h.1.2.1 (a := 1) (by omega) wl.1 wl.2
    have r2 := m_hasRoom_ok (st := sI st 0 0) (r := r) (a := 1) (by omega) wl.1 wl.2
    have r6 : r 6 ≤ 16 := h.1.1.2.1.1
    by_cases y : r 1 + 1 ≤ r 0
    · rw [if_pos y] at r1 r2
      by_cases w : r 6 + 2 ≤ 16
      · have n1 : nI (r 6) + 2 ≤ 16 := by
          rw [show nI (r 6) + 2 = nI (r 6 + 2) from nI_add _ 2]
          exact nI_le (b := 16) w (by omega)
        obtain ⟨st1, k1, k2⟩ := keeps_ok h00 (h.same (KP.i0 st))
        obtain ⟨x, s1, s2, s3, sn', ra, rb, r', e1, e2, e3, e4, e5, e6, e7, e8, e9, e10, e11⟩ := split_core (st := st1) h.1.1 h.1.2 i16 hi hk y w
        have t3 : (3 : Int32) * nI x = nI (3 * x) := by rw [i3, pk_mul]
        refine JP.yes k2 (e11.1.trans h.2.1.1) (x := nI (r 6)) ?_ ?_ (KP.rf st1) e9 e10
        · unfold r_branchRoot
          rw [q1, bd_s, if_neg n10i, show n_hasRoom sc 1 = some 1 from r1, bd_s, if_neg n10i, h.1.2.1.2.1.2.2.1, if_pos n1, e1, bd_s]
          simp only
          rw [t3, e2, bd_s, show nI (3 * x) + 1 = nI (3 * x + 1) from nI_1 _, e3, bd_s]
          simp only
          rw [show nI (3 * x) + 2 = nI (3 * x + 2) from nI_add _ 2, e4, bd_s]
        · unfold m_parts
          rw [q2, bd_s, if_neg n10i, show m_hasRoom (sR (sI st 0 0) r) 1 = some 1 from r2, bd_s, if_neg n10i, sR_2, nR_at, if_pos n1, k1, bd_s, e5, bd_s]
          simp only
          rw [e7, bd_s, t3, e8, bd_s, sR_2, nR_at, e6]
      · have n1 : ¬ nI (r 6) + 2 ≤ 16 := by
          rw [show nI (r 6) + 2 = nI (r 6 + 2) from nI_add _ 2]
          exact nI_ge (a := 16) (by omega) (by omega)
        refine JP.no h ?_ ?_
        · unfold r_branchRoot
          rw [q1, bd_s, if_neg n10i, show n_hasRoom sc 1 = some 1 from r1, bd_s, if_neg n10i, h.1.2.1.2.1.2.2.1, if_neg n1]
        · unfold m_parts
          rw [q2, bd_s, if_neg n10i, show m_hasRoom (sR (sI st 0 0) r) 1 = some 1 from r2, bd_s, if_neg n10i, sR_2, nR_at, if_neg n1]
    · rw [if_neg y] at r1 r2
      refine JP.no h ?_ ?_
      · unfold r_branchRoot
        rw [q1, bd_s, if_neg n10i, show n_hasRoom sc 1 = some 0 from r1, bd_s, if_pos rfl]
      · unfold m_parts
        rw [q2, bd_s, if_neg n10i, show m_hasRoom (sR (sI st 0 0) r) 1 = some 0 from r2, bd_s, if_pos rfl]
  · refine JP.no h ?_ ?_
    · unfold r_branchRoot
      rw [q1, bd_s, if_pos rfl]
    · unfold m_parts
      rw [q2, bd_s, if_pos rfl]
theorem bd_pair {α β : Type} (o : Option (α × β)) : (bd o fun x => some (x.1, x.2)) = o := by
  cases o <;> rfl
theorem L_split {x00 : NSt} (h00 : n_clear (n0 0) 200 = some x00) {V : VS} {sr : OSt} {ta : Nat → Int32} {sc sh sn : NSt} {st : OSt} {r : Nat → Nat} (h : RI V sr ta sc sh sn st r) (a : Int32) : JP x00 V sr ta sc sh sn (r_branchRoot sc a 1) (m_split (sR st r) a) := by
  have := L_parts h00 h a (k := 1) (Or.inl rfl)
  rw [show m_split (sR st r) a = m_parts (sR (sI st 0 0) r) a (nI 1) by unfold m_split; rw [nm_eq, sR_I, bd_pair]; rfl]
  exact this
theorem L_twice {x00 : NSt} (h00 : n_clear (n0 0) 200 = some x00) {V : VS} {sr : OSt} {ta : Nat → Int32} {sc sh sn : NSt} {st : OSt} {r : Nat → Nat} (h : RI V sr ta sc sh sn st r) (a : Int32) : JP x00 V sr ta sc sh sn (r_branchRoot sc a 2) (m_twice (sR st r) a) := by
  have := L_parts h00 h a (k := 2) (Or.inr rfl)
  rw [show m_twice (sR st r) a = m_parts (sR (sI st 0 0) r) a (nI 2) by unfold m_twice; rw [nm_eq, sR_I, bd_pair]; rfl]
  exact this
theorem L_drop {x00 : NSt} (h00 : n_clear (n0 0) 200 = some x00) {V : VS} {sr : OSt} {ta : Nat → Int32} {sc sh sn : NSt} {st : OSt} {r : Nat → Nat} (h : RI V sr ta sc sh sn st r) (a : Int32) : JP x00 V sr ta sc sh sn (r_drop sc a) (m_drop (sR st r) a) := by
  rcases root_any (st := sI st 0 0) h.1.1 h.1.2 a with ⟨i, i16, rfl, hi, q1, q2⟩ | ⟨q1, q2⟩
  · have wl := h.1.1.1.le1
    have r1 := n_hasRoom_ok h.1.2.1 (a := 1) (by omega) wl.1 wl.2
    have r2 := m_hasRoom_ok (st := sI st 0 0) (r := r) (a := 1) (by omega) wl.1 wl.2
    by_cases y : r 1 + 1 ≤ r 0
    · rw [if_pos y] at r1 r2
      obtain ⟨st1, k1, k2⟩ := keeps_ok h00 (h.same (KP.i0 st))
      obtain ⟨x, s1, rr, sn', r', e1, e2, e3, e4, e5, e6, e7⟩ := drop_core (st := st1) h.1.1 h.1.2 i16 hi y
      have t3 : (3 : Int32) * nI x = nI (3 * x) := by rw [i3, pk_mul]
      refine JP.yes k2 (e7.1.trans h.2.1.1) (x := nI (r' 1)) ?_ ?_ (KP.rf st1) e5 e6
      · unfold r_drop
        rw [q1, bd_s, if_neg n10i, show n_hasRoom sc 1 = some 1 from r1, bd_s, if_neg n10i, show n_make sc 0 = some (nI x, s1) from e1, bd_s]
        simp only
        rw [t3, e2, bd_s, e6.1.1.2.1]
      · unfold m_drop
        rw [nm_eq, sR_I, q2, bd_s, if_neg n10i, show m_hasRoom (sR (sI st 0 0) r) 1 = some 1 from r2, bd_s, if_neg n10i, k1, bd_s, show m_makes (sR st1 r) 0 = some (nI x, sR st1 rr) from e3, bd_s]
        simp only
        rw [t3, e4, bd_s, sR_2, nR_at]
    · rw [if_neg y] at r1 r2
      refine JP.no h ?_ ?_
      · unfold r_drop
        rw [q1, bd_s, if_neg n10i, show n_hasRoom sc 1 = some 0 from r1, bd_s, if_pos rfl]
      · unfold m_drop
        rw [nm_eq, sR_I, q2, bd_s, if_neg n10i, show m_hasRoom (sR (sI st 0 0) r) 1 = some 0 from r2, bd_s, if_pos rfl]
  · refine JP.no h ?_ ?_
    · unfold r_drop
      rw [q1, bd_s, if_pos rfl]
    · unfold m_drop
      rw [nm_eq, sR_I, q2, bd_s, if_pos rfl]
theorem L_join {x00 : NSt} (h00 : n_clear (n0 0) 200 = some x00) {V : VS} {sr : OSt} {ta : Nat → Int32} {sc sh sn : NSt} {st : OSt} {r : Nat → Nat} (h : RI V sr ta sc sh sn st r) (a b : Int32) : JP x00 V sr ta sc sh sn (r_join sc a b) (m_join (sR st r) a b) := by
  by_cases ab : a = b
  · refine JP.no h ?_ ?_
    · unfold r_join
      rw [if_pos ab]
    · unfold m_join
      rw [nm_eq, sR_I, ab]
      rcases root_any (st := sI st 0 0) h.1.1 h.1.2 b with ⟨i, i16, e, hi, q1, q2⟩ | ⟨q1, q2⟩
      · rw [q2, bd_s, if_neg n10i, bd_s, if_neg n10i, if_pos rfl]
      · rw [q2, bd_s, if_pos rfl]
  · rcases root_any (st := sI st 0 0) h.1.1 h.1.2 a with ⟨i, i16, rfl, hi, q1, q2⟩ | ⟨q1, q2⟩
    · rcases root_any (st := sI st 0 0) h.1.1 h.1.2 b with ⟨j, j16, rfl, hj, p1, p2⟩ | ⟨p1, p2⟩
      · have hij : i ≠ j := fun z => ab (by rw [z])
        obtain ⟨st1, k1, k2⟩ := keeps_ok h00 (h.same (KP.i0 st))
        obtain ⟨sn', r', e1, e2, e3, e4, e5⟩ := join_core h.1.1 h.1.2 i16 j16 hi hj hij
        have la := h.1.1.lk3 (root_xP i16 hi)
        have lb := h.1.1.lk3 (root_xP j16 hj)
        refine JP.yes k2 (e5.1.trans h.2.1.1) (x := nI (fb_ct (hR r') 16)) ?_ ?_ (KP.rf st1) e3 e4
        · unfold r_join
          rw [if_neg ab, q1, bd_s, if_neg n10i, p1, bd_s, if_neg n10i, e1, bd_s, n_rootsThere_ok e3 e4, bd_s]
        · unfold m_join
          rw [nm_eq, sR_I, q2, bd_s, if_neg n10i, p2, bd_s, if_neg n10i, if_neg ab, k1, bd_s, i1000, nI_add, nI_add, m_linkOf_ok (by omega), bd_s, m_linkOf_ok (by omega), bd_s, i14, nI_add, nI_add, gd_nI (by omega) (by omega), nm_eq, gd_nI (by omega) (by omega), nm_eq, nc (by omega), nc (by omega), sR_2, i0, upd_nR, sR_A1, sR_2, upd_nR, sR_A1]
          by_cases z : lk r (1000 + i) = 1000 + j
          · rw [if_pos z] at e2
            rw [if_pos (show nI (r (630 + (1000 + i))) = nI (1000 + j) by rw [← z]; rfl), nm_eq, sR_2, nR_at, nI_1, upd_nR, sR_A1]
            have e7 : ur (ur r (14 + i) 0) (14 + j) 0 7 = r 7 := by rw [ur_n (by omega), ur_n (by omega)]
            rw [e7, ← e2, m_roots_ok e3, bd_s]
          · rw [if_neg z] at e2
            rw [if_neg (show ¬ nI (r (630 + (1000 + i))) = nI (1000 + j) from fun y => z ((nI_eq (a := lk r (1000 + i)) (b := 1000 + j) (by omega) (by omega)).mp y)), show m_links (sR st1 (ur (ur r (14 + i) 0) (14 + j) 0)) (nI (r (630 + (1000 + i)))) (nI (r (630 + (1000 + j)))) = _ from m_links_ok (a := lk r (1000 + i)) (b := lk r (1000 + j)) la lb, bd_s, ← e2, m_roots_ok e3, bd_s]
      · refine JP.no h ?_ ?_
        · unfold r_join
          rw [if_neg ab, q1, bd_s, if_neg n10i, p1, bd_s, if_pos rfl]
        · unfold m_join
          rw [nm_eq, sR_I, q2, bd_s, if_neg n10i, p2, bd_s, if_pos rfl]
    · refine JP.no h ?_ ?_
      · unfold r_join
        rw [if_neg ab, q1, bd_s, if_pos rfl]
      · unfold m_join
        rw [nm_eq, sR_I, q2, bd_s, if_pos rfl]
