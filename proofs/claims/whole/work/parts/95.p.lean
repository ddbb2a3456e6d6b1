/-! a text read whole by both -/
def KQ (st st' : OSt) : Prop := st'.1 3 = st.1 3 ∧ st'.2 2 = st.2 2 ∧ st'.2 38 = st.2 38 ∧ st'.2 41 = st.2 41
def KP (st st' : OSt) : Prop := KQ st st' ∧ st'.1 37 = st.1 37 ∧ st'.2 40 = st.2 40
theorem KQ.tr {a b c : OSt} (h : KQ a b) (g : KQ b c) : KQ a c := ⟨g.1.trans h.1, g.2.1.trans h.2.1, g.2.2.1.trans h.2.2.1, g.2.2.2.trans h.2.2.2⟩
theorem KP.tr {a b c : OSt} (h : KP a b) (g : KP b c) : KP a c := ⟨h.1.tr g.1, g.2.1.trans h.2.1, g.2.2.trans h.2.2⟩
theorem KP.rf (st : OSt) : KP st st := ⟨⟨rfl, rfl, rfl, rfl⟩, rfl, rfl⟩
theorem RFr.kp {a b : OSt} (h : RFr a b) : KP a b := ⟨⟨h.1 3 (by decide) (by decide) (by decide) (by decide) (by decide) (by decide) (by decide) (by decide) (by decide), h.2 2 (by decide) (by decide) (by decide) (by decide) (by decide), h.2 38 (by decide) (by decide) (by decide) (by decide) (by decide), h.2 41 (by decide) (by decide) (by decide) (by decide) (by decide)⟩, h.1 37 (by decide) (by decide) (by decide) (by decide) (by decide) (by decide) (by decide) (by decide) (by decide), h.2 40 (by decide) (by decide) (by decide) (by decide) (by decide)⟩
theorem RFr.i19 {a b : OSt} (h : RFr a b) : b.2 19 = a.2 19 := h.2 19 (by decide) (by decide) (by decide) (by decide) (by decide)
theorem net137 {st : OSt} {r ro : Nat → Nat} {F : Nat} (h19 : ∀ j, j < 1646 → st.2 19 j = nI (ro j)) (h10 : st.1 10 = nI F) : ∃ r', m_net_137 (sR st r) = some ((-2) - nI F, sR st r') ∧ ∀ j, j < 1646 → r' j = ro j := by
  refine ⟨fun j => if j < 1646 then ro j else r j, ?_, fun j hj => if_pos hj⟩
  unfold m_net_137 m_net_138
  rw [if_pos rfl, show m_copies 1646 ((sR st r).2 19) 1646 ((sR st r).2 1) 0 0 = _ from m_copies_ok (a := 0) (b := 0) (by omega) (by omega) (by omega) (by omega), bd_s]
  have e : (fun j => if 0 ≤ j ∧ j < 0 + 1646 then (sR st r).2 19 (0 + (j - 0)) else (sR st r).2 1 j) = nR (fun j => if j < 1646 then ro j else r j) := by
    funext j
    rw [sR_o _ _ (by decide), sR_2]
    show _ = nI (if j < 1646 then ro j else r j)
    by_cases z : j < 1646
    · rw [if_pos (by omega), if_pos z, Nat.sub_zero, Nat.zero_add, h19 j z]
    · rw [if_neg (by omega), if_neg z, nR_at]
  rw [e, sR_A1, sR_1, h10]
theorem tail_ok {B : Nat → Nat} {N : Nat} {sa : Nat → Int32} {L ρ wl r ro : Nat → Nat} {sn : NSt} {tt st : OSt} {nm : Nat → List Nat} {fi gi so : Nat → Nat} {s e e' p0 a : Nat} (h : RS B N sa (fun _ => False) L ρ wl r sn tt st 0 0 nm fi gi so) (tk : TOK B N tt st s e e') (h15 : st.1 15 = nI 0) (hwi : WI B N 0 p0) (hp0 : p0 ≤ s) (hs : s ≤ N) (hr : ∀ j, j < 1646 → r j = rE a j) (h19 : ∀ j, j < 1646 → st.2 19 j = nI (ro j)) :
    (∃ (tt' : OSt) (sn' : NSt) (st' : OSt) (r' : Nat → Nat), t_read_61 tt 500 sa sn = some (0, tt', sn') ∧ m_net_97 (sR st r) = some (nI (r' 1), sR st' r') ∧ NV r' ∧ NC r' sn' ∧ nl sn' = 1266 ∧ st'.1 37 = 0 ∧ st'.2 40 0 = 0 ∧ st'.2 40 1 = 0 ∧ KQ st st') ∨
    (∃ (tt' : OSt) (sn' : NSt) (st' : OSt) (r' : Nat → Nat) (F : Nat), t_read_61 tt 500 sa sn = some ((-2) - nI F, tt', sn') ∧ ¬ (-2) - nI F = 0 ∧ m_net_97 (sR st r) = some ((-2) - nI F, sR st' r') ∧ (∀ j, j < 1646 → r' j = ro j) ∧ nl sn' = 1266 ∧ KP st st') := by
  have hN := h.1.1
  have nu : ∀ p, ¬ uA (fun _ => False) r 0 p := fun p z => by
    rcases z with ⟨z1, z2, _⟩ | ⟨z1, z2, _⟩
    · rcases z2 with z2 | z2
      · rw [hr _ (by omega), rE_n (by omega)] at z2
        omega
      · omega
    · omega
  have n10 : ¬ (1 : Int32) = 0 := by decide
  rcases lines_ok (B := B) (N := N) (sa := sa) 20000 0 _ _ _ _ _ _ _ _ _ _ _ _ _ _ s e e' p0 h tk h15 hwi hp0 hs nu (by omega) (by omega) with F | F
  · obtain ⟨tt', st', sn', E', L', ρ', wl', r', nc', wc', nm', fi', gi', so', b1, b2, b3, b4, b5, b6, b7, b8⟩ := F
    have f7 := b3.2.2.2.2.2.2.1
    have eC : t_read_61 tt 500 sa sn = bd (t_endNames tt' 500 sa sn') fun x12 => some ((x12.1.1 7), x12.1, x12.2) := by
      unfold t_read_61
      rw [show t_read_63 20000 tt 500 sa sn 0 = some (tt', sn') from b1, bd_s]
      simp only
      rw [if_pos f7]
    have eR : m_net_97 (sR st r) = bd (m_rootsAll (sR st' r')) fun x22 => if x22.1 = 0 then m_net_137 x22.2 else m_net_138 x22.2 1 := by
      unfold m_net_97 m_net_102
      rw [b2, bd_s]
      simp only
      unfold m_net_122
      rw [if_neg n10]
    have hj : ∀ j, 6 ≤ j → j < 30 → r' j = rE a j := fun j h1 h2 => by rw [b6 j (Or.inr ⟨h1, h2⟩), hr j (by omega)]
    rcases endnames_ok b3 b4 b5 hj b8 with G | G
    · left
      obtain ⟨sn2, st1, st2, r1, r2, g1, g2, g3, g4, g5, g6, g7, g8⟩ := G
      obtain ⟨st3, hst3⟩ : ∃ u, u = sA (sI st2 37 0) 40 (upd (upd (st2.2 40) 0 0) 1 0) := ⟨_, rfl⟩
      refine ⟨tt', sn2, st3, r2, ?_, ?_, g4, g5, g6, ?_, ?_, ?_, ?_⟩
      · rw [eC, g1, bd_s]
        simp only
        rw [f7]
      · rw [eR, g2, bd_s]
        simp only
        rw [if_neg n10]
        unfold m_net_138
        simp only [nm_eq]
        rw [if_neg n10, g3, bd_s, nb0, sR_I, sR_o _ _ (by decide), sR_A _ _ (by decide), sR_o _ _ (by decide), sR_A _ _ (by decide), sA_sA, sR_2, nR_at, hst3]
        rfl
      · rw [hst3]; rfl
      · rw [hst3, sA_2, if_pos rfl, upd_at, if_neg (by decide), upd_at, if_pos rfl]
      · rw [hst3, sA_2, if_pos rfl, upd_at, if_pos rfl]
      · refine b7.kp.1.tr ?_
        rw [hst3]
        refine ⟨?_, ?_, ?_, ?_⟩
        · show st2.1 3 = st'.1 3
          rw [g7]
        · exact g8 2 (by decide) (by decide)
        · exact g8 38 (by decide) (by decide)
        · exact g8 41 (by decide) (by decide)
    · right
      obtain ⟨tt2, st2, g1, g2, ⟨F, f1, f2, f3, f4⟩, g4, g5⟩ := G
      have k19 : ∀ j, j < 1646 → st2.2 19 j = nI (ro j) := fun j hj' => by rw [g5.i19, b7.i19]; exact h19 j hj'
      obtain ⟨r2, x1, x2⟩ := net137 (r := r') k19 f4
      refine ⟨tt2, sn', st2, r2, F, ?_, ?_, ?_, x2, g4, b7.kp.tr g5.kp⟩
      · rw [eC, g1, bd_s]
        simp only
        rw [f3]
      · rw [← f3]; exact FLT.ne (st := st2) ⟨F, f1, f2, f3, f4⟩
      · rw [eR, g2, bd_s]
        simp only
        rw [if_pos trivial, x1]
  · right
    obtain ⟨tt', st', sn', r', b1, b2, ⟨F, f1, f2, f3, f4⟩, b4, b5⟩ := F
    have ne := FLT.ne (tt := tt') (st := st') ⟨F, f1, f2, f3, f4⟩
    have k19 : ∀ j, j < 1646 → st'.2 19 j = nI (ro j) := fun j hj' => by rw [b5.i19]; exact h19 j hj'
    obtain ⟨r2, x1, x2⟩ := net137 (r := r') k19 f4
    refine ⟨tt', sn', st', r2, F, ?_, by rw [← f3]; exact ne, ?_, x2, b4, b5.kp⟩
    · unfold t_read_61
      rw [show t_read_63 20000 tt 500 sa sn 0 = some (tt', sn') from b1, bd_s]
      simp only
      rw [if_neg ne, f3]
    · unfold m_net_97 m_net_102
      rw [b2, bd_s]
      simp only
      unfold m_net_122
      rw [if_pos rfl, x1]
def ρs (p : Nat) : Nat := if p < 1016 then p else p + 584
theorem t61_ne {tt st' : OSt} {sa : Nat → Int32} {sn : NSt} (hf : FLT tt st') : t_read_61 tt 500 sa sn = some (tt.1 7, tt, sn) := by
  have e : t_read_63 20000 tt 500 sa sn 0 = some (tt, sn) := by
    rw [t_read_63, if_neg (by decide)]
    by_cases z : tt.1 4 = 0
    · rw [if_pos z]
    · rw [if_neg z, if_neg hf.ne]
  unfold t_read_61
  rw [e, bd_s]
  simp only
  rw [if_neg hf.ne]
theorem read_ok {B : Nat → Nat} {sa : Nat → Int32} {r : Nat → Nat} {sn : NSt} {tt st : OSt} {n T : Nat} (hn : n ≤ T) (hT : T ≤ 500) (h3 : st.1 3 = nI T) (hnl : nl sn = 1266) (hB : ∀ i, i < n → B i < 256 ∧ sa i = nI (B i) ∧ st.2 2 i &&& 255 = nI (B i)) :
    (∃ (tt' : OSt) (sn' : NSt) (st' : OSt) (r' : Nat → Nat), t_read tt 500 sa sn (nI n) = some (0, tt', sn') ∧ m_net (sR st r) (nI n) = some (nI (r' 1), sR st' r') ∧ NV r' ∧ NC r' sn' ∧ nl sn' = 1266 ∧ st'.1 3 = 0 ∧ st'.1 37 = 0 ∧ st'.2 40 0 = 0 ∧ st'.2 40 1 = 0 ∧ KQ (sI st 3 0) st') ∨
    (∃ (tt' : OSt) (sn' : NSt) (st' : OSt) (r' : Nat → Nat) (x : Int32), t_read tt 500 sa sn (nI n) = some (x, tt', sn') ∧ ¬ x = 0 ∧ m_net (sR st r) (nI n) = some (x, sR st' r') ∧ (∀ j, j < 1646 → r' j = r j) ∧ nl sn' = 1266 ∧ st'.1 3 = 0 ∧ KP (sI st 3 0) st') := by
  obtain ⟨s9, hs9⟩ : ∃ u, u = sI (sI (sI (sI (sI (sI (sI st 0 0) 4 (nI n)) 3 0) 6 0) 10 0) 11 0) 15 0 := ⟨_, rfl⟩
  obtain ⟨s5, hs5⟩ : ∃ u, u = sI (sI (sI (sI (sI tt 2 (nI n)) 3 0) 7 0) 11 0) 12 0 := ⟨_, rfl⟩
  obtain ⟨x10, hx10⟩ : ∃ u, u = (fun j => if 0 ≤ j ∧ j < 0 + 1646 then (sR s9 r).2 1 (0 + (j - 0)) else (sR s9 r).2 19 j) := ⟨_, rfl⟩
  obtain ⟨st0, hst0⟩ : ∃ u, u = sA s9 19 x10 := ⟨_, rfl⟩
  obtain ⟨r0, m1, m2⟩ := empties_ok (st := st0) (a := 200) r
  obtain ⟨sn0, q1, q2, q3, q4, q5, q6, q7, q8⟩ := clear_ok (sn := sn) (by omega) (by omega) (a := 200) (by omega) (fun _ => 0)
  obtain ⟨wl, hwl⟩ := nR_ex (st0.2 14)
  have rI : ∀ p q, ρs p = ρs q → p = q := fun p q z => by
    unfold ρs at z
    split at z <;> split at z <;> omega
  have rl : ∀ p, p < 1016 → ρs p = p := fun p hp => if_pos hp
  have rg : ∀ p, 1016 ≤ p → 1100 ≤ ρs p := fun p hp => by
    unfold ρs
    rw [if_neg (by omega)]
    omega
  have k2 : st0.2 2 = st.2 2 := by rw [hst0, hs9]; rfl
  have tp : TP B n sa s5 st0 := by
    refine ⟨by omega, by rw [hs5]; rfl, by rw [hst0, hs9]; rfl, fun i hi => ?_⟩
    rw [k2]
    exact hB i hi
  have rs0 : RS B n sa (fun _ => False) (fun _ => 0) ρs wl r0 sn0 s5 st0 0 0 (fun _ => []) (fun _ => 0) (fun _ => 0) (fun _ => 0) := by
    refine ⟨tp, BS_start m2 q5 q6 q7 q8 rl rg rI, q2.trans hnl, fun k _ => by rw [hwl]; rfl, ⟨⟨by rw [hs5]; rfl, by rw [hst0, hs9]; rfl, by rw [hs5]; rfl, Nat.le_refl _⟩, fun i hi => absurd hi (Nat.not_lt_zero _), fun i j _ hj => absurd hj (Nat.not_lt_zero _), fun i hi => absurd hi (Nat.not_lt_zero _), fun j hj => absurd hj (Nat.not_lt_zero _), fun j _ => ?_⟩, fun p hp => hp.elim, by rw [hs5]; rfl, by rw [hst0, hs9]; rfl⟩
    unfold ρs
    rw [if_neg (by omega)]
    omega
  have f7 := rs0.2.2.2.2.2.2.1
  obtain ⟨tt1, st1, s, e, e', g1, g2, g3, ⟨g4, g5⟩, cf, rf⟩ := adv_ok (sn := sn0) tp f7 (p := 0) (by omega) (by rw [hs5]; rfl) (by rw [hst0, hs9]; rfl) r0
  have rs1 := rs0.tok cf rf
  have h15 : st1.1 15 = nI 0 := by rw [rf.i15, hst0, hs9]; rfl
  have k19 : ∀ j, j < 1646 → st1.2 19 j = nI (r j) := fun j hj => by
    rw [rf.fr.i19, hst0, sA_2, if_pos rfl, hx10]
    simp only
    rw [if_pos (by omega), Nat.sub_zero, Nat.zero_add, sR_2, nR_at]
  have kp0 : KP (sI st 3 0) st1 := by
    refine KP.tr ?_ rf.fr.kp
    rw [hst0, hs9]
    exact ⟨⟨rfl, rfl, rfl, rfl⟩, rfl, rfl⟩
  have i3' : ∀ st' : OSt, KQ st1 st' → st'.1 3 = 0 := fun st' z => by
    rw [z.1, kp0.1.1]
    rfl
  have eC : t_read tt 500 sa sn (nI n) = if (tt1.1 4) = 4 then bd (t_readMemory tt1 500 sa sn0) fun x9 => t_read_61 x9.1 500 sa x9.2 else t_read_61 tt1 500 sa sn0 := by
    unfold t_read
    simp only [nm_eq]
    rw [if_neg (show ¬ nI 500 < nI n from nI_nlt (by omega) (by omega)), show n_clear sn 200 = some sn0 from q1, bd_s, ← hs5, g1, bd_s]
  have eR : m_net (sR st r) (nI n) = if (st1.1 7) = 1 then if (st1.1 9) = 441892441 then bd (m_memoryLine (sR st1 r0)) fun x15 => if x15.1 = 0 then m_net_102 x15.2 0 else m_net_97 x15.2 else m_net_97 (sR st1 r0) else m_net_97 (sR st1 r0) := by
    have wi : m_within (nI n) 0 ((sI (sR st r) 0 0).1 3) = some 1 := by
      unfold m_within
      rw [show (sI (sR st r) 0 0).1 3 = nI T from h3, if_neg (nI_pos (by omega)), if_neg (nI_nlt (by omega) (by omega))]
    unfold m_net
    simp only [nm_eq]
    rw [wi, bd_s, if_neg (show ¬ (1 : Int32) = 0 by decide), sR_I, sR_I, sR_I, sR_I, sR_I, sR_I, sR_I, ← hs9, show m_copies 1646 ((sR s9 r).2 1) 1646 ((sR s9 r).2 19) 0 0 = some x10 by rw [hx10]; exact m_copies_ok (a := 0) (b := 0) (by omega) (by omega) (by omega) (by omega), bd_s, sR_A _ _ (by decide), ← hst0, show m_empties (sR st0 r) 200 = some (sR st0 r0) from m1, bd_s, g2, bd_s, sR_1]
  have tkr := g3.2.2.2.2
  by_cases t4 : tt1.1 4 = 4
  · have z7 : st1.1 7 = 1 ∧ st1.1 9 = 441892441 := by
      rcases tkr with ⟨z, _⟩ | ⟨z, _⟩ | ⟨_, z1, _, z2⟩ | ⟨z, _⟩ | ⟨c, hc, z, _⟩ | ⟨z, _⟩
      · rw [t4] at z; exact absurd z (by decide)
      · rw [t4] at z; exact absurd z (by decide)
      · exact ⟨z1, z2⟩
      · rw [t4] at z; exact absurd z (by decide)
      · have : nI 4 = nI c := t4.symm.trans z
        have hc2 : 5 ≤ c ∧ c < 200 := by unfold isSg at hc; omega
        rw [nI_eq (by omega) (by omega)] at this
        omega
      · rw [t4] at z; exact absurd z (by decide)
    rw [if_pos t4] at eC
    rw [if_pos z7.1, if_pos z7.2] at eR
    rcases mem_ok rs1 g3 t4 h15 m2 with M | M
    · obtain ⟨tt2, sn2, st2, r2, v, s', e1, e1', p1, a1, a2, a3, a4, a5, a6, a7, a8, a9, a10, a11⟩ := M
      rw [a1, bd_s] at eC
      rw [a2, bd_s, if_neg (show ¬ (1 : Int32) = 0 by decide)] at eR
      simp only at eC eR
      rcases tail_ok a3 a4 a5 a6 a7 a8 a10 (fun j hj => by rw [a11.i19]; exact k19 j hj) with U | U
      · left
        obtain ⟨tt', sn', st', r', u1, u2, u3, u4, u5, u6, u7, u8, u9⟩ := U
        exact ⟨tt', sn', st', r', eC.trans u1, eR.trans u2, u3, u4, u5, i3' _ (a11.kp.1.tr u9), u6, u7, u8, kp0.1.tr (a11.kp.1.tr u9)⟩
      · right
        obtain ⟨tt', sn', st', r', F, u1, u2, u3, u4, u5, u6⟩ := U
        exact ⟨tt', sn', st', r', _, eC.trans u1, u2, eR.trans u3, u4, u5, i3' _ (a11.kp.1.tr u6.1), kp0.tr (a11.kp.tr u6)⟩
    · right
      obtain ⟨tt2, sn2, st2, r2, a1, a2, a3, a4, a5⟩ := M
      rw [a1, bd_s] at eC
      rw [a2, bd_s, if_pos rfl] at eR
      simp only at eC eR
      have a3' := a3
      obtain ⟨F, f1, f2, f3, f4⟩ := a3'
      obtain ⟨r3, x1, x2⟩ := net137 (r := r2) (ro := r) (fun j hj => by rw [a5.i19]; exact k19 j hj) f4
      refine ⟨tt2, sn2, st2, r3, tt2.1 7, eC.trans (t61_ne a3), a3.ne, eR.trans ?_, x2, a4, i3' _ a5.kp.1, kp0.tr a5.kp⟩
      unfold m_net_102
      rw [m_net_103, if_pos rfl, bd_s]
      simp only
      unfold m_net_122
      rw [if_pos rfl, x1, f3]
  · rw [if_neg t4] at eC
    have eR' : m_net (sR st r) (nI n) = m_net_97 (sR st1 r0) := by
      rw [eR]
      by_cases z7 : st1.1 7 = 1
      · rw [if_pos z7, if_neg]
        rcases tkr with ⟨_, z, _⟩ | ⟨_, _, _, l, hl, _, l5, _, z9⟩ | ⟨z, _⟩ | ⟨_, z, _⟩ | ⟨c, hc, _, z, _⟩ | ⟨_, z⟩
        · rw [z7] at z; exact absurd z (by decide)
        · intro w
          have b1 := e32_lt l hl
          have b2 : 32 ^ l.length ≤ 32 ^ 5 := Nat.pow_le_pow_right (by decide) l5
          have : nI (e32 l) = nI 441892441 := z9.symm.trans w
          rw [nI_eq (by omega) (by omega)] at this
          omega
        · exact absurd z t4
        · rw [z7] at z; exact absurd z (by decide)
        · rw [z7] at z; exact absurd z (by decide)
        · rw [z7] at z; exact absurd z (by decide)
      · rw [if_neg z7]
    rcases tail_ok rs1 g3 h15 (p0 := 0) (Or.inl (by omega)) (by omega) g5 m2 k19 with U | U
    · left
      obtain ⟨tt', sn', st', r', u1, u2, u3, u4, u5, u6, u7, u8, u9⟩ := U
      exact ⟨tt', sn', st', r', eC.trans u1, eR'.trans u2, u3, u4, u5, i3' _ u9, u6, u7, u8, kp0.1.tr u9⟩
    · right
      obtain ⟨tt', sn', st', r', F, u1, u2, u3, u4, u5, u6⟩ := U
      exact ⟨tt', sn', st', r', _, eC.trans u1, u2, eR'.trans u3, u4, u5, i3' _ u6.1, kp0.tr u6⟩
