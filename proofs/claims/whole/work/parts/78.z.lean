/-! a node of the text, whole; a tree -/
theorem sg_ne1 {c : Nat} (h : isSg c) : nI c ≠ 1 := fun z => by
  have : c < 200 ∧ 5 ≤ c := by unfold isSg at h; omega
  have := (nI_eq (a := c) (b := 1) (by omega) (by omega)).mp z
  omega
theorem node_ok {B : Nat → Nat} {N : Nat} {sa : Nat → Int32} {D d : Nat} (hd : d ≤ 20) (ih : d < 20 → TREE B N sa D (d + 1)) {E : Nat → Prop} {L ρ wl r : Nat → Nat} {sn : NSt} {tt st : OSt} {nc wc : Nat} {nm : Nat → List Nat} {fi gi so : Nat → Nat} {s e e' p0 : Nat} (h : RS B N sa E L ρ wl r sn tt st nc wc nm fi gi so) (tk : TOK B N tt st s e e') (h15 : st.1 15 = nI d) (hwi : WI B N wc p0) (hp0 : p0 ≤ s) {c cl k : Nat} (hsc : isSg c) (hcl : isSg cl) (hk : k = 1 ∨ k = 2) (h4 : tt.1 4 = nI c) {cls : Option (Int32 × OSt × NSt)} {ref : Option (Int32 × OSt)}
    (hc : cls = if nI d < 20 then t_readTreeB_148 (t_readTree D) tt 500 sa sn (nI d) (nI cl) (nI k) else bd (t_refuse tt 500 sa sn (tt.1 5) 4) fun x5 => some ((-1), x5, sn)) (hr : ref = bd (m_node (m_tree D) (sR st r) (nI k) (nI cl)) fun x17 => gb x17.1 (some (x17.1, x17.2))) :
    TOk B N sa E r ρ wc st cls ref ∨ TFl st cls ref := by
  have h0 := h
  obtain ⟨tp, bs, hnl, hwl, nms, hEw, f7, f10⟩ := h
  obtain ⟨k1, k2, k3, k4, tkr⟩ := tk
  obtain ⟨_, _, ee, es, eN⟩ := tkr.sg hsc h4
  subst ee
  have hN := tp.1
  have w := bs.1.1
  have hroom : r 0 ≤ 300 ∧ r 1 ≤ 300 := by obtain ⟨⟨z0, z1, z2⟩, _⟩ := w; omega
  have hm : n_hasRoom sn 1 = _ := n_hasRoom_ok bs.1.2.1 (a := 1) (by omega) hroom.1 hroom.2
  have hm2 : m_hasRoom (sR st r) 1 = _ := m_hasRoom_ok (a := 1) (by omega) hroom.1 hroom.2
  unfold m_node at hr
  rw [sR_1, h15] at hr
  by_cases q20 : d = 20
  · right
    refine ⟨-1, sI tt 7 ((-2) - nI (8 * s + 4)), sI st 10 (nI (8 * s + 4)), sn, r, hc.trans ?_, hr.trans ?_, FLT.mk (by omega) (by omega), hnl, RFr.I st (by omega) _⟩
    · rw [if_neg (show ¬ nI d < (20 : Int32) from nI_nlt (b := 20) (by omega) (by omega)), k2, i4, t_refuse_ok f7, bd_s]
    · rw [if_pos (show nI d = (20 : Int32) by rw [q20]; rfl), i4, m_bad_ok f10 k4, bd_s]
      rfl
  have ih := ih (by omega)
  rw [if_pos (show nI d < (20 : Int32) from nI_lt (b := 20) (by omega) (by omega))] at hc
  rw [if_neg (show ¬ nI d = (20 : Int32) from fun z => q20 ((nI_eq (a := d) (b := 20) (by omega) (by omega)).mp z))] at hr
  unfold t_readTreeB_148 t_makeNode at hc
  by_cases q : r 1 + 1 ≤ r 0
  · rw [if_pos q] at hm hm2
    obtain ⟨sn1, b1, b2, b3, b4, b5, b6, b7, b8⟩ := bs.mk (show r 1 < r 0 by omega) (k := k) (by omega)
    have hmk := m_makes_ok (st := st) w (show r 1 < r 0 by omega) (k := k)
    obtain ⟨m, hmm⟩ : ∃ m, m = mN r := ⟨_, rfl⟩
    obtain ⟨r1, hr1⟩ : ∃ r1, r1 = mK r k := ⟨_, rfl⟩
    rw [← hmm] at b1 b5 b6 b7 hmk
    rw [← hr1] at b3 b4 b6 hmk
    obtain ⟨st1, hst1⟩ : ∃ u, u = sI st 15 (nI (d + 1)) := ⟨_, rfl⟩
    have rs1 : RS B N sa E L ρ wl r1 sn1 tt st1 nc wc nm fi gi so := by
      rw [hst1]
      exact ⟨tp, b3, b2.1.trans hnl, hwl, nms, hEw, f7, f10⟩
    have e6 : st1.1 6 = nI e := by rw [hst1]; exact k3
    obtain ⟨tt1, stg, s1, e1, e1', g1, g2, tkg, ⟨g4, g5⟩, cf, rf⟩ := adv_ok (sn := sn1) rs1.1 f7 eN k1 e6 r1
    have wi1 : WI B N wc e := hwi.mono (by omega)
    have wc250 := wc_le wi1 hN eN
    have pre1 : PRE B N sa E L ρ wl r1 sn1 tt stg nc wc nm fi gi so e (d + 1) := ⟨f7, wc250, by rw [rf.i15, hst1]; rfl, tt1, s1, e1, e1', g1, rs1.tok cf rf, tkg, g4, g5, wi1⟩
    have fr1 : RFr st stg := by
      refine RFr.tr ?_ rf.fr
      rw [hst1]
      exact RFr.I st (by omega) _
    have u1 : ∀ p, uA E r1 wc p ↔ (uA E r wc p ∨ (p < 900 ∧ p / 3 = m)) := fun p => by
      unfold uA
      rw [b6 p]
      constructor
      · rintro ((z | ⟨z1, z2, _⟩) | z)
        · exact Or.inl (Or.inl z)
        · exact Or.inr ⟨z1, z2⟩
        · exact Or.inl (Or.inr z)
      · rintro ((z | z) | ⟨z1, z2⟩)
        · exact Or.inl (Or.inl z)
        · exact Or.inr z
        · exact Or.inl (Or.inr ⟨z1, z2, Or.inr (by omega)⟩)
    have nu : ∀ j, j < 3 → ¬ uA E r wc (3 * m + j) := fun j hj => by
      rintro (z | ⟨z, _⟩)
      · exact (b7 j hj).2 z
      · omega
    have hc1 : cls = bd (t_readTreeB_155 (t_readTree D) 20000 tt 500 sa sn1 (nI d) (nI cl) (nI (3 * m)) (nI 1)) fun x20 => bd (t_expect x20.1 500 sa x20.2 (nI cl)) fun x21 => some (nI (3 * m), x21, x20.2) := by
      rw [hc, hm, bd_s, if_neg (show ¬ (1 : Int32) = 0 by decide), b1, bd_s, bd_s, i3, pk_mul]
      rfl
    have hr1' : ref = bd (m_node_52 (m_tree D) 20000 (sR stg r1) (nI cl) (nI m) (nI 1)) fun x17 => gb x17.1 (some (x17.1, x17.2)) := by
      rw [hr, hm2, bd_s, if_neg (show ¬ (1 : Int32) = 0 by decide), hmk, bd_s, nm_eq, sR_1, h15, show nI d + 1 = nI (d + 1) from nI_add d 1, sR_I, ← hst1, g2, bd_s]
      rfl
    have fin : ∀ (n : Nat) (tt' : OSt) (sn' : NSt) (st' : OSt) (r' : Nat → Nat) (port : Int32), FLT tt' st' → nl sn' = 1266 → RFr stg st' → t_readTreeB_155 (t_readTree D) 20000 tt 500 sa sn1 (nI d) (nI cl) (nI (3 * m)) (nI 1) = t_readTreeB_155 (t_readTree D) (n + 1) tt' 500 sa sn' (nI d) (nI cl) (nI (3 * m)) port → m_node_52 (m_tree D) 20000 (sR stg r1) (nI cl) (nI m) (nI 1) = some (0, sR st' r') → TFl st cls ref := by
      intro n tt' sn' st' r' port x1 x2 x3 x4 x5
      refine ⟨nI (3 * m), sI tt' 4 1, st', sn', r', hc1.trans ?_, hr1'.trans ?_, x1.tk 1, x2, fr1.tr x3⟩
      · rw [x4, loop_ne n x1.ne, bd_s]
        simp only
        rw [t_expect_ne x1.ne (sg_ne1 hcl), bd_s]
      · rw [x5, bd_s]
        rfl
    have l1 := loop_at (rt := t_readTree D) (sa := sa) (sn := sn1) 19999 f7 d (3 * m) 1 (by omega) (nI cl)
    have m1 := node_at (rt := m_tree D) (st := sR stg r1) 19999 m 1 (by omega) (nI cl)
    rcases sub_step ih pre1 (a := 3 * m + 1) ((u1 _).mpr (Or.inr ⟨by omega, by omega⟩)) (by omega) (fun t s' => t_readTreeB_155 (t_readTree D) 19999 t 500 sa s' (nI d) (nI cl) (nI (3 * m)) (nI (1 + 1))) (fun x => m_node_52 (m_tree D) 19999 x (nI cl) (nI m) (nI (1 + 1))) with A | A
    · obtain ⟨tt2, sn2, stg2, E2', L2, ρ2, wl2, r2, nc2, wc2, nm2, fi2, gi2, so2, p2, x1, x2, pre2, x4, x5, ⟨x6, x7⟩, x8, x9, xl⟩ := A
      have l2 := loop_at (rt := t_readTree D) (sa := sa) (sn := sn2) 19998 pre2.1 d (3 * m) 2 (by omega) (nI cl)
      have m2 := node_at (rt := m_tree D) (st := sR stg2 r2) 19998 m 2 (by omega) (nI cl)
      rcases sub_step ih pre2 (a := 3 * m + 2) ((x4 _).mpr ⟨(u1 _).mpr (Or.inr ⟨by omega, by omega⟩), by omega⟩) (by omega) (fun t s' => t_readTreeB_155 (t_readTree D) 19998 t 500 sa s' (nI d) (nI cl) (nI (3 * m)) (nI (2 + 1))) (fun x => m_node_52 (m_tree D) 19998 x (nI cl) (nI m) (nI (2 + 1))) with A | A
      · obtain ⟨tt3, sn3, stg3, E3, L3, ρ3, wl3, r3, nc3, wc3, nm3, fi3, gi3, so3, p3, y1, y2, pre3, y4, y5, ⟨y6, y7⟩, y8, y9, yl⟩ := A
        have cl3 : t_readTreeB_155 (t_readTree D) 20000 tt 500 sa sn1 (nI d) (nI cl) (nI (3 * m)) (nI 1) = some (tt3, sn3) := l1.trans (x1.trans (l2.trans (y1.trans (loop_3 19997 _ _ _))))
        have mn3 : m_node_52 (m_tree D) 20000 (sR stg r1) (nI cl) (nI m) (nI 1) = m_node_52 (m_tree D) (19997 + 1) (sR stg3 r3) (nI cl) (nI m) (nI 3) := m1.trans (x2.trans (m2.trans y2))
        rcases node_end (m := m) pre3 hcl (rt := m_tree D) 19997 with F | F
        · left
          obtain ⟨tt4, stE, st', e4, z1, z2, z3, z4, z5, z6, z7, z8, zl⟩ := F
          refine ⟨3 * m, e4, nc3, wc3, tt4, stE, st', sn3, E3, L3, ρ3, wl3, r3, nm3, fi3, gi3, so3, ⟨hc1.trans ?_, hr1'.trans ?_, z3⟩, z4, z5, ⟨?_, ?_⟩, z7, fun p => ?_, nu 0 (by omega), fun p hp => y5 p (x5 p hp), ⟨by omega, pre3.2.1, fun p hp => (y7 p (by omega)).trans (x7 p hp)⟩, fun j hj => ?_, (fr1.tr x9).tr (y9.tr z8), st_lt hN k4 (by omega) (by omega)⟩
          · rw [cl3, bd_s]
            simp only
            rw [z1, bd_s]
          · rw [mn3, z2, bd_s, gb_1]
          · rw [z6.1, z4.2.1.2.2.2.1 (3 * m) (by omega)]
          · rw [z6.2, h15]
          · rw [y4 p, x4 p, u1 p]
            constructor
            · rintro ⟨⟨z | ⟨q1, q2⟩, q3⟩, q4⟩
              · exact Or.inl z
              · exact Or.inr (by omega)
            · rintro (z | z)
              · exact ⟨⟨Or.inl z, fun v => nu 1 (by omega) (v ▸ z)⟩, fun v => nu 2 (by omega) (v ▸ z)⟩
              · exact ⟨⟨Or.inr ⟨by omega, by omega⟩, by omega⟩, by omega⟩
          · rw [y8 j hj, x8 j hj]
            exact b4.2.2 j hj
        · right
          obtain ⟨tt4, st', z1, z2, z3, z4⟩ := F
          refine ⟨nI (3 * m), tt4, st', sn3, r3, hc1.trans ?_, hr1'.trans ?_, z3, ?_, (fr1.tr x9).tr (y9.tr z4)⟩
          · rw [cl3, bd_s]
            simp only
            rw [z1, bd_s]
          · rw [mn3, z2, bd_s]
            rfl
          · obtain ⟨_, _, _, _, _, _, _, _, rs3, _⟩ := pre3
            exact rs3.2.2.1
      · right
        obtain ⟨tt', sn', st', r', y1, y2, y3, y4, y5⟩ := A
        exact fin 19997 tt' sn' st' r' _ y3 y4 (x9.tr y5) (l1.trans (x1.trans (l2.trans y1))) (m1.trans (x2.trans (m2.trans y2)))
    · right
      obtain ⟨tt', sn', st', r', y1, y2, y3, y4, y5⟩ := A
      exact fin 19998 tt' sn' st' r' _ y3 y4 y5 (l1.trans y1) (m1.trans y2)
  · right
    rw [if_neg q] at hm hm2
    have fl : FLT (sI tt 7 ((-2) - nI (8 * s + 5))) (sI st 10 (nI (8 * s + 5))) := FLT.mk (by omega) (by omega)
    refine ⟨-1, sI (sI tt 7 ((-2) - nI (8 * s + 5))) 4 1, sI st 10 (nI (8 * s + 5)), sn, r, hc.trans ?_, hr.trans ?_, fl.tk 1, hnl, RFr.I st (by omega) _⟩
    · rw [hm, bd_s, if_pos rfl, k2, i5, t_refuse_ok f7, bd_s, bd_s]
      simp only
      rw [loop_ne 19999 fl.ne, bd_s]
      simp only
      rw [t_expect_ne fl.ne (sg_ne1 hcl), bd_s]
    · rw [hm2, bd_s, if_pos rfl, i5, m_bad_ok f10 k4, bd_s]
      rfl
