/-! leaves of the text: a number -/
theorem n_hasRoom_any (sn : NSt) (a : Int32) : n_hasRoom sn a = some 0 ∨ n_hasRoom sn a = some 1 := by
  unfold n_hasRoom
  split
  · exact Or.inl rfl
  · exact Or.inr rfl
theorem number28_ne {tt : OSt} {sa : Nat → Int32} {sn : NSt} (h : ¬ tt.1 7 = 0) (v : Int32) : t_readNumber_28 tt 500 sa sn v = some (-1, tt, sn) := by
  unfold t_readNumber_28 n_numberSize
  rw [bd_s]
  rcases n_hasRoom_any sn (2 * tt.1 6 + 1) with q | q
  · rw [q, bd_s, if_pos rfl, t_refuse_ne h, bd_s, if_neg h]
  · rw [q, bd_s, if_neg (show ¬ (1 : Int32) = 0 by decide), if_neg h]
theorem leafnum_ok {B : Nat → Nat} {N : Nat} {sa : Nat → Int32} {E : Nat → Prop} {L ρ wl r : Nat → Nat} {sn : NSt} {tt st : OSt} {nc wc : Nat} {nm : Nat → List Nat} {fi gi so : Nat → Nat} {s e e' p0 : Nat} (h : RS B N sa E L ρ wl r sn tt st nc wc nm fi gi so) (tk : TOK B N tt st s e e') (h4 : tt.1 4 = nI 35) (hwi : WI B N wc p0) (hp0 : p0 ≤ s) {cls : Option (Int32 × OSt × NSt)} {ref : Option (Int32 × OSt)} (hc : cls = bd (t_readNumber tt 500 sa sn) fun x6 => some (x6.1, x6.2.1, x6.2.2)) (hr : ref = bd (m_number (sR st r)) fun x19 => gb x19.1 (some (x19.1, x19.2))) :
    TOk B N sa E r ρ wc st cls ref ∨ TFl st cls ref := by
  have h0 := h
  obtain ⟨tp, bs, hnl, hwl, nms, hEw, f7, f10⟩ := h
  obtain ⟨k1, k2, k3, k4, tkr⟩ := tk
  obtain ⟨_, _, ee, es, eN⟩ := tkr.sg (c := 35) (by unfold isSg; omega) h4
  subst ee
  have hN := tp.1
  have w := bs.1.1
  have hroom : r 0 ≤ 300 ∧ r 1 ≤ 300 := by obtain ⟨⟨z0, z1, z2⟩, _⟩ := w; omega
  obtain ⟨tt1, st1, s1, e1, e1', g1, g2, tk1, ⟨g4, g5⟩, cf, rf⟩ := adv_ok (sn := sn) tp f7 eN k1 k3 r
  have h1 := h0.tok cf rf
  obtain ⟨tp1, _, _, _, _, _, f71, f101⟩ := h1
  have h1 := h0.tok cf rf
  obtain ⟨j1, j2, j3, j4, tkr1⟩ := tk1
  by_cases t3 : tt1.1 4 = 3
  · obtain ⟨tk2, ⟨ee, se, eN1⟩, n, hn, v6, v8⟩ := tkr1.nu t3
    subst ee
    have hx : t_expect tt 500 sa sn 3 = some tt1 := by
      unfold t_expect
      rw [g1, bd_s, if_pos t3]
    by_cases n20 : n ≤ 20
    · have hm : n_hasRoom sn (2 * nI n + 1) = _ := (by rw [i2, i1, pk_mul, nI_add] : n_hasRoom sn (2 * nI n + 1) = n_hasRoom sn (nI (2 * n + 1))).trans (n_hasRoom_ok bs.1.2.1 (a := 2 * n + 1) (by omega) hroom.1 hroom.2)
      have hm2 : m_hasRoom (sR st1 r) (2 * nI n + 1) = _ := (by rw [i2, i1, pk_mul, nI_add] : m_hasRoom (sR st1 r) (2 * nI n + 1) = m_hasRoom (sR st1 r) (nI (2 * n + 1))).trans (m_hasRoom_ok (a := 2 * n + 1) (by omega) hroom.1 hroom.2)
      by_cases q : r 1 + (2 * n + 1) ≤ r 0
      · left
        rw [if_pos q] at hm hm2
        obtain ⟨x, sn', E', L', r', b1, b2, b3, b4, b5, b6, b7, b8, b9, b10, b11⟩ := makeNumber_ok (k := n) (by omega) (st := st1) bs (by omega) q
        refine leaf_TOk (x := x) (st1 := st1) (tt := tt1) h1 ⟨j1, j3, eN1⟩ rf.fr rf.i15 (hwi.mono (by omega)) (wc_le (hwi.mono (q := e1) (by omega)) hN eN1) b4 b3 b5 b7 b8 (fun z => ?_) b9 (st_lt hN k4 (by omega) (by omega)) (hc.trans ?_) (hr.trans ?_)
        · rcases z.2.1 with ⟨_, z, _⟩ | ⟨z, _⟩ <;> omega
        · unfold t_readNumber
          rw [hx, bd_s, v6, if_pos (show nI n ≤ (20 : Int32) from nI_le (b := 20) (by omega) (by omega))]
          unfold t_readNumber_28 n_numberSize
          rw [bd_s, v6, hm, bd_s, if_neg (show ¬ (1 : Int32) = 0 by decide), if_pos f71, b1, bd_s, bd_s]
        · unfold m_number
          rw [g2, bd_s, sR_1, tk2, if_pos rfl, v8, if_pos (show nI n ≤ (20 : Int32) from nI_le (b := 20) (by omega) (by omega)), hm2, bd_s, if_neg (show ¬ (1 : Int32) = 0 by decide), b2, bd_s, nm_eq, sR_I]
          cases m_go (sR (sI st1 16 (nI x)) r') with
          | none => rfl
          | some z => rfl
      · right
        rw [if_neg q] at hm hm2
        refine ⟨-1, sI tt1 7 ((-2) - nI (8 * s + 5)), sI st1 10 (nI (8 * s + 5)), sn, r, hc.trans ?_, hr.trans ?_, FLT.mk (by omega) (by omega), hnl, rf.fr.tr (RFr.I st1 (by omega) _)⟩
        · unfold t_readNumber
          rw [hx, bd_s, v6, if_pos (show nI n ≤ (20 : Int32) from nI_le (b := 20) (by omega) (by omega))]
          unfold t_readNumber_28 n_numberSize
          rw [bd_s, v6, hm, bd_s, if_pos rfl, k2, i5, t_refuse_ok f71, bd_s, if_neg (FLT.ne (st := sI st1 10 (nI (8 * s + 5))) (FLT.mk (by omega) (by omega))), bd_s]
        · unfold m_number
          rw [g2, bd_s, sR_1, tk2, if_pos rfl, v8, if_pos (show nI n ≤ (20 : Int32) from nI_le (b := 20) (by omega) (by omega)), hm2, bd_s, if_pos rfl, sR_1, k4, i5, m_badAt_ok f101, bd_s]
          rfl
    · right
      refine ⟨-1, sI tt1 7 ((-2) - nI (8 * s1 + 3)), sI st1 10 (nI (8 * s1 + 3)), sn, r, hc.trans ?_, hr.trans ?_, FLT.mk (by omega) (by omega), hnl, rf.fr.tr (RFr.I st1 (by omega) _)⟩
      · unfold t_readNumber
        rw [hx, bd_s, v6, if_neg (show ¬ nI n ≤ (20 : Int32) from nI_ge (a := 20) (by omega) (by omega)), j2, i3, t_refuse_ok f71, bd_s, number28_ne (FLT.ne (st := sI st1 10 (nI (8 * s1 + 3))) (FLT.mk (by omega) (by omega))), bd_s]
      · unfold m_number
        rw [g2, bd_s, sR_1, tk2, if_pos rfl, v8, if_neg (show ¬ nI n ≤ (20 : Int32) from nI_ge (a := 20) (by omega) (by omega)), i3, m_bad_ok f101 j4, bd_s]
        rfl
  · right
    have n2 := tkr1.nnu t3
    have fl : ¬ (sI tt1 7 ((-2) - nI (8 * s1 + 1))).1 7 = 0 := FLT.ne (st := sI st1 10 (nI (8 * s1 + 1))) (FLT.mk (by omega) (by omega))
    refine ⟨-1, sI tt1 7 ((-2) - nI (8 * s1 + 1)), sI st1 10 (nI (8 * s1 + 1)), sn, r, hc.trans ?_, hr.trans ?_, FLT.mk (by omega) (by omega), hnl, rf.fr.tr (RFr.I st1 (by omega) _)⟩
    · unfold t_readNumber t_expect
      rw [g1, bd_s, if_neg t3, j2, show (1 : Int32) = nI 1 from rfl, t_refuse_ok f71, bd_s, bd_s, number28_ne fl]
      split
      · rw [bd_s]
        rfl
      · rw [t_refuse_ne fl, bd_s, number28_ne fl, bd_s]
        rfl
    · unfold m_number
      rw [g2, bd_s, sR_1, if_neg n2, show (1 : Int32) = nI 1 from rfl, m_bad_ok f101 j4, bd_s]
      rfl
