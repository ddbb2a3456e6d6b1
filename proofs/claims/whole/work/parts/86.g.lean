/-! the memory line read by both -/
theorem memtail_ne {tt st' : OSt} {sa : Nat → Int32} {sn : NSt} (hf : FLT tt st') (hn : nl sn = 1266) (v : Int32) : ∃ tt' sn', (bd (n_clear sn v) fun x4 => bd (t_expect tt 500 sa x4 59) fun x5 => bd (t_advance x5 500 sa x4) fun x6 => some (x6, x4)) = some (tt', sn') ∧ FLT tt' st' ∧ nl sn' = 1266 := by
  obtain ⟨s2, d1, d2⟩ := n_clear_any (sn := sn) (by omega) v
  refine ⟨sI (sI tt 4 1) 4 1, s2, ?_, (hf.tk 1).tk 1, d2.trans hn⟩
  rw [d1, bd_s, t_expect_ne hf.ne (by decide), bd_s, t_advance_ne (f7_tk hf.ne 1), bd_s]
theorem mem_ok {B : Nat → Nat} {N : Nat} {sa : Nat → Int32} {L ρ wl r : Nat → Nat} {sn : NSt} {tt st : OSt} {nm : Nat → List Nat} {fi gi so : Nat → Nat} {s e e' a : Nat} (h : RS B N sa (fun _ => False) L ρ wl r sn tt st 0 0 nm fi gi so) (tk : TOK B N tt st s e e') (h4 : tt.1 4 = 4) (h15 : st.1 15 = nI 0) (hr : ∀ j, j < 1646 → r j = rE a j) :
    (∃ (tt' : OSt) (sn' : NSt) (st' : OSt) (r' : Nat → Nat) (v s' e1 e1' p1 : Nat), t_readMemory tt 500 sa sn = some (tt', sn') ∧ m_memoryLine (sR st r) = some (1, sR st' r') ∧ RS B N sa (fun _ => False) L ρ wl r' sn' tt' st' 0 0 nm fi gi so ∧ TOK B N tt' st' s' e1 e1' ∧ st'.1 15 = nI 0 ∧ WI B N 0 p1 ∧ p1 ≤ s' ∧ s' ≤ N ∧ (8 ≤ v ∧ v ≤ 300) ∧ (∀ j, j < 1646 → r' j = rE v j) ∧ RFr st st') ∨
    (∃ (tt' : OSt) (sn' : NSt) (st' : OSt) (r' : Nat → Nat), t_readMemory tt 500 sa sn = some (tt', sn') ∧ m_memoryLine (sR st r) = some (0, sR st' r') ∧ FLT tt' st' ∧ nl sn' = 1266 ∧ RFr st st') := by
  have h0 := h
  obtain ⟨tp, bs, hnl, hwl, nms, hEw, f7, f10⟩ := h
  obtain ⟨k1, k2, k3, k4, tkr⟩ := tk
  have hN := tp.1
  have ek : e = e' ∧ s < e ∧ e ≤ N := by
    rcases tkr with ⟨z, _⟩ | ⟨z, _⟩ | ⟨_, _, z, _⟩ | ⟨z, _⟩ | ⟨c, hc, z, _⟩ | ⟨z, _⟩
    · rw [h4] at z; exact absurd z (by decide)
    · rw [h4] at z; exact absurd z (by decide)
    · exact z
    · rw [h4] at z; exact absurd z (by decide)
    · have : nI 4 = nI c := h4.symm.trans z
      have c2 : 5 ≤ c ∧ c < 200 := by unfold isSg at hc; omega
      rw [nI_eq (by omega) (by omega)] at this
      omega
    · rw [h4] at z; exact absurd z (by decide)
  obtain ⟨ee, se, eN⟩ := ek
  subst ee
  obtain ⟨tt1, st1, s1, e1, e1', g1, g2, tk1, ⟨g4, g5⟩, cf, rf⟩ := adv_ok (sn := sn) tp f7 eN k1 k3 r
  have h1 := h0.tok cf rf
  have f71 := h1.2.2.2.2.2.2.1
  have f101 := h1.2.2.2.2.2.2.2
  obtain ⟨j1, j2, j3, j4, tkr1⟩ := tk1
  have n10 : ¬ (1 : Int32) = 0 := by decide
  by_cases t3 : tt1.1 4 = 3
  · obtain ⟨tk2, ⟨ee, se1, eN1⟩, n, hn, v6, v8⟩ := tkr1.nu t3
    subst ee
    have hx : t_expect tt 500 sa sn 3 = some tt1 := by
      unfold t_expect
      rw [g1, bd_s, if_pos t3]
    by_cases rg : 8 ≤ n ∧ n ≤ 300
    · have l8 : ¬ nI n < (8 : Int32) := nI_nlt (b := 8) rg.1 (by omega)
      have l3 : nI n ≤ (300 : Int32) := nI_le (b := 300) rg.2 (by omega)
      obtain ⟨sn', q1, q2, q3, q4, q5, q6, q7, q8⟩ := clear_ok (sn := sn) (by omega) (by omega) (a := n) rg.2 L
      obtain ⟨r2, hr2⟩ : ∃ u, u = ur r 0 n := ⟨_, rfl⟩
      have r2E : ∀ j, j < 1646 → r2 j = rE n j := fun j hj => by
        rw [hr2, ur_at]
        unfold rE
        by_cases z : j = 0
        · rw [if_pos z, if_pos z]
        · rw [if_neg z, if_neg z, hr j hj, rE_n z]
      have rs2 : RS B N sa (fun _ => False) L ρ wl r2 sn' tt1 st1 0 0 nm fi gi so := ⟨h1.1, BS_start r2E q5 q6 q7 q8 bs.2.2.2.1 bs.2.2.2.2.1 bs.2.2.2.2.2, q2.trans hnl, h1.2.2.2.1, h1.2.2.2.2.1, fun _ z => z.elim, f71, f101⟩
      obtain ⟨tt2, stg, s2, e2, e2', a1, a2, a3, ⟨a4, a5⟩, cf2, rf2⟩ := adv_ok (sn := sn') rs2.1 f71 eN1 j1 j3 r2
      have pre : PRE B N sa (fun _ => False) L ρ wl r2 sn' tt1 stg 0 0 nm fi gi so e1 0 := ⟨f71, by omega, rf2.i15.trans (rf.i15.trans h15), tt2, s2, e2, e2', a1, rs2.tok cf2 rf2, a3, a4, a5, Or.inl (by omega)⟩
      have eC : t_readMemory tt 500 sa sn = bd (t_expect tt1 500 sa sn' 59) fun x5 => bd (t_advance x5 500 sa sn') fun x6 => some (x6, sn') := by
        unfold t_readMemory
        rw [hx, bd_s, v6, if_neg l8, if_pos l3, q1, bd_s]
      have eR : m_memoryLine (sR st r) = bd (m_sign (sR stg r2) 59) fun x7 => gb x7.1 (some (x7.1, x7.2)) := by
        unfold m_memoryLine m_within
        rw [g2, bd_s, sR_1, tk2, if_pos rfl, v8, if_neg l8, if_neg (show ¬ (300 : Int32) < nI n from nI_nlt (a := 300) rg.2 (by omega)), bd_s, if_neg n10, nm_eq, sR_2, upd_nR, sR_A1, ← hr2, a2, bd_s]
      rcases sign_ok pre (c := 59) (by unfold isSg; omega) with S | S
      · left
        obtain ⟨tt6, tt7, st7, s7, e7, e7', p7, b1, b2, b3, b4, b5, b6, b7, b8, b9, b10, b11⟩ := S
        refine ⟨tt7, sn', st7, r2, n, s7, e7, e7', p7, ?_, ?_, b4, b5, b6, b7, b9, b10, rg, r2E, (rf.fr.tr rf2.fr).tr b11⟩
        · rw [eC, show t_expect tt1 500 sa sn' 59 = some tt6 from b1, bd_s, b2, bd_s]
        · rw [eR, show m_sign (sR stg r2) 59 = some (1, sR st7 r2) from b3, bd_s, gb_1]
      · right
        obtain ⟨tt6, st6, b1, b2, b3, b4⟩ := S
        refine ⟨sI tt6 4 1, sn', st6, r2, ?_, ?_, b3.tk 1, q2.trans hnl, (rf.fr.tr rf2.fr).tr b4⟩
        · rw [eC, show t_expect tt1 500 sa sn' 59 = some tt6 from b1, bd_s, t_advance_ne b3.ne, bd_s]
        · rw [eR, show m_sign (sR stg r2) 59 = some (0, sR st6 r2) from b2, bd_s]
          rfl
    · right
      have fl : FLT (sI tt1 7 ((-2) - nI (8 * s1 + 3))) (sI st1 10 (nI (8 * s1 + 3))) := FLT.mk (by omega) (by omega)
      have e24 : t_readMemory tt 500 sa sn = t_readMemory_24 tt1 500 sa sn := by
        unfold t_readMemory
        rw [hx, bd_s, v6]
        by_cases z : n < 8
        · rw [if_pos (show nI n < (8 : Int32) from nI_lt (b := 8) z (by omega))]
        · rw [if_neg (show ¬ nI n < (8 : Int32) from nI_nlt (b := 8) (by omega) (by omega)), if_neg (show ¬ nI n ≤ (300 : Int32) from nI_ge (a := 300) (by omega) (by omega))]
      obtain ⟨s2, d1, d2⟩ := n_clear_any (sn := sn) (by omega) ((sI tt1 7 ((-2) - nI (8 * s1 + 3))).1 6)
      refine ⟨sI (sI (sI tt1 7 ((-2) - nI (8 * s1 + 3))) 4 1) 4 1, s2, sI st1 10 (nI (8 * s1 + 3)), r, ?_, ?_, (fl.tk 1).tk 1, d2.trans hnl, rf.fr.tr (RFr.I st1 (by omega) _)⟩
      · rw [e24]
        unfold t_readMemory_24
        rw [j2, i3, t_refuse_ok f71, bd_s, d1, bd_s, t_expect_ne fl.ne (by decide), bd_s, t_advance_ne (f7_tk fl.ne 1), bd_s]
      · unfold m_memoryLine m_within
        rw [g2, bd_s, sR_1, tk2, if_pos rfl, v8]
        by_cases z : n < 8
        · rw [if_pos (show nI n < (8 : Int32) from nI_lt (b := 8) z (by omega)), bd_s, if_pos rfl, i3, m_bad_ok f101 j4, bd_s]
          rfl
        · rw [if_neg (show ¬ nI n < (8 : Int32) from nI_nlt (b := 8) (by omega) (by omega)), if_pos (show (300 : Int32) < nI n from nI_lt (a := 300) (by omega) (by omega)), bd_s, if_pos rfl, i3, m_bad_ok f101 j4, bd_s]
          rfl
  · right
    have n2 := tkr1.nnu t3
    have fl : FLT (sI tt1 7 ((-2) - nI (8 * s1 + 1))) (sI st1 10 (nI (8 * s1 + 1))) := FLT.mk (by omega) (by omega)
    have hx : t_expect tt 500 sa sn 3 = some (sI tt1 7 ((-2) - nI (8 * s1 + 1))) := by
      unfold t_expect
      rw [g1, bd_s, if_neg t3, j2, show t_refuse tt1 500 sa sn (nI s1) 1 = some (sI tt1 7 ((-2) - nI (8 * s1 + 1))) from t_refuse_ok f71, bd_s]
    have eR : m_memoryLine (sR st r) = some (0, sR (sI st1 10 (nI (8 * s1 + 1))) r) := by
      unfold m_memoryLine
      rw [g2, bd_s, sR_1, if_neg n2, show m_bad (sR st1 r) 1 = some (0, sR (sI st1 10 (nI (8 * s1 + 1))) r) from m_bad_ok f101 j4, bd_s]
      rfl
    have eC : ∃ tt' sn', t_readMemory tt 500 sa sn = some (tt', sn') ∧ FLT tt' (sI st1 10 (nI (8 * s1 + 1))) ∧ nl sn' = 1266 := by
      unfold t_readMemory
      rw [hx, bd_s]
      split
      · exact mem24_ne fl hnl
      · split
        · exact memtail_ne fl hnl _
        · exact mem24_ne fl hnl
    obtain ⟨tt', sn', c1, c2, c3⟩ := eC
    exact ⟨tt', sn', _, r, c1, eR, c2, c3, rf.fr.tr (RFr.I st1 (by omega) _)⟩
