/-! lines of the text: what the class does after a fault -/
theorem readTree_ne {D : Nat} {tt : OSt} {sa : Nat → Int32} {sn : NSt} (h : ¬ tt.1 7 = 0) (h4 : tt.1 4 = 1) (v : Int32) : t_readTree (D + 1) tt 500 sa sn v = some (-1, tt, sn) := by
  rw [t_readTree]
  unfold t_readTreeB
  rw [h4, if_neg (show ¬ (1 : Int32) = 2 by decide), if_neg (show ¬ (1 : Int32) = 35 by decide), if_neg (show ¬ (1 : Int32) = 40 by decide), if_neg (show ¬ (1 : Int32) = 42 by decide), if_neg (show ¬ (1 : Int32) = 60 by decide), if_neg (show ¬ (1 : Int32) = 91 by decide), t_refuse_ne h, bd_s]
theorem read63_ne {tt : OSt} {sa : Nat → Int32} {sn : NSt} (n : Nat) (h : ¬ tt.1 7 = 0) (v : Int32) : t_read_63 (n + 1) tt 500 sa sn v = some (tt, sn) := by
  rw [t_read_63, if_neg h]
  split
  · rfl
  · split <;> rfl
theorem flt3 {tt st' : OSt} {sa : Nat → Int32} {sn : NSt} (n : Nat) (hf : FLT tt st') (hn : nl sn = 1266) (v : Int32) : ∃ tt' sn', (bd (t_advance tt 500 sa sn) fun x22 => t_read_63 (n + 1) x22 500 sa sn v) = some (tt', sn') ∧ FLT tt' st' ∧ nl sn' = 1266 := by
  refine ⟨sI tt 4 1, sn, ?_, hf.tk 1, hn⟩
  rw [t_advance_ne hf.ne, bd_s, read63_ne n (f7_tk hf.ne 1)]
theorem flt2 {tt st' : OSt} {sa : Nat → Int32} {sn : NSt} (n : Nat) (hf : FLT tt st') (hn : nl sn = 1266) (a b v : Int32) : ∃ tt' sn', (bd (n_connect sn a b) fun x20 => bd (t_expect tt 500 sa x20 59) fun x21 => bd (t_advance x21 500 sa x20) fun x22 => t_read_63 (n + 1) x22 500 sa x20 v) = some (tt', sn') ∧ FLT tt' st' ∧ nl sn' = 1266 := by
  obtain ⟨s2, d1, d2⟩ := n_connect_any hn a b
  rw [d1, bd_s, t_expect_ne hf.ne (by decide), bd_s]
  exact flt3 n (hf.tk 1) d2 v
theorem flt1 {tt st' : OSt} {sa : Nat → Int32} {sn : NSt} (n : Nat) (hf : FLT tt st') (hn : nl sn = 1266) (a v : Int32) : ∃ tt' sn', (bd (t_advance tt 500 sa sn) fun x18 => bd (t_readTree 25 x18 500 sa sn 0) fun x19 => bd (n_connect x19.2.2 a x19.1) fun x20 => bd (t_expect x19.2.1 500 sa x20 59) fun x21 => bd (t_advance x21 500 sa x20) fun x22 => t_read_63 (n + 1) x22 500 sa x20 v) = some (tt', sn') ∧ FLT tt' st' ∧ nl sn' = 1266 := by
  rw [t_advance_ne hf.ne, bd_s, readTree_ne (D := 24) (f7_tk hf.ne 1) (f4_tk _ 1), bd_s]
  exact flt2 n (hf.tk 1) hn a (-1) v
theorem flt0 {tt st' : OSt} {sa : Nat → Int32} {sn : NSt} (n : Nat) (hf : FLT tt st') (hn : nl sn = 1266) (a v : Int32) : ∃ tt' sn', (bd (t_expect tt 500 sa sn 126) fun x17 => bd (t_advance x17 500 sa sn) fun x18 => bd (t_readTree 25 x18 500 sa sn 0) fun x19 => bd (n_connect x19.2.2 a x19.1) fun x20 => bd (t_expect x19.2.1 500 sa x20 59) fun x21 => bd (t_advance x21 500 sa x20) fun x22 => t_read_63 (n + 1) x22 500 sa x20 v) = some (tt', sn') ∧ FLT tt' st' ∧ nl sn' = 1266 := by
  rw [t_expect_ne hf.ne (by decide), bd_s]
  exact flt1 n (hf.tk 1) hn a v
/-- a sign that must stand: both go on behind it, or both tell the fault -/
theorem sign_ok {B : Nat → Nat} {N : Nat} {sa : Nat → Int32} {E : Nat → Prop} {L ρ wl r : Nat → Nat} {sn : NSt} {tt stg : OSt} {nc wc : Nat} {nm : Nat → List Nat} {fi gi so : Nat → Nat} {p0 d c : Nat} (h : PRE B N sa E L ρ wl r sn tt stg nc wc nm fi gi so p0 d) (hc : isSg c) :
    (∃ (tt1 tt2 st2 : OSt) (s e e' p1 : Nat), t_expect tt 500 sa sn (nI c) = some tt1 ∧ t_advance tt1 500 sa sn = some tt2 ∧ m_sign (sR stg r) (nI c) = some (1, sR st2 r) ∧ RS B N sa E L ρ wl r sn tt2 st2 nc wc nm fi gi so ∧ TOK B N tt2 st2 s e e' ∧ st2.1 15 = nI d ∧ WI B N wc p1 ∧ p0 < p1 ∧ p1 ≤ s ∧ s ≤ N ∧ RFr stg st2) ∨
    (∃ (tt1 st' : OSt), t_expect tt 500 sa sn (nI c) = some tt1 ∧ m_sign (sR stg r) (nI c) = some (0, sR st' r) ∧ FLT tt1 st' ∧ RFr stg st') := by
  obtain ⟨h7, hw, h15, tt1, s, e, e', ad, rs, tk, hp0, hs, hwi⟩ := h
  have hN := rs.1.1
  have f7 := rs.2.2.2.2.2.2.1
  have f10 := rs.2.2.2.2.2.2.2
  obtain ⟨k1, k2, k3, k4, tkr⟩ := tk
  by_cases t : tt1.1 4 = nI c
  · left
    obtain ⟨y1, y2, ee, es, eN⟩ := tkr.sg hc t
    subst ee
    obtain ⟨tt2, st2, s2, e2, e2', g1, g2, g3, ⟨g4, g5⟩, cf, rf⟩ := adv_ok (sn := sn) rs.1 f7 eN k1 k3 r
    refine ⟨tt1, tt2, st2, s2, e2, e2', e, ?_, g1, ?_, rs.tok cf rf, g3, rf.i15.trans h15, hwi.mono (by omega), by omega, g4, g5, rf.fr⟩
    · unfold t_expect
      rw [ad, bd_s, if_pos t]
    · unfold m_sign
      rw [m_is_ok, if_pos ⟨y1, y2⟩, bd_s, if_neg (show ¬ (1 : Int32) = 0 by decide), g2, bd_s]
  · right
    refine ⟨sI tt1 7 ((-2) - nI (8 * s + 1)), sI stg 10 (nI (8 * s + 1)), ?_, ?_, FLT.mk (by omega) (by omega), RFr.I _ (by omega) _⟩
    · unfold t_expect
      rw [ad, bd_s, if_neg t, k2, show t_refuse tt1 500 sa sn (nI s) 1 = some (sI tt1 7 ((-2) - nI (8 * s + 1))) from t_refuse_ok f7, bd_s]
    · unfold m_sign
      rw [m_is_ok, if_neg (tkr.nsg t), bd_s, if_pos rfl, show m_bad (sR stg r) 1 = some (0, sR (sI stg 10 (nI (8 * s + 1))) r) from m_bad_ok f10 k4, bd_s]
      rfl
