/-! the memory line -/
theorem n_clear_any {sn : NSt} (hn : nl sn ≤ 1300) (v : Int32) : ∃ sn', n_clear sn v = some sn' ∧ nl sn' = nl sn := by
  obtain ⟨g1, a1, a2⟩ := fill_ok (ka := 300) (by omega) (-1) (na sn 0)
  obtain ⟨g2, b1, b2⟩ := fill_ok (ka := nl sn) (by omega) (-1) (na sn 1)
  obtain ⟨g3, c1, c2⟩ := fill_ok (ka := 6) (by omega) 0 (na sn 3)
  obtain ⟨ps, d1, d2⟩ := p_clear_ok (np sn)
  unfold n_clear
  simp only [nm_eq]
  rw [a1, bd_s, show j_fill_53 (nl (nsA sn 0 g1)) (na (nsA sn 0 g1) 1) (-1) = some g2 from b1, bd_s, show j_fill_53 6 (na (nsA (nsA sn 0 g1) 1 g2) 3) 0 = some g3 from c1, bd_s, show p_clear (np (nsA (nsA (nsA sn 0 g1) 1 g2) 3 g3)) = some ps from d1, bd_s]
  exact ⟨_, rfl, rfl⟩
theorem mem24_ne {tt st' : OSt} {sa : Nat → Int32} {sn : NSt} (hf : FLT tt st') (hn : nl sn = 1266) : ∃ tt' sn', t_readMemory_24 tt 500 sa sn = some (tt', sn') ∧ FLT tt' st' ∧ nl sn' = 1266 := by
  obtain ⟨s2, d1, d2⟩ := n_clear_any (sn := sn) (by omega) (tt.1 6)
  refine ⟨sI (sI tt 4 1) 4 1, s2, ?_, (hf.tk 1).tk 1, d2.trans hn⟩
  unfold t_readMemory_24
  rw [t_refuse_ne hf.ne, bd_s, d1, bd_s, t_expect_ne hf.ne (by decide), bd_s, t_advance_ne (f7_tk hf.ne 1), bd_s]
