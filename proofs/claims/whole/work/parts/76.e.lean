/-! a subtree read and tied by both -/
theorem CF.rf (tt : OSt) : CF tt tt := ⟨_, _, _, _, (tS_id tt).symm⟩
theorem RF.rf (st : OSt) : RF st st := ⟨_, _, _, _, _, (mS_id st).symm⟩
theorem RF.i16 {a b : OSt} (h : RF a b) : b.1 16 = a.1 16 := by
  obtain ⟨x1, x2, x3, x4, x5, rfl⟩ := h
  rfl
theorem sR_inj1 {a b : OSt} {r : Nat → Nat} (h : sR a r = sR b r) : a.1 = b.1 := by
  have := congrArg Prod.fst h
  rw [sR_1, sR_1] at this
  exact this
def TREE (B : Nat → Nat) (N : Nat) (sa : Nat → Int32) (D d : Nat) : Prop := ∀ (E : Nat → Prop) (L ρ wl r : Nat → Nat) (sn : NSt) (tt st : OSt) (nc wc : Nat) (nm : Nat → List Nat) (fi gi so : Nat → Nat) (s e e' p0 : Nat), RS B N sa E L ρ wl r sn tt st nc wc nm fi gi so → TOK B N tt st s e e' → st.1 15 = nI d → WI B N wc p0 → p0 ≤ s → s ≤ N → (TOk B N sa E r ρ wc st (t_readTree D tt 500 sa sn (nI d)) (m_tree D (sR st r)) ∨ TFl st (t_readTree D tt 500 sa sn (nI d)) (m_tree D (sR st r)))
/-- the class before its next token, the reference behind it -/
def PRE (B : Nat → Nat) (N : Nat) (sa : Nat → Int32) (E : Nat → Prop) (L ρ wl r : Nat → Nat) (sn : NSt) (tt stg : OSt) (nc wc : Nat) (nm : Nat → List Nat) (fi gi so : Nat → Nat) (p0 d : Nat) : Prop :=
  tt.1 7 = 0 ∧ wc ≤ 250 ∧ stg.1 15 = nI d ∧ ∃ (tt1 : OSt) (s e e' : Nat), t_advance tt 500 sa sn = some tt1 ∧ RS B N sa E L ρ wl r sn tt1 stg nc wc nm fi gi so ∧ TOK B N tt1 stg s e e' ∧ p0 ≤ s ∧ s ≤ N ∧ WI B N wc p0
theorem sub_step {B : Nat → Nat} {N : Nat} {sa : Nat → Int32} {D d : Nat} (ih : TREE B N sa D (d + 1)) {E : Nat → Prop} {L ρ wl r : Nat → Nat} {sn : NSt} {tt stg : OSt} {nc wc : Nat} {nm : Nat → List Nat} {fi gi so : Nat → Nat} {p0 a : Nat} (h : PRE B N sa E L ρ wl r sn tt stg nc wc nm fi gi so p0 (d + 1)) (ha : uA E r wc a) (ha9 : a < 900) {α : Type} (K : OSt → NSt → Option α) (K' : OSt → Option (Int32 × OSt)) :
    (∃ (tt' : OSt) (sn' : NSt) (stg' : OSt) (E' : Nat → Prop) (L' ρ' wl' r' : Nat → Nat) (nc' wc' : Nat) (nm' : Nat → List Nat) (fi' gi' so' : Nat → Nat) (p1 : Nat), (bd (t_advance tt 500 sa sn) fun x24 => bd (t_readTree D x24 500 sa sn (nI (d + 1))) fun x25 => bd (n_connect x25.2.2 (nI a) x25.1) fun x26 => K x25.2.1 x26) = K tt' sn' ∧ (bd (m_tree D (sR stg r)) fun x13 => if x13.1 = 0 then some (0, x13.2) else bd (m_ties x13.2 (x13.2.1 16) (nI a)) fun x15 => K' x15) = K' (sR stg' r') ∧ PRE B N sa E' L' ρ' wl' r' sn' tt' stg' nc' wc' nm' fi' gi' so' p1 (d + 1) ∧ (∀ p, uA E' r' wc' p ↔ (uA E r wc p ∧ p ≠ a)) ∧ (∀ p, E p → E' p) ∧ (wc ≤ wc' ∧ ∀ p, p < 1016 + wc → ρ' p = ρ p) ∧ (∀ j, j = 0 ∨ (6 ≤ j ∧ j < 30) → r' j = r j) ∧ RFr stg stg' ∧ p0 < p1) ∨
    (∃ (tt' : OSt) (sn' : NSt) (st' : OSt) (r' : Nat → Nat), (bd (t_advance tt 500 sa sn) fun x24 => bd (t_readTree D x24 500 sa sn (nI (d + 1))) fun x25 => bd (n_connect x25.2.2 (nI a) x25.1) fun x26 => K x25.2.1 x26) = K tt' sn' ∧ (bd (m_tree D (sR stg r)) fun x13 => if x13.1 = 0 then some (0, x13.2) else bd (m_ties x13.2 (x13.2.1 16) (nI a)) fun x15 => K' x15) = some (0, sR st' r') ∧ FLT tt' st' ∧ nl sn' = 1266 ∧ RFr stg st') := by
  obtain ⟨h7, hw, h15, tt1, s, e, e', ad, rs, tk, hp0, hs, hwi⟩ := h
  rw [ad, bd_s]
  rcases ih E L ρ wl r sn tt1 stg nc wc nm fi gi so s e e' p0 rs tk h15 hwi hp0 hs with t | t
  · left
    obtain ⟨x, e, nc', wc', tt', st0, st', sn', E', L', ρ', wl', r', nm', fi', gi', so', ⟨c1, c2, c3⟩, hRS, ⟨e1, e2, e3⟩, ⟨h16, h15'⟩, hwi', hu, hx, hE, ⟨w1, w2, w3⟩, hj, hf, hlt⟩ := t
    have f7 := hRS.2.2.2.2.2.2.1
    obtain ⟨ttq, stg1, sq, eq, eq', g1, g2, _, _, _, rf⟩ := adv_ok (sn := sn') hRS.1 f7 e3 e1 e2 r'
    have es : sR st' r' = sR stg1 r' := Option.some.inj (c3.symm.trans g2)
    have hRS1 := hRS.tok (CF.rf tt') rf
    have ua : uA E' r' wc' a := (hu a).mpr (Or.inl ha)
    have ux : uA E' r' wc' x := (hu x).mpr (Or.inr rfl)
    have ne : a ≠ x := fun z => hx (z ▸ ha)
    obtain ⟨sn2, st3, wl3, r3, t1, t2, t3, t4, t5, t6, t7⟩ := tie_step hRS1 w2 (u := x) (v := a) ua ux ne (Or.inr ⟨rfl, rfl⟩)
    rw [hRS.2.1.2.2.2.1 a (by omega)] at t2
    obtain ⟨tt2, stg2, s2, e2', e2'', j1, j2, j3, ⟨j4, j5⟩, cf2, rf2⟩ := adv_ok (sn := sn2) hRS.1 f7 e3 e1 e2 r'
    have s21 : st3.1 = stg2.1 := t4.trans (sR_inj1 (Option.some.inj (g2.symm.trans j2)))
    have tk3 : TOK B N tt2 st3 s2 e2' e2'' := by
      unfold TOK
      rw [s21]
      exact j3
    refine ⟨tt', sn2, st3, E2 E' a x, lk2 L' a x, ρ', wl3, r3, nc', wc', nm', fi', gi', so', e, ?_, ?_, ⟨f7, w2, ?_, tt2, s2, e2', e2'', j1, t3.tok cf2 (RF.rf st3), tk3, j4, j5, hwi'⟩, fun p => ?_, fun p hp => Or.inl (hE p hp), ⟨w1, w3⟩, fun j hj' => (t7 j (by omega)).trans (hj j hj'), (hf.tr rf.fr).tr t5, by have := hlt s hs tk.2.2.2.1; omega⟩
    · rw [c1, bd_s, t1, bd_s]
    · rw [c2, bd_s, if_neg (show ¬ (1 : Int32) = 0 by decide)]
      simp only
      rw [es, sR_1, rf.i16, h16, t2, bd_s]
    · rw [t4, rf.i15, h15', h15]
    · rw [t6 p, hu p]
      constructor
      · rintro ⟨z1 | z1, z2, z3⟩
        · exact ⟨z1, z2⟩
        · exact absurd z1 z3
      · rintro ⟨z1, z2⟩
        exact ⟨Or.inl z1, z2, fun z => hx (z ▸ z1)⟩
  · right
    obtain ⟨x', tt', st', sn', r', c1, c2, c3, c4, c5⟩ := t
    obtain ⟨sn2, d1, d2⟩ := n_connect_any c4 (nI a) x'
    refine ⟨tt', sn2, st', r', ?_, ?_, c3, d2, c5⟩
    · rw [c1, bd_s, d1, bd_s]
    · rw [c2, bd_s, if_pos rfl]
