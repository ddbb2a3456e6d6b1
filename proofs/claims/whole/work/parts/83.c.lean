/-! lines of the text read by both -/
theorem pre_of {B : Nat → Nat} {N : Nat} {sa : Nat → Int32} {E : Nat → Prop} {L ρ wl r : Nat → Nat} {sn : NSt} {tt st0 st' : OSt} {nc wc : Nat} {nm : Nat → List Nat} {fi gi so : Nat → Nat} {e d : Nat} (h : RS B N sa E L ρ wl r sn tt st0 nc wc nm fi gi so) (he : tt.1 3 = nI e ∧ st0.1 6 = nI e ∧ e ≤ N) (hg : m_go (sR st0 r) = some (sR st' r)) (h15 : st0.1 15 = nI d) (hw : wc ≤ 250) (hwi : WI B N wc e) : ∃ stg, sR st' r = sR stg r ∧ PRE B N sa E L ρ wl r sn tt stg nc wc nm fi gi so e d ∧ stg.1 16 = st0.1 16 ∧ RFr st0 stg := by
  have f7 := h.2.2.2.2.2.2.1
  obtain ⟨tt1, stg, s, e1, e1', g1, g2, g3, ⟨g4, g5⟩, cf, rf⟩ := adv_ok (sn := sn) h.1 f7 he.2.2 he.1 he.2.1 r
  exact ⟨stg, Option.some.inj (hg.symm.trans g2), ⟨f7, hw, rf.i15.trans h15, tt1, s, e1, e1', g1, h.tok cf rf, g3, g4, g5, hwi⟩, rf.i16, rf.fr⟩
/-- the second tree of a line, tied to the first one -/
theorem tied {B : Nat → Nat} {N : Nat} {sa : Nat → Int32} {E : Nat → Prop} {L ρ wl r : Nat → Nat} {sn : NSt} {tt st0 st' : OSt} {nc wc : Nat} {nm : Nat → List Nat} {fi gi so : Nat → Nat} {e d : Nat} (h : RS B N sa E L ρ wl r sn tt st0 nc wc nm fi gi so) (he : tt.1 3 = nI e ∧ st0.1 6 = nI e ∧ e ≤ N) (hg : m_go (sR st0 r) = some (sR st' r)) (h15 : st0.1 15 = nI d) (hw : wc ≤ 250) (hwi : WI B N wc e) {a b : Nat} (ua : uA E r wc a) (ub : uA E r wc b) (hab : a ≠ b) :
    ∃ (sn' : NSt) (stg : OSt) (wl' r' : Nat → Nat), n_connect sn (nI a) (nI b) = some sn' ∧ m_ties (sR st' r) (nI (ρ a)) (nI (ρ b)) = some (sR stg r') ∧ PRE B N sa (E2 E a b) (lk2 L a b) ρ wl' r' sn' tt stg nc wc nm fi gi so e d ∧ (∀ p, uA (E2 E a b) r' wc p ↔ (uA E r wc p ∧ p ≠ a ∧ p ≠ b)) ∧ (∀ j, j < 630 → r' j = r j) ∧ RFr st0 stg := by
  have f7 := h.2.2.2.2.2.2.1
  obtain ⟨ttq, stg1, sq, eq, eq', g1, g2, _, _, _, rf⟩ := adv_ok (sn := sn) h.1 f7 he.2.2 he.1 he.2.1 r
  obtain ⟨sn2, st3, wl3, r3, t1, t2, t3, t4, t5, t6, t7⟩ := tie_step (h.tok (CF.rf tt) rf) hw (u := a) (v := b) ua ub hab (Or.inl ⟨rfl, rfl⟩)
  obtain ⟨tt2, stg2, s2, e2', e2'', j1, j2, j3, ⟨j4, j5⟩, cf2, rf2⟩ := adv_ok (sn := sn2) h.1 f7 he.2.2 he.1 he.2.1 r
  have s21 : st3.1 = stg2.1 := t4.trans (sR_inj1 (Option.some.inj (g2.symm.trans j2)))
  have tk3 : TOK B N tt2 st3 s2 e2' e2'' := by
    unfold TOK
    rw [s21]
    exact j3
  refine ⟨sn2, st3, wl3, r3, t1, ?_, ⟨f7, hw, ?_, tt2, s2, e2', e2'', j1, t3.tok cf2 (RF.rf st3), tk3, j4, j5, hwi⟩, t6, t7, rf.fr.tr t5⟩
  · rw [Option.some.inj (hg.symm.trans g2)]
    exact t2
  · rw [t4, rf.i15, h15]
theorem lines_ok {B : Nat → Nat} {N : Nat} {sa : Nat → Int32} : ∀ (n v : Nat) (E : Nat → Prop) (L ρ wl r : Nat → Nat) (sn : NSt) (tt st : OSt) (nc wc : Nat) (nm : Nat → List Nat) (fi gi so : Nat → Nat) (s e e' p0 : Nat), RS B N sa E L ρ wl r sn tt st nc wc nm fi gi so → TOK B N tt st s e e' → st.1 15 = nI 0 → WI B N wc p0 → p0 ≤ s → s ≤ N → (∀ p, ¬ uA E r wc p) → 2 * v ≤ p0 → N - p0 + 2 ≤ n →
    (∃ (tt' st' : OSt) (sn' : NSt) (E' : Nat → Prop) (L' ρ' wl' r' : Nat → Nat) (nc' wc' : Nat) (nm' : Nat → List Nat) (fi' gi' so' : Nat → Nat), t_read_63 n tt 500 sa sn (nI v) = some (tt', sn') ∧ m_net_103 n (sR st r) 1 = some (sR st' r', 1) ∧ RS B N sa E' L' ρ' wl' r' sn' tt' st' nc' wc' nm' fi' gi' so' ∧ (∀ p, ¬ uA E' r' wc' p) ∧ wc' ≤ 250 ∧ (∀ j, j = 0 ∨ (6 ≤ j ∧ j < 30) → r' j = r j) ∧ RFr st st' ∧ st'.1 5 = nI N) ∨
    (∃ (tt' st' : OSt) (sn' : NSt) (r' : Nat → Nat), t_read_63 n tt 500 sa sn (nI v) = some (tt', sn') ∧ m_net_103 n (sR st r) 1 = some (sR st' r', 0) ∧ FLT tt' st' ∧ nl sn' = 1266 ∧ RFr st st') := by
  intro n
  induction n with
  | zero => intro v _ _ _ _ _ _ _ _ _ _ _ _ _ _ _ _ _ _ _ _ _ _ _ _ _ _ h; omega
  | succ n ihn =>
    intro v E L ρ wl r sn tt st nc wc nm fi gi so s e e' p0 h tk h15 hwi hp0 hs hu hv hn
    obtain ⟨m, rfl⟩ : ∃ m, n = m + 1 := ⟨n - 1, by omega⟩
    have hN := h.1.1
    have f7 := h.2.2.2.2.2.2.1
    have n10 : ¬ (1 : Int32) = 0 := by decide
    have v5 : ¬ (500 : Int32) ≤ nI v := nI_ge (b := 500) (by omega) (by omega)
    have t70 : (tt.1 4 = 0) ↔ (st.1 7 = 0) := by
      rcases tk.2.2.2.2 with ⟨z1, z2, _⟩ | ⟨z1, z2, _⟩ | ⟨z1, z2, _⟩ | ⟨z1, z2, _⟩ | ⟨c, hc, z1, z2, _⟩ | ⟨z1, z2⟩
      · rw [z1, z2]
      · rw [z1, z2]; decide
      · rw [z1, z2]; decide
      · rw [z1, z2]; decide
      · rw [z1, z2]
        constructor
        · intro z
          have c2 : c < 200 ∧ 5 ≤ c := by unfold isSg at hc; omega
          have := (nI_eq (a := c) (b := 0) (by omega) (by omega)).mp z
          omega
        · intro z; exact absurd z (by decide)
      · rw [z1, z2]; decide
    by_cases a0 : tt.1 4 = 0
    · left
      refine ⟨tt, st, sn, E, L, ρ, wl, r, nc, wc, nm, fi, gi, so, ?_, ?_, h, hu, wc_le hwi hN (by omega), fun _ _ => rfl, RFr.rf st, ?_⟩
      · rw [t_read_63, if_neg v5, if_pos a0]
      · rw [m_net_103, if_neg n10, sR_1, if_pos (t70.mp a0)]
      · have sN : s = N := by
          rcases tk.2.2.2.2 with ⟨_, _, z, _⟩ | ⟨z1, _⟩ | ⟨z1, _⟩ | ⟨z1, _⟩ | ⟨c, hc, z1, _⟩ | ⟨z1, _⟩
          · exact z
          · rw [a0] at z1; exact absurd z1 (by decide)
          · rw [a0] at z1; exact absurd z1 (by decide)
          · rw [a0] at z1; exact absurd z1 (by decide)
          · rw [a0] at z1
            have c2 : c < 200 ∧ 5 ≤ c := by unfold isSg at hc; omega
            have := (nI_eq (a := 0) (b := c) (by omega) (by omega)).mp z1
            omega
          · rw [a0] at z1; exact absurd z1 (by decide)
        rw [tk.2.2.2.1, sN]
    have eC := (show t_read_63 (m + 1 + 1) tt 500 sa sn (nI v) = _ by rw [t_read_63, if_neg v5, if_neg a0, if_pos f7])
    have eR := (show m_net_103 (m + 1 + 1) (sR st r) 1 = _ by rw [m_net_103, if_neg n10, sR_1, if_neg (fun z => a0 (t70.mpr z))])
    have fz : ∀ st' r', m_line (sR st r) = some (0, sR st' r') → m_net_103 (m + 1 + 1) (sR st r) 1 = some (sR st' r', 0) := fun st' r' z => by
      rw [eR, z, bd_s]
      simp only
      rw [m_net_103, if_pos rfl]
    have vv : nI v + 1 = nI (v + 1) := nI_add v 1
    rw [vv] at eC
    rcases tree_ok (B := B) (N := N) (sa := sa) 25 0 (by omega) (by omega) E L ρ wl r sn tt st nc wc nm fi gi so s e e' p0 h tk h15 hwi hp0 hs with T | T
    · obtain ⟨x, e1, nc1, wc1, tt1, st1, st1', sn1, E1, L1, ρ1, wl1, r1, nm1, fi1, gi1, so1, ⟨c1, c2, c3⟩, hR1, he1, ⟨h16, h151⟩, hwi1, hu1, hx, hE1, ⟨w1, w2, w3⟩, hj1, hf1, hl1⟩ := T
      have c1' : t_readTree 25 tt 500 sa sn 0 = some (nI x, tt1, sn1) := c1
      obtain ⟨stg, es, pre, q16, fg⟩ := pre_of hR1 he1 c3 (h151.trans h15) w2 hwi1
      have se1 : s < e1 := hl1 s hs tk.2.2.2.1
      rw [c1', bd_s] at eC
      simp only at eC
      have eL : m_line (sR st r) = bd (m_sign (sR stg r1) 126) fun x3 => if x3.1 = 0 then some (0, x3.2) else bd (m_tree 25 x3.2) fun x5 => if x5.1 = 0 then some (0, x5.2) else bd (m_ties x5.2 (nI (ρ1 x)) (x5.2.1 16)) fun x7 => bd (m_sign x7 59) fun x8 => gb x8.1 (some (x8.1, x8.2)) := by
        unfold m_line
        rw [c2, bd_s, if_neg n10]
        simp only
        rw [es, sR_1, q16, h16]
      rcases sign_ok pre (c := 126) (by unfold isSg; omega) with S | S
      · obtain ⟨tt2, tt3, st2, s2, e2, e2', p2, d1, d2, d3, d4, d5, d6, d7, d8, d9, d10, d11⟩ := S
        rw [show t_expect tt1 500 sa sn1 126 = some tt2 from d1, bd_s, d2, bd_s] at eC
        rw [show m_sign (sR stg r1) 126 = some (1, sR st2 r1) from d3, bd_s, if_neg n10] at eL
        simp only at eL
        rcases tree_ok (B := B) (N := N) (sa := sa) 25 0 (by omega) (by omega) E1 L1 ρ1 wl1 r1 sn1 tt3 st2 nc1 wc1 nm1 fi1 gi1 so1 s2 e2 e2' p2 d4 d5 d6 d7 d9 d10 with T | T
        · obtain ⟨y, e3, nc3, wc3, tt4, st4, st4', sn4, E4, L4, ρ4, wl4, r4, nm4, fi4, gi4, so4, ⟨o1, o2, o3⟩, hR4, he4, ⟨o16, o15⟩, hwi4, hu4, hy, hE4, ⟨w4, w5, w6⟩, hj4, hf4, hl4⟩ := T
          have o1' : t_readTree 25 tt3 500 sa sn1 0 = some (nI y, tt4, sn4) := o1
          have se4 : s2 < e3 := hl4 s2 d10 d5.2.2.2.1
          have ux1 : uA E1 r1 wc1 x := (hu1 x).mpr (Or.inr rfl)
          have xlt : x < 1016 + wc1 := by
            rcases ux1 with z | z
            · have := z.1; omega
            · exact z.2.1
          obtain ⟨sn5, st5, wl5, r5, i1', i2', pre5, i4', i5', i6'⟩ := tied hR4 he4 o3 (o15.trans d6) w5 hwi4 (a := x) (b := y) ((hu4 x).mpr (Or.inl ux1)) ((hu4 y).mpr (Or.inr rfl)) (fun z => hy (z ▸ ux1))
          rw [o1', bd_s] at eC
          simp only at eC
          rw [i1', bd_s] at eC
          have q164 : (sR st4' r4).1 16 = nI (ρ4 y) := by
            obtain ⟨stq, es4, _, q4, _⟩ := pre_of hR4 he4 o3 (o15.trans d6) w5 hwi4
            rw [es4, sR_1, q4, o16]
          rw [o2, bd_s, if_neg n10] at eL
          simp only at eL
          rw [q164, ← w6 x xlt, i2', bd_s] at eL
          have frA : RFr st st5 := ((hf1.tr fg).tr d11).tr (hf4.tr i6')
          rcases sign_ok pre5 (c := 59) (by unfold isSg; omega) with S | S
          · obtain ⟨tt6, tt7, st7, s7, e7, e7', p7, a1, a2, a3, a4, a5, a6, a7, a8, a9, a10, a11⟩ := S
            rw [show t_expect tt4 500 sa sn5 59 = some tt6 from a1, bd_s, a2, bd_s] at eC
            rw [show m_sign (sR st5 r5) 59 = some (1, sR st7 r5) from a3, bd_s, gb_1] at eL
            have nu : ∀ p, ¬ uA (E2 E4 x y) r5 wc3 p := fun p z => by
              obtain ⟨z1, z2, z3⟩ := (i4' p).mp z
              rcases (hu4 p).mp z1 with z4 | z4
              · rcases (hu1 p).mp z4 with z5 | z5
                · exact hu p z5
                · exact z2 z5
              · exact z3 z4
            have eR' : m_net_103 (m + 1 + 1) (sR st r) 1 = m_net_103 (m + 1) (sR st7 r5) 1 := by rw [eR, eL, bd_s]
            rcases ihn (v + 1) _ _ _ _ _ _ _ _ _ _ _ _ _ _ s7 e7 e7' p7 a4 a5 a6 a7 a9 a10 nu (by omega) (by omega) with F | F
            · left
              obtain ⟨tt', st', sn', E', L', ρ', wl', r', nc', wc', nm', fi', gi', so', b1, b2, b3, b4, b5, b6, b7, b8⟩ := F
              exact ⟨tt', st', sn', E', L', ρ', wl', r', nc', wc', nm', fi', gi', so', eC.trans b1, eR'.trans b2, b3, b4, b5, fun j hj => (b6 j hj).trans ((i5' j (by omega)).trans ((hj4 j hj).trans (hj1 j hj))), frA.tr (a11.tr b7), b8⟩
            · right
              obtain ⟨tt', st', sn', r', b1, b2, b3, b4, b5⟩ := F
              exact ⟨tt', st', sn', r', eC.trans b1, eR'.trans b2, b3, b4, frA.tr (a11.tr b5)⟩
          · right
            obtain ⟨tt6, st6, a1, a2, a3, a4⟩ := S
            have nl5 : nl sn5 = 1266 := by
              obtain ⟨_, _, _, _, _, _, _, _, rs5, _⟩ := pre5
              exact rs5.2.2.1
            rw [show t_expect tt4 500 sa sn5 59 = some tt6 from a1, bd_s] at eC
            obtain ⟨tt', sn', b1, b2, b3⟩ := flt3 (sa := sa) m a3 nl5 (nI (v + 1))
            refine ⟨tt', st6, sn', r5, eC.trans b1, fz _ _ ?_, b2, b3, frA.tr a4⟩
            rw [eL, show m_sign (sR st5 r5) 59 = some (0, sR st6 r5) from a2, bd_s]
            rfl
        · right
          obtain ⟨x', tt', st', sn', r', o1, o2, o3, o4, o5⟩ := T
          rw [show t_readTree 25 tt3 500 sa sn1 0 = some (x', tt', sn') from o1, bd_s] at eC
          obtain ⟨tt'', sn'', b1, b2, b3⟩ := flt2 (sa := sa) m o3 o4 (nI x) x' (nI (v + 1))
          refine ⟨tt'', st', sn'', r', eC.trans b1, fz _ _ ?_, b2, b3, ((hf1.tr fg).tr d11).tr o5⟩
          rw [eL, o2, bd_s, if_pos rfl]
      · right
        obtain ⟨tt2, st2, d1, d2, d3, d4⟩ := S
        rw [show t_expect tt1 500 sa sn1 126 = some tt2 from d1, bd_s] at eC
        obtain ⟨tt', sn', b1, b2, b3⟩ := flt1 (sa := sa) m d3 hR1.2.2.1 (nI x) (nI (v + 1))
        refine ⟨tt', st2, sn', r1, eC.trans b1, fz _ _ ?_, b2, b3, (hf1.tr fg).tr d4⟩
        rw [eL, show m_sign (sR stg r1) 126 = some (0, sR st2 r1) from d2, bd_s, if_pos rfl]
    · right
      obtain ⟨x', tt', st', sn', r', o1, o2, o3, o4, o5⟩ := T
      rw [show t_readTree 25 tt 500 sa sn 0 = some (x', tt', sn') from o1, bd_s] at eC
      obtain ⟨tt'', sn'', b1, b2, b3⟩ := flt0 (sa := sa) m o3 o4 x' (nI (v + 1))
      refine ⟨tt'', st', sn'', r', eC.trans b1, fz _ _ ?_, b2, b3, o5⟩
      unfold m_line
      rw [o2, bd_s, if_pos rfl]
