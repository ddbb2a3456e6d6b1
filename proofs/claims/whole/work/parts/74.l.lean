/-! leaves of the text: a list -/
theorem zS_le {d : Nat → Nat} : ∀ (c : Nat), (∀ i, i < c → d i ≤ 9) → zS d c ≤ 20 * c
  | 0, _ => Nat.le_refl _
  | c + 1, h => by
    have := zS_le c (fun i hi => h i (by omega))
    have := h c (by omega)
    show zS d c + (2 * d c + 2) ≤ _
    omega
theorem zS_cong {d d' : Nat → Nat} : ∀ (c : Nat), (∀ i, i < c → d i = d' i) → zS d c = zS d' c
  | 0, _ => rfl
  | c + 1, h => by
    have := zS_cong c (fun i hi => h i (by omega))
    have := h c (by omega)
    show zS d c + (2 * d c + 2) = zS d' c + (2 * d' c + 2)
    omega
theorem list123_ne {tt : OSt} {sa : Nat → Int32} {sn : NSt} (h : ¬ tt.1 7 = 0) (v1 v2 v3 : Int32) : t_readList_123 tt 500 sa sn v1 v2 v3 = some (-1, tt, sn) := by
  unfold t_readList_123
  rcases n_hasRoom_any sn v3 with q | q
  · rw [q, bd_s, if_pos rfl, t_refuse_ne h, bd_s, if_neg h]
  · rw [q, bd_s, if_neg (show ¬ (1 : Int32) = 0 by decide), if_neg h]
theorem list105_ne {tt : OSt} {sa : Nat → Int32} {sn : NSt} (h : ¬ tt.1 7 = 0) (v1 v2 v3 : Int32) : t_readList_105 tt 500 sa sn v1 v2 v3 = some (-1, tt, sn) := by
  unfold t_readList_105
  split
  · exact list123_ne h _ _ _
  · rw [t_refuse_ne h, bd_s, list123_ne h]
theorem f7_tk {tt : OSt} (h : ¬ tt.1 7 = 0) (v : Int32) : ¬ (sI tt 4 v).1 7 = 0 := h
theorem f4_tk (tt : OSt) (v : Int32) : (sI tt 4 v).1 4 = v := rfl
theorem list16_ne {tt : OSt} {sa : Nat → Int32} {sn : NSt} (n : Nat) (h4 : tt.1 4 = 1) (v1 v2 v3 v4 : Int32) : t_readList_16 (n + 1) tt 500 sa sn v1 v2 v3 v4 = some (tt, v2, v3) := by
  show (if 10 < v4 then some (tt, v2, v3) else if (tt.1 4) = 3 then _ else some (tt, v2, v3)) = _
  rw [h4, if_neg (show ¬ (1 : Int32) = 3 by decide)]
  split <;> rfl
theorem listend {B : Nat → Nat} {N : Nat} {sa : Nat → Int32} {E : Nat → Prop} {L ρ wl r : Nat → Nat} {sn : NSt} {st : OSt} {nc wc : Nat} {nm : Nat → List Nat} {fi gi so : Nat → Nat} {s p0 : Nat} (hs : s ≤ N) (hb5 : st.1 5 = nI s) (hsp : s < p0) (hwi : WI B N wc p0) {c : Nat} {tt1 st1 : OSt} {d : Nat → Nat} {s1 e1 e1' : Nat} (fuel : Nat) (hc10 : c ≤ 10) (h : RS B N sa E L ρ wl r sn tt1 st1 nc wc nm fi gi so) (tk : TOK B N tt1 st1 s1 e1 e1') (hp0 : p0 ≤ s1) (hs1 : s1 ≤ N) (hd : ∀ i, i < c → d i ≤ 9 ∧ tt1.2 13 i = nI (d i) ∧ st1.2 17 i = nI (d i)) (hf : RFr st st1) (h15 : st1.1 15 = st.1 15) (t3 : ¬ tt1.1 4 = 3) {cls : Option (Int32 × OSt × NSt)} {ref : Option (Int32 × OSt)} (hc : cls = bd (t_readList_105 tt1 500 sa sn (nI s) (nI c) (nI (zS d c + 1))) fun x6 => some (x6.1, x6.2.1, x6.2.2)) (hr : ref = bd (m_list_13 (fuel + 1) (sR st1 r) (nI s) (nI c) (nI (zS d c + 1))) fun x19 => gb x19.1 (some (x19.1, x19.2))) :
    TOk B N sa E r ρ wc st cls ref ∨ TFl st cls ref := by
  have h0 := h
  obtain ⟨tp, bs, hnl, hwl, nms, hEw, f7, f10⟩ := h
  obtain ⟨k1, k2, k3, k4, tkr⟩ := tk
  have hN := tp.1
  have w := bs.1.1
  have hroom : r 0 ≤ 300 ∧ r 1 ≤ 300 := by obtain ⟨⟨z0, z1, z2⟩, _⟩ := w; omega
  have hz := zS_le c (fun i hi => (hd i hi).1)
  unfold m_list_13 at hr
  rw [sR_1] at hr
  have n2 := tkr.nnu t3
  rw [if_neg n2, m_is_ok, bd_s] at hr
  unfold t_readList_105 at hc
  by_cases t62 : tt1.1 4 = nI 62
  · obtain ⟨y1, y2, ee, es, eN⟩ := tkr.sg (c := 62) (by unfold isSg; omega) t62
    subst ee
    rw [if_pos (show tt1.1 4 = 62 from t62)] at hc
    rw [if_pos (show st1.1 7 = 3 ∧ st1.1 8 = 62 from ⟨y1, y2⟩), if_neg (show ¬ (1 : Int32) = 0 by decide)] at hr
    have hm := n_hasRoom_ok bs.1.2.1 (a := zS d c + 1) (by omega) hroom.1 hroom.2
    have hm2 := m_hasRoom_ok (st := st1) (a := zS d c + 1) (by omega) hroom.1 hroom.2
    unfold t_readList_123 at hc
    by_cases q : r 1 + (zS d c + 1) ≤ r 0
    · left
      rw [if_pos q] at hm hm2
      obtain ⟨x, e, oI, tI, sn', E', L', r1, r2, r', b1, b2, b3, b4, b5, b6, b7, b8, b9, b10, b11⟩ := makeList_ok (c := c) hc10 (d := d) (fun i hi => (hd i hi).1) (sa := tt1.2 13) (fun i hi => (hd i hi).2.1) (st := st1) (fun i hi => (hd i hi).2.2) bs (by omega) q
      refine leaf_TOk (x := x) (st1 := st1) (tt := tt1) h0 ⟨k1, k3, eN⟩ hf h15 (hwi.mono (by omega)) (wc_le (hwi.mono (q := e1) (by omega)) hN eN) b6 b5 b7 b9 b10 (fun z => ?_) b11.1 (st_lt hN hb5 hs (by omega)) (hc.trans ?_) (hr.trans ?_)
      · rcases z.2.1 with ⟨_, z, _⟩ | ⟨z, _⟩ <;> omega
      · rw [hm, bd_s, if_neg (show ¬ (1 : Int32) = 0 by decide), if_pos f7, b1, bd_s, bd_s]
      · rw [hm2, bd_s, if_neg (show ¬ (1 : Int32) = 0 by decide), b2, bd_s, b3, bd_s]
        simp only
        rcases b4 with ⟨y1, y2, y3⟩ | ⟨y1, y2, y3⟩
        · rw [if_pos y1, if_pos y1, nm_eq, i3, pk_mul, ← y3, sR_I, y2]
          cases m_go (sR (sI st1 16 (nI x)) r2) with
          | none => rfl
          | some z => rfl
        · rw [if_neg y1, y2, bd_s, if_neg y1, nm_eq, y3, sR_I]
          cases m_go (sR (sI st1 16 (nI x)) r') with
          | none => rfl
          | some z => rfl
    · right
      rw [if_neg q] at hm hm2
      refine ⟨-1, sI tt1 7 ((-2) - nI (8 * s + 5)), sI st1 10 (nI (8 * s + 5)), sn, r, hc.trans ?_, hr.trans ?_, FLT.mk (by omega) (by omega), hnl, hf.tr (RFr.I st1 (by omega) _)⟩
      · rw [hm, bd_s, if_pos rfl, i5, t_refuse_ok f7, bd_s, if_neg (FLT.ne (st := sI st1 10 (nI (8 * s + 5))) (FLT.mk (by omega) (by omega))), bd_s]
      · rw [hm2, bd_s, if_pos rfl, i5, m_badAt_ok f10, bd_s]
        rfl
  · right
    rw [if_neg (show ¬ tt1.1 4 = 62 from t62)] at hc
    rw [if_neg (show ¬ (st1.1 7 = 3 ∧ st1.1 8 = 62) from tkr.nsg (c := 62) t62), if_pos rfl] at hr
    have fl : ¬ (sI tt1 7 ((-2) - nI (8 * s1 + 1))).1 7 = 0 := FLT.ne (st := sI st1 10 (nI (8 * s1 + 1))) (FLT.mk (by omega) (by omega))
    refine ⟨-1, sI tt1 7 ((-2) - nI (8 * s1 + 1)), sI st1 10 (nI (8 * s1 + 1)), sn, r, hc.trans ?_, hr.trans ?_, FLT.mk (by omega) (by omega), hnl, hf.tr (RFr.I st1 (by omega) _)⟩
    · rw [k2, show t_refuse tt1 500 sa sn (nI s1) 1 = some (sI tt1 7 ((-2) - nI (8 * s1 + 1))) from t_refuse_ok f7, bd_s, list123_ne fl, bd_s]
    · rw [show m_bad (sR st1 r) 1 = some (0, sR (sI st1 10 (nI (8 * s1 + 1))) r) from m_bad_ok f10 k4, bd_s]
      rfl
theorem listlock {B : Nat → Nat} {N : Nat} {sa : Nat → Int32} {E : Nat → Prop} {L ρ wl r : Nat → Nat} {sn : NSt} {st : OSt} {nc wc : Nat} {nm : Nat → List Nat} {fi gi so : Nat → Nat} {s p0 : Nat} (hs : s ≤ N) (hb5 : st.1 5 = nI s) (hsp : s < p0) (hwi : WI B N wc p0) : ∀ (fuel c : Nat) (tt1 st1 : OSt) (d : Nat → Nat) (s1 e1 e1' : Nat), c ≤ 10 → 12 - c < fuel → RS B N sa E L ρ wl r sn tt1 st1 nc wc nm fi gi so → TOK B N tt1 st1 s1 e1 e1' → p0 ≤ s1 → s1 ≤ N → (∀ i, i < c → d i ≤ 9 ∧ tt1.2 13 i = nI (d i) ∧ st1.2 17 i = nI (d i)) → RFr st st1 → st1.1 15 = st.1 15 → ∀ {cls : Option (Int32 × OSt × NSt)} {ref : Option (Int32 × OSt)}, (cls = bd (bd (t_readList_16 fuel tt1 500 sa sn (nI s) (nI c) (nI (zS d c + 1)) (nI c)) fun x2 => t_readList_105 x2.1 500 sa sn (nI s) x2.2.1 x2.2.2) fun x6 => some (x6.1, x6.2.1, x6.2.2)) → (ref = bd (m_list_13 fuel (sR st1 r) (nI s) (nI c) (nI (zS d c + 1))) fun x19 => gb x19.1 (some (x19.1, x19.2))) →
    TOk B N sa E r ρ wc st cls ref ∨ TFl st cls ref := by
  intro fuel
  induction fuel with
  | zero => intro c _ _ _ _ _ _ h1 h2; omega
  | succ fuel ih =>
    intro c tt1 st1 d s1 e1 e1' hc10 hfu h tk hp0 hs1 hd hf h15 cls ref hc hr
    have h0 := h
    obtain ⟨tp, bs, hnl, hwl, nms, hEw, f7, f10⟩ := h
    have tk0 := tk
    obtain ⟨k1, k2, k3, k4, tkr⟩ := tk
    have hN := tp.1
    have w := bs.1.1
    have hroom : r 0 ≤ 300 ∧ r 1 ≤ 300 := by obtain ⟨⟨z0, z1, z2⟩, _⟩ := w; omega
    have hz := zS_le c (fun i hi => (hd i hi).1)
    have c10 : ¬ (10 : Int32) < nI c := nI_nlt (a := 10) (by omega) (by omega)
    have hr0 := hr
    unfold t_readList_16 at hc
    unfold m_list_13 at hr
    rw [if_neg c10] at hc
    rw [sR_1] at hr
    by_cases t3 : tt1.1 4 = 3
    · obtain ⟨tk2, ⟨ee, se, eN1⟩, n, hn, v6, v8⟩ := tkr.nu t3
      subst ee
      rw [if_pos t3, v6] at hc
      rw [if_pos tk2, v8] at hr
      by_cases n9 : n ≤ 9
      · have l9 : nI n ≤ (9 : Int32) := nI_le (b := 9) n9 (by omega)
        rw [if_pos l9] at hc hr
        by_cases q : c = 10
        · right
          have fl : ¬ (sI tt1 7 ((-2) - nI (8 * s1 + 4))).1 7 = 0 := FLT.ne (st := sI st1 10 (nI (8 * s1 + 4))) (FLT.mk (by omega) (by omega))
          refine ⟨-1, sI (sI tt1 7 ((-2) - nI (8 * s1 + 4))) 4 1, sI st1 10 (nI (8 * s1 + 4)), sn, r, hc.trans ?_, hr.trans ?_, (FLT.mk (by omega) (by omega)).tk _, hnl, hf.tr (RFr.I st1 (by omega) _)⟩
          · rw [if_neg (show ¬ nI c < (10 : Int32) from nI_nlt (b := 10) (by omega) (by omega)), k2, i4, t_refuse_ok f7, bd_s, t_advance_ne fl, bd_s]
            obtain ⟨f, rfl⟩ : ∃ f, fuel = f + 1 := ⟨fuel - 1, by omega⟩
            rw [list16_ne f (f4_tk _ 1), bd_s, list105_ne (f7_tk fl 1), bd_s]
          · rw [if_pos (show nI c = (10 : Int32) by rw [q]; rfl), i4, m_bad_ok f10 k4, bd_s]
            rfl
        · rw [if_pos (show nI c < (10 : Int32) from nI_lt (b := 10) (by omega) (by omega)), gd_nI (by omega) (by omega), nm_eq, nc_ (by omega)] at hc
          rw [if_neg (show ¬ nI c = (10 : Int32) from fun z => q ((nI_eq (a := c) (b := 10) (by omega) (by omega)).mp z)), gd_nI (by omega) (by omega), nm_eq, nm_eq, nc_ (by omega)] at hr
          obtain ⟨tt2, htt2⟩ : ∃ u, u = sA tt1 13 (upd (tt1.2 13) c (nI n)) := ⟨_, rfl⟩
          obtain ⟨st2, hst2⟩ : ∃ u, u = sA st1 17 (upd (st1.2 17) c (nI n)) := ⟨_, rfl⟩
          have h2 : RS B N sa E L ρ wl r sn tt2 st2 nc wc nm fi gi so := by
            have x1 : tt2.1 = tt1.1 := by rw [htt2]; rfl
            have x2 : st2.1 = st1.1 := by rw [hst2]; rfl
            have x3 : ∀ k, k ≠ 13 → tt2.2 k = tt1.2 k := fun k hk => by rw [htt2, sA_2, if_neg hk]
            have x4 : ∀ k, k ≠ 17 → st2.2 k = st1.2 k := fun k hk => by rw [hst2, sA_2, if_neg hk]
            unfold RS TP NMs
            rw [x1, x2, x3 8 (by decide), x3 9 (by decide), x3 10 (by decide), x4 2 (by decide), x4 12 (by decide), x4 13 (by decide), x4 14 (by decide)]
            exact h0
          have e3 : tt2.1 3 = nI e1 := by rw [htt2]; exact k1
          have e6 : st2.1 6 = nI e1 := by rw [hst2]; exact k3
          have v62 : tt2.1 6 = nI n := by rw [htt2]; exact v6
          have v82 : st2.1 8 = nI n := by rw [hst2]; exact v8
          obtain ⟨tt3, st3, s3, e3', e3'', g1, g2, tk3, ⟨g4, g5⟩, cf, rf⟩ := adv_ok (sn := sn) h2.1 h2.2.2.2.2.2.2.1 eN1 e3 e6 r
          have d' : ∀ i, i < c + 1 → ur d c n i ≤ 9 ∧ tt3.2 13 i = nI (ur d c n i) ∧ st3.2 17 i = nI (ur d c n i) := by
            intro i hi
            have a1 : tt3.2 13 = upd (tt1.2 13) c (nI n) := by
              obtain ⟨_, _, _, _, rfl⟩ := cf
              rw [htt2]; rfl
            have a2 : st3.2 17 = upd (st1.2 17) c (nI n) := by
              obtain ⟨_, _, _, _, _, rfl⟩ := rf
              rw [hst2]; rfl
            rw [a1, a2, upd_at, upd_at, ur_at]
            by_cases z : i = c
            · rw [if_pos z, if_pos z, if_pos z]; exact ⟨n9, rfl, rfl⟩
            · rw [if_neg z, if_neg z, if_neg z]; exact hd i (by omega)
          have zz : zS (ur d c n) (c + 1) + 1 = zS d c + 1 + (1 + (2 * n + 1)) := by
            show zS (ur d c n) c + (2 * ur d c n c + 2) + 1 = _
            rw [ur_s, zS_cong (d' := d) c (fun i hi => ur_n (show i ≠ c by omega))]
            omega
          refine ih (c + 1) tt3 st3 (ur d c n) s3 e3' e3'' (by omega) (by omega) (h2.tok cf rf) tk3 (by omega) g5 d' ?_ ?_ (hc.trans ?_) (hr.trans ?_)
          · refine RFr.tr ?_ rf.fr
            rw [hst2]
            exact hf.tr (RFr.A st1 (by omega) _)
          · rw [rf.i15, hst2]; exact h15
          · unfold n_numberSize
            rw [← htt2, bd_s, v62, g1, bd_s, zz, i1, i2, pk_mul, nI_add, nI_add, nI_add, nI_add]
          · have : sA (sR st1 r) 17 (upd ((sR st1 r).2 17) c (nI n)) = sR st2 r := by
              rw [hst2, sR_o _ _ (by decide), sR_A _ _ (by decide)]
            rw [this, g2, bd_s, sR_1, v82, zz, i1, i2, pk_mul, nI_add, nI_add, nI_add, show 2 * n + 2 = 1 + (2 * n + 1) by omega]
      · right
        have l9 : ¬ nI n ≤ (9 : Int32) := nI_ge (a := 9) (by omega) (by omega)
        rw [if_neg l9] at hc hr
        have fl : ¬ (sI tt1 7 ((-2) - nI (8 * s1 + 3))).1 7 = 0 := FLT.ne (st := sI st1 10 (nI (8 * s1 + 3))) (FLT.mk (by omega) (by omega))
        refine ⟨-1, sI (sI tt1 7 ((-2) - nI (8 * s1 + 3))) 4 1, sI st1 10 (nI (8 * s1 + 3)), sn, r, hc.trans ?_, hr.trans ?_, (FLT.mk (by omega) (by omega)).tk _, hnl, hf.tr (RFr.I st1 (by omega) _)⟩
        · rw [k2, i3, t_refuse_ok f7, bd_s, t_advance_ne fl, bd_s]
          obtain ⟨f, rfl⟩ : ∃ f, fuel = f + 1 := ⟨fuel - 1, by omega⟩
          rw [list16_ne f (f4_tk _ 1), bd_s, list105_ne (f7_tk fl 1), bd_s]
        · rw [i3, m_bad_ok f10 k4, bd_s]
          rfl
    · have hc' : cls = bd (t_readList_105 tt1 500 sa sn (nI s) (nI c) (nI (zS d c + 1))) fun x6 => some (x6.1, x6.2.1, x6.2.2) := by
        rw [hc, if_neg t3, bd_s]
      exact listend hs hb5 hsp hwi fuel hc10 h0 tk0 hp0 hs1 hd hf h15 t3 hc' hr0
theorem leaflist_ok {B : Nat → Nat} {N : Nat} {sa : Nat → Int32} {E : Nat → Prop} {L ρ wl r : Nat → Nat} {sn : NSt} {tt st : OSt} {nc wc : Nat} {nm : Nat → List Nat} {fi gi so : Nat → Nat} {s e e' p0 : Nat} (h : RS B N sa E L ρ wl r sn tt st nc wc nm fi gi so) (tk : TOK B N tt st s e e') (h4 : tt.1 4 = nI 60) (hwi : WI B N wc p0) (hp0 : p0 ≤ s) {cls : Option (Int32 × OSt × NSt)} {ref : Option (Int32 × OSt)} (hc : cls = bd (t_readList tt 500 sa sn) fun x6 => some (x6.1, x6.2.1, x6.2.2)) (hr : ref = bd (m_list (sR st r)) fun x19 => gb x19.1 (some (x19.1, x19.2))) :
    TOk B N sa E r ρ wc st cls ref ∨ TFl st cls ref := by
  have h0 := h
  obtain ⟨tp, bs, hnl, hwl, nms, hEw, f7, f10⟩ := h
  obtain ⟨k1, k2, k3, k4, tkr⟩ := tk
  obtain ⟨_, _, ee, es, eN⟩ := tkr.sg (c := 60) (by unfold isSg; omega) h4
  subst ee
  obtain ⟨tt1, st1, s1, e1, e1', g1, g2, tk1, ⟨g4, g5⟩, cf, rf⟩ := adv_ok (sn := sn) tp f7 eN k1 k3 r
  refine listlock (s := s) (p0 := e) (by omega) k4 (by omega) (hwi.mono (by omega)) 20000 0 tt1 st1 (fun _ => 0) s1 e1 e1' (by omega) (by omega) (h0.tok cf rf) tk1 (by omega) g5 (fun i hi => absurd hi (by omega)) rf.fr rf.i15 (hc.trans ?_) (hr.trans ?_)
  · unfold t_readList
    rw [g1, bd_s, k2]
    rfl
  · unfold m_list
    rw [g2, bd_s, sR_1, k4]
    rfl
