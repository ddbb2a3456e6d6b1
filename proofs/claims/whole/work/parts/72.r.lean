/-! leaves of the text: an eraser, a number -/
theorem TKR.sg {B : Nat → Nat} {N : Nat} {tok v tk val wd : Int32} {s e e' c : Nat} (h : TKR B N tok v tk val wd s e e') (hc : isSg c) (ht : tok = nI c) : tk = 3 ∧ val = nI c ∧ e = e' ∧ e = s + 1 ∧ e ≤ N := by
  have c0 : c < 200 ∧ 5 ≤ c := by unfold isSg at hc; omega
  have no : ∀ k, k < 5 → tok = nI k → False := fun k hk z => by
    rw [ht, nI_eq (by omega) (by omega)] at z
    omega
  rcases h with ⟨z, _⟩ | ⟨z, _⟩ | ⟨z, _⟩ | ⟨z, _⟩ | ⟨d, hd, z, z2, z3, z4, z5, z6⟩ | ⟨z, _⟩
  · exact (no 0 (by omega) z).elim
  · exact (no 2 (by omega) z).elim
  · exact (no 4 (by omega) z).elim
  · exact (no 3 (by omega) z).elim
  · have : d < 200 := by unfold isSg at hd; omega
    rw [ht, nI_eq (by omega) (by omega)] at z
    rw [z]
    exact ⟨z2, z3, z4, z5, z6⟩
  · exact (no 1 (by omega) z).elim
theorem TKR.nsg {B : Nat → Nat} {N : Nat} {tok v tk val wd : Int32} {s e e' c : Nat} (h : TKR B N tok v tk val wd s e e') (ht : tok ≠ nI c) : ¬ (tk = 3 ∧ val = nI c) := by
  rintro ⟨y1, y2⟩
  rcases h with ⟨_, z, _⟩ | ⟨_, z, _⟩ | ⟨_, z, _⟩ | ⟨_, z, _⟩ | ⟨d, hd, z, z2, z3, z4, z5, z6⟩ | ⟨_, z⟩
  · rw [y1] at z; exact absurd z (by decide)
  · rw [y1] at z; exact absurd z (by decide)
  · rw [y1] at z; exact absurd z (by decide)
  · rw [y1] at z; exact absurd z (by decide)
  · rw [y2] at z3; rw [← z3] at z; exact ht z
  · rw [y1] at z; exact absurd z (by decide)
theorem TKR.nu {B : Nat → Nat} {N : Nat} {tok v tk val wd : Int32} {s e e' : Nat} (h : TKR B N tok v tk val wd s e e') (ht : tok = 3) : tk = 2 ∧ (e = e' ∧ s < e ∧ e ≤ N) ∧ ∃ n, n ≤ 999 ∧ v = nI n ∧ val = nI n := by
  rcases h with ⟨z, _⟩ | ⟨z, _⟩ | ⟨z, _⟩ | ⟨_, z⟩ | ⟨d, hd, z, _⟩ | ⟨z, _⟩
  · rw [ht] at z; exact absurd z (by decide)
  · rw [ht] at z; exact absurd z (by decide)
  · rw [ht] at z; exact absurd z (by decide)
  · exact z
  · have : 5 ≤ d ∧ d < 200 := by unfold isSg at hd; omega
    have q : nI 3 = nI d := ht.symm.trans z
    rw [nI_eq (by omega) (by omega)] at q
    omega
  · rw [ht] at z; exact absurd z (by decide)
theorem TKR.nnu {B : Nat → Nat} {N : Nat} {tok v tk val wd : Int32} {s e e' : Nat} (h : TKR B N tok v tk val wd s e e') (ht : tok ≠ 3) : tk ≠ 2 := by
  intro y
  rcases h with ⟨_, z, _⟩ | ⟨_, z, _⟩ | ⟨_, z, _⟩ | ⟨z, _⟩ | ⟨d, hd, z, z2, _⟩ | ⟨_, z⟩
  · rw [y] at z; exact absurd z (by decide)
  · rw [y] at z; exact absurd z (by decide)
  · rw [y] at z; exact absurd z (by decide)
  · exact ht z
  · rw [y] at z2; exact absurd z2 (by decide)
  · rw [y] at z; exact absurd z (by decide)
theorem t_refuse_ne {tt : OSt} {sa : Nat → Int32} {sn : NSt} (h : ¬ tt.1 7 = 0) (a k : Int32) : t_refuse tt 500 sa sn a k = some tt := by
  unfold t_refuse
  rw [if_neg h]
theorem t_advance_ne {tt : OSt} {sa : Nat → Int32} {sn : NSt} (h : ¬ tt.1 7 = 0) : t_advance tt 500 sa sn = some (sI tt 4 1) := by
  unfold t_advance
  rw [nm_eq, if_neg (show ¬ (sI tt 4 1).1 7 = 0 from h)]
theorem t_expect_ne {tt : OSt} {sa : Nat → Int32} {sn : NSt} (h : ¬ tt.1 7 = 0) {k : Int32} (hk : k ≠ 1) : t_expect tt 500 sa sn k = some (sI tt 4 1) := by
  unfold t_expect
  rw [t_advance_ne h, bd_s, if_neg (show ¬ (sI tt 4 1).1 4 = k from fun z => hk z.symm), t_refuse_ne (tt := sI tt 4 1) h, bd_s]
theorem FLT.tk {tt st : OSt} (h : FLT tt st) (v : Int32) : FLT (sI tt 4 v) st := h
theorem m_is_ok {st : OSt} {r : Nat → Nat} {c : Int32} : m_is (sR st r) c = some (if st.1 7 = 3 ∧ st.1 8 = c then 1 else 0) := by
  unfold m_is
  rw [sR_1]
  by_cases a : st.1 7 = 3
  · by_cases b : st.1 8 = c
    · rw [if_pos a, if_pos b, if_pos ⟨a, b⟩]
    · rw [if_pos a, if_neg b, if_neg (fun z => b z.2)]
  · rw [if_neg a, if_neg (fun z => a z.1)]
theorem RF.tr {a b c : OSt} (h : RF a b) (g : RF b c) : RF a c := by
  obtain ⟨x1, x2, x3, x4, x5, rfl⟩ := h
  obtain ⟨y1, y2, y3, y4, y5, rfl⟩ := g
  refine ⟨y1, y2, y3, y4, y5, ?_⟩
  unfold mS
  simp only [sI]
  congr 1
  funext k
  split <;> try rfl
  split <;> try rfl
  split <;> try rfl
  split <;> try rfl
  split <;> try rfl
/-- a leaf made by both -/
theorem leaf_TOk {B : Nat → Nat} {N : Nat} {sa : Nat → Int32} {E E' : Nat → Prop} {L L' ρ wl r r' : Nat → Nat} {sn sn' : NSt} {tt st st1 : OSt} {nc wc : Nat} {nm : Nat → List Nat} {fi gi so : Nat → Nat} {e x : Nat} (h : RS B N sa E L ρ wl r sn tt st1 nc wc nm fi gi so) (he : tt.1 3 = nI e ∧ st1.1 6 = nI e ∧ e ≤ N) (hf : RFr st st1) (h15 : st1.1 15 = st.1 15) (hwi : WI B N wc e) (hwc : wc ≤ 250) (hb : BS E' Q0 L' ρ wl r' sn') (hs : SN sn sn') (hg : GW E L r E' L' r') (hE : ∀ p, 900 ≤ p → (E' p ↔ E p)) (hu : ∀ p, uN E' r' p ↔ (uN E r p ∨ p = x)) (hx : ¬ uN E r x) (hx9 : x < 900) (hq : ∀ q, q ≤ N → st.1 5 = nI q → q < e) {cls : Option (Int32 × OSt × NSt)} {ref : Option (Int32 × OSt)} (hc : cls = some (nI x, tt, sn')) (hr : ref = bd (m_go (sR (sI st1 16 (nI x)) r')) fun x5 => some (1, x5)) : TOk B N sa E r ρ wc st cls ref := by
  obtain ⟨tp, bs, hnl, hwl, nms, hEw, f7, f10⟩ := h
  have tp' : TP B N sa tt (sI st1 16 (nI x)) := tp
  obtain ⟨_, st', s', e1, e2, _, g2, _, _, _, _⟩ := adv_ok (sn := sn) tp' f7 he.2.2 he.1 (show (sI st1 16 (nI x)).1 6 = nI e from he.2.1) r'
  refine ⟨x, e, nc, wc, tt, sI st1 16 (nI x), st', sn', E', L', ρ, wl, r', nm, fi, gi, so, ⟨hc, ?_, g2⟩, ⟨tp', hb, hs.1.trans hnl, hwl, nms, fun p hp h1 => hEw p ((hE p (by omega)).mp hp) h1, f7, f10⟩, ⟨he.1, he.2.1, he.2.2⟩, ⟨?_, h15⟩, hwi, fun p => ?_, ?_, fun p hp => (hg.1 p hp).1, ⟨Nat.le_refl _, hwc, fun _ _ => rfl⟩, hg.2.2, hf.tr (RFr.I st1 (by omega) _), hq⟩
  · rw [hr, g2, bd_s]
  · show nI x = _
    rw [hb.2.2.2.1 x (by omega)]
  · unfold uA
    rw [hu p]
    constructor
    · rintro ((z | z) | ⟨z1, z2, z3⟩)
      · exact Or.inl (Or.inl z)
      · exact Or.inr z
      · exact Or.inl (Or.inr ⟨z1, z2, fun w => z3 ((hE p (by omega)).mpr w)⟩)
    · rintro ((z | ⟨z1, z2, z3⟩) | z)
      · exact Or.inl (Or.inl z)
      · exact Or.inr ⟨z1, z2, fun w => z3 ((hE p (by omega)).mp w)⟩
      · exact Or.inl (Or.inr z)
  · rintro (z | ⟨z, _⟩)
    · exact hx z
    · omega
theorem RF.i15 {a b : OSt} (h : RF a b) : b.1 15 = a.1 15 := by
  obtain ⟨x1, x2, x3, x4, x5, rfl⟩ := h
  rfl
theorem wc_le {B : Nat → Nat} {N wc p : Nat} (h : WI B N wc p) (hN : N ≤ 500) (hp : p ≤ N) : wc ≤ 250 := by
  rcases h with h | ⟨h, _⟩ <;> omega
theorem eraser_ok {B : Nat → Nat} {N : Nat} {sa : Nat → Int32} {E : Nat → Prop} {L ρ wl r : Nat → Nat} {sn : NSt} {tt st : OSt} {nc wc : Nat} {nm : Nat → List Nat} {fi gi so : Nat → Nat} {s e e' p0 : Nat} (h : RS B N sa E L ρ wl r sn tt st nc wc nm fi gi so) (tk : TOK B N tt st s e e') (h4 : tt.1 4 = nI 42) (hwi : WI B N wc p0) (hp0 : p0 ≤ s) {cls : Option (Int32 × OSt × NSt)} {ref : Option (Int32 × OSt)} (hc : cls = bd (t_makeNode tt 500 sa sn 0) fun x6 => some (x6.1, x6.2.1, x6.2.2)) (hr : ref = bd (m_eraser (sR st r)) fun x19 => gb x19.1 (some (x19.1, x19.2))) :
    TOk B N sa E r ρ wc st cls ref ∨ TFl st cls ref := by
  have h' := h
  obtain ⟨tp, bs, hnl, hwl, nms, hEw, f7, f10⟩ := h
  obtain ⟨k1, k2, k3, k4, tkr⟩ := tk
  obtain ⟨_, _, ee, es, eN⟩ := tkr.sg (c := 42) (by unfold isSg; omega) h4
  subst ee
  have hN := tp.1
  have w := bs.1.1
  have hroom : r 0 ≤ 300 ∧ r 1 ≤ 300 := by obtain ⟨⟨z0, z1, z2⟩, _⟩ := w; omega
  have hm : n_hasRoom sn 1 = _ := n_hasRoom_ok bs.1.2.1 (a := 1) (by omega) hroom.1 hroom.2
  have hm2 : m_hasRoom (sR st r) 1 = _ := m_hasRoom_ok (a := 1) (by omega) hroom.1 hroom.2
  by_cases q : r 1 + 1 ≤ r 0
  · left
    rw [if_pos q] at hm hm2
    obtain ⟨sn', b1, b2, b3, b4, b5, b6, b7, b8⟩ := bs.mk (show r 1 < r 0 by omega) (k := 0) (by omega)
    have hmk := m_makes_ok (st := st) w (show r 1 < r 0 by omega) (k := 0)
    refine leaf_TOk (x := 3 * mN r) (st1 := st) h' ⟨k1, k3, eN⟩ (RFr.rf st) rfl (hwi.mono (by omega)) (wc_le (hwi.mono (q := e) (by omega)) hN eN) b3 b2 b4 (fun _ _ => Iff.rfl) (fun p => ?_) (b7 0 (by omega)).2 (by omega) (st_lt hN k4 (by omega) (by omega)) (hc.trans ?_) (hr.trans ?_)
    · rw [b6 p]
      constructor
      · rintro (z | ⟨z1, z2, z3 | z3⟩)
        · exact Or.inl z
        · exact Or.inr (by omega)
        · omega
      · rintro (z | z)
        · exact Or.inl z
        · exact Or.inr ⟨by omega, by omega, Or.inl (by omega)⟩
    · unfold t_makeNode
      rw [hm, bd_s, if_neg (show ¬ (1 : Int32) = 0 by decide), i0, b1, bd_s, bd_s]
      simp only
      rw [i3, pk_mul]
    · unfold m_eraser
      rw [hm2, bd_s, if_neg (show ¬ (1 : Int32) = 0 by decide), i0, hmk, bd_s, nm_eq, i3, pk_mul, sR_I]
      cases m_go (sR (sI st 16 (nI (3 * mN r))) (mK r 0)) with
      | none => rfl
      | some z => rfl
  · right
    rw [if_neg q] at hm hm2
    refine ⟨-1, sI tt 7 ((-2) - nI (8 * s + 5)), sI st 10 (nI (8 * s + 5)), sn, r, hc.trans ?_, hr.trans ?_, FLT.mk (by omega) (by omega), hnl, RFr.I st (by omega) _⟩
    · unfold t_makeNode
      rw [hm, bd_s, if_pos rfl, k2, i5, t_refuse_ok f7, bd_s, bd_s]
    · unfold m_eraser
      rw [hm2, bd_s, if_pos rfl, i5, m_bad_ok f10 k4, bd_s]
      rfl
