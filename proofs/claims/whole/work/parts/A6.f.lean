/-! the tape: bytes put on both -/
def bt (x : Int32) (i : Nat) : Bool := x.toBitVec.getLsbD i
theorem b_ext {x y : Int32} (h : ∀ i, i < 32 → bt x i = bt y i) : x = y := Int32.toBitVec_inj.mp (BitVec.eq_of_getLsbD_eq (fun i hi => h i hi))
theorem b_and (x y : Int32) (i : Nat) : bt (x &&& y) i = (bt x i && bt y i) := by unfold bt; rw [Int32.toBitVec_and, BitVec.getLsbD_and]
theorem b_big {x : Int32} {i : Nat} (h : 32 ≤ i) : bt x i = false := BitVec.getLsbD_of_ge _ _ h
theorem b_255 (i : Nat) : bt 255 i = decide (i < 8) := by
  rcases Nat.lt_or_ge i 32 with h | h
  · exact (by decide +kernel : ∀ i, i < 32 → bt 255 i = decide (i < 8)) i h
  · rw [b_big h, decide_eq_false (by omega)]
theorem s_l : ∀ n, n < 32 → ((nI n &&& 31).toBitVec.smod 32).toNat = n := by decide +kernel
theorem s_u : ∀ n, n < 32 → (((nI n).toUInt32 &&& Int32.toUInt32 31).toBitVec % 32).toNat = n := by decide +kernel
theorem b_ushr (n : Nat) (hn : n < 32) (x : Int32) (i : Nat) : bt ((x.toUInt32 >>> ((nI n).toUInt32 &&& Int32.toUInt32 31)).toInt32) i = bt x (n + i) := by
  show (x.toUInt32 >>> ((nI n).toUInt32 &&& Int32.toUInt32 31)).toBitVec.getLsbD i = x.toUInt32.toBitVec.getLsbD (n + i)
  rw [UInt32.toBitVec_shiftRight]
  show (x.toUInt32.toBitVec >>> (((nI n).toUInt32 &&& Int32.toUInt32 31).toBitVec % 32).toNat).getLsbD i = _
  rw [s_u n hn, BitVec.getLsbD_ushiftRight]
theorem b_sshr (n : Nat) (hn : n < 32) (x : Int32) {i : Nat} (hi : i < 32) : bt (x >>> (nI n &&& 31)) i = if n + i < 32 then bt x (n + i) else bt x 31 := by
  unfold bt
  rw [Int32.toBitVec_shiftRight]
  show (x.toBitVec.sshiftRight ((nI n &&& 31).toBitVec.smod 32).toNat).getLsbD i = _
  rw [s_l n hn, BitVec.getLsbD_sshiftRight, BitVec.msb_eq_getLsbD_last]
  simp [hi]
theorem bp_b (x : Int32) : x.toInt8.toInt32 &&& 255 = x &&& 255 := by
  apply Int32.toBitVec_inj.mp
  rw [Int32.toBitVec_and, Int32.toBitVec_and, Int8.toBitVec_toInt32, Int32.toBitVec_toInt8]
  apply BitVec.eq_of_getLsbD_eq
  intro i hi
  rw [BitVec.getLsbD_and, BitVec.getLsbD_and]
  have hm : ∀ i < 32, 8 ≤ i → (255 : Int32).toBitVec.getLsbD i = false := by decide
  rcases Nat.lt_or_ge i 8 with z | z
  · rw [BitVec.getLsbD_signExtend, BitVec.getLsbD_signExtend, if_pos z, if_pos hi]
    simp [z, hi]
  · rw [hm i hi z, Bool.and_false, Bool.and_false]
theorem and_255 (m : Nat) (hm : m < 4294967296) : nI m &&& 255 = nI (m % 256) := by
  apply Int32.toBitVec_inj.mp
  rw [Int32.toBitVec_and]
  apply BitVec.eq_of_toNat_eq
  rw [BitVec.toNat_and]
  have e1 : (nI m).toBitVec.toNat = m := by
    show (BitVec.ofNat 32 m).toNat = m
    rw [BitVec.toNat_ofNat]
    exact Nat.mod_eq_of_lt hm
  have e2 : (nI (m % 256)).toBitVec.toNat = m % 256 := by
    show (BitVec.ofNat 32 (m % 256)).toNat = m % 256
    rw [BitVec.toNat_ofNat]
    exact Nat.mod_eq_of_lt (by omega)
  have e3 : (255 : Int32).toBitVec.toNat = 2 ^ 8 - 1 := by decide
  rw [e1, e2, e3, Nat.and_two_pow_sub_one_eq_mod]
theorem byte_ex (x : Int32) {k : Nat} (hk : k ≤ 24) : ∃ b, b < 256 ∧ (x.toUInt32 >>> ((nI k).toUInt32 &&& Int32.toUInt32 31)).toInt32 &&& 255 = nI b ∧ vp_nar .byte ((x >>> (nI k &&& 31)).toInt8.toInt32) &&& 255 = nI b := by
  have e : (x >>> (nI k &&& 31)) &&& 255 = (x.toUInt32 >>> ((nI k).toUInt32 &&& Int32.toUInt32 31)).toInt32 &&& 255 := by
    refine b_ext (fun i hi => ?_)
    rw [b_and, b_and, b_255, b_ushr k (by omega), b_sshr k (by omega) x hi]
    by_cases z : i < 8
    · rw [if_pos (by omega)]
    · rw [decide_eq_false z, Bool.and_false, Bool.and_false]
  rw [pk_vb, bp_b, e]
  obtain ⟨n, hn, rfl⟩ := nI_ex x
  rw [pk_ushrN hn (nI k) k (s_u k (by omega))]
  refine ⟨n / 2 ^ k % 256, Nat.mod_lt _ (by omega), ?_, ?_⟩ <;> exact and_255 _ (Nat.lt_of_le_of_lt (Nat.div_le_self _ _) hn)
theorem fb_step {n : Nat} {sr : OSt} {ta : Nat → Int32} {v : Int32} {k T : Nat} (hk : k ≤ 24) (h1 : sr.1 1 = nI T) (hT : T < 500) : r_feedBytes_3 (n + 1) sr ta v (nI k) = r_feedBytes_3 n (sI sr 1 (nI (T + 1))) (upd ta T ((v.toUInt32 >>> ((nI k).toUInt32 &&& Int32.toUInt32 31)).toInt32 &&& 255)) v (nI k + (-8)) := by
  rw [r_feedBytes_3, if_neg (nI_pos (by omega)), h1, if_neg (show ¬ (500 : Int32) ≤ nI T from nI_ge (b := 500) (by omega) (by omega)), gd_nI (by omega) (by omega), nm_eq, nm_eq, nc (by omega), nI_1]
theorem ps_step {n : Nat} {st : OSt} {r : Nat → Nat} {v : Int32} {k T : Nat} (hk : k ≤ 24) (h3 : st.1 3 = nI T) (hT : T < 500) : m_puts_3 (n + 1) (sR st r) v (nI k) = m_puts_3 n (sR (sI (sA st 2 (upd (st.2 2) T (vp_nar .byte ((v >>> (nI k &&& 31)).toInt8.toInt32)))) 3 (nI (T + 1))) r) v (nI k + (-8)) := by
  rw [m_puts_3, if_neg (nI_pos (by omega))]
  simp only [nm_eq]
  rw [sR_1, h3, gd_nI (by omega) (by omega), sR_o _ _ (by decide), sR_A _ _ (by decide), sR_1, sA_1, h3, nI_1, nc (by omega), sR_I]
theorem TPE.one {T : Nat} {B : Nat → Nat} {sr : OSt} {ta : Nat → Int32} {st : OSt} (h : TPE T B sr ta st) (x : Int32) {k : Nat} (hk : k ≤ 24) : ∃ B', TPE (T + 1) B' (sI sr 1 (nI (T + 1))) (upd ta T ((x.toUInt32 >>> ((nI k).toUInt32 &&& Int32.toUInt32 31)).toInt32 &&& 255)) (sI (sA st 2 (upd (st.2 2) T (vp_nar .byte ((x >>> (nI k &&& 31)).toInt8.toInt32)))) 3 (nI (T + 1))) := by
  obtain ⟨b, b1, b2, b3⟩ := byte_ex x hk
  refine ⟨ur B T b, rfl, rfl, fun i hi => ?_⟩
  rw [ur_at, upd_at, sI_2, sA_2, if_pos rfl, upd_at]
  by_cases z : i = T
  · rw [if_pos z, if_pos z, if_pos z]
    exact ⟨b1, b2, b3⟩
  · rw [if_neg z, if_neg z, if_neg z]
    exact h.2.2 i (by omega)
def KF (sr sr' st st' : OSt) : Prop := (∀ k, k ≠ 1 → sr'.1 k = sr.1 k) ∧ sr'.2 = sr.2 ∧ (∀ k, k ≠ 3 → st'.1 k = st.1 k) ∧ ∀ k, k ≠ 2 → st'.2 k = st.2 k
theorem KF.tr {a b c a' b' c' : OSt} (h : KF a b a' b') (g : KF b c b' c') : KF a c a' c' := ⟨fun k hk => (g.1 k hk).trans (h.1 k hk), g.2.1.trans h.2.1, fun k hk => (g.2.2.1 k hk).trans (h.2.2.1 k hk), fun k hk => (g.2.2.2 k hk).trans (h.2.2.2 k hk)⟩
theorem KF.one (sr st : OSt) (v w : Int32) (f : Nat → Int32) : KF sr (sI sr 1 v) st (sI (sA st 2 f) 3 w) := ⟨fun k hk => by rw [sI_1, if_neg hk], rfl, fun k hk => by rw [sI_1, if_neg hk, sA_1], fun k hk => by rw [sI_2, sA_2, if_neg hk]⟩
theorem feed1_ok {T : Nat} {B : Nat → Nat} {sr : OSt} {ta : Nat → Int32} {st : OSt} (h : TPE T B sr ta st) (hT : T + 4 ≤ 500) (x : Int32) (r : Nat → Nat) : ∃ B' sr' ta' st', r_feedBytes sr ta x = some (sr', ta') ∧ m_puts (sR st r) x = some (sR st' r) ∧ TPE (T + 4) B' sr' ta' st' ∧ KF sr sr' st st' := by
  have d1 : nI 24 + (-8) = nI 16 := by decide
  have d2 : nI 16 + (-8) = nI 8 := by decide
  have d3 : nI 8 + (-8) = nI 0 := by decide
  have d4 : nI 0 + (-8) < 0 := by decide
  obtain ⟨B1, h1⟩ := h.one x (k := 24) (by omega)
  obtain ⟨B2, h2⟩ := h1.one x (k := 16) (by omega)
  obtain ⟨B3, h3⟩ := h2.one x (k := 8) (by omega)
  obtain ⟨B4, h4⟩ := h3.one x (k := 0) (by omega)
  refine ⟨B4, _, _, _, ?_, ?_, h4, (((KF.one _ _ _ _ _).tr (KF.one _ _ _ _ _)).tr (KF.one _ _ _ _ _)).tr (KF.one _ _ _ _ _)⟩
  · unfold r_feedBytes
    rw [show r_feedBytes_3 20000 sr ta x 24 = r_feedBytes_3 (19999 + 1) sr ta x (nI 24) from rfl, fb_step (by omega) h.1 (by omega), d1, show (19999 : Nat) = 19998 + 1 from rfl, fb_step (by omega) h1.1 (by omega), d2, show (19998 : Nat) = 19997 + 1 from rfl, fb_step (by omega) h2.1 (by omega), d3, show (19997 : Nat) = 19996 + 1 from rfl, fb_step (by omega) h3.1 (by omega), show (19996 : Nat) = 19995 + 1 from rfl, r_feedBytes_3, if_pos d4, bd_s]
  · unfold m_puts
    rw [show m_puts_3 20000 (sR st r) x 24 = m_puts_3 (19999 + 1) (sR st r) x (nI 24) from rfl, ps_step (by omega) h.2.1 (by omega), d1, show (19999 : Nat) = 19998 + 1 from rfl, ps_step (by omega) h1.2.1 (by omega), d2, show (19998 : Nat) = 19997 + 1 from rfl, ps_step (by omega) h2.2.1 (by omega), d3, show (19997 : Nat) = 19996 + 1 from rfl, ps_step (by omega) h3.2.1 (by omega), show (19996 : Nat) = 19995 + 1 from rfl, m_puts_3, if_pos d4, bd_s]
theorem L_feed {V : VS} {sr : OSt} {ta : Nat → Int32} {sc sh sn : NSt} {st : OSt} {r : Nat → Nat} (h : RI V sr ta sc sh sn st r) (a b c d e : Int32) : ∃ x sr' ta' st', r_feed sr ta a b c d e = some (x, sr', ta') ∧ m_feed (sR st r) a b c d e = some (x, sR st' r) ∧ RI V sr' ta' sc sh sn st' r := by
  obtain ⟨hn, hl, ⟨T, B, a0, a1, a2, a3⟩, ⟨f, k, b1, b2, b3⟩, d0, e0⟩ := h
  have h0 : TPE T B sr ta (sI st 0 0) := ⟨a1, a2, a3⟩
  by_cases z : T + 20 ≤ 500
  · obtain ⟨B1, r1, t1, s1, p1, q1, h1, k1⟩ := feed1_ok h0 (by omega) a r
    obtain ⟨B2, r2, t2, s2, p2, q2, h2, k2⟩ := feed1_ok h1 (by omega) b r
    obtain ⟨B3, r3, t3, s3, p3, q3, h3, k3⟩ := feed1_ok h2 (by omega) c r
    obtain ⟨B4, r4, t4, s4, p4, q4, h4, k4⟩ := feed1_ok h3 (by omega) d r
    obtain ⟨B5, r5, t5, s5, p5, q5, h5, k5⟩ := feed1_ok h4 (by omega) e r
    have kk := (((k1.tr k2).tr k3).tr k4).tr k5
    refine ⟨nI (T + 4 + 4 + 4 + 4 + 4), r5, t5, s5, ?_, ?_, hn, hl, ⟨_, B5, by omega, h5⟩, ⟨f, k, ?_, ?_, ?_⟩, d0, ?_⟩
    · unfold r_feed
      rw [a1, show nI T + 20 = nI (T + 20) from nI_add T 20, if_pos (show nI (T + 20) ≤ (500 : Int32) from nI_le (b := 500) z (by omega)), p1, bd_s, p2, bd_s, p3, bd_s, p4, bd_s, p5, bd_s]
      simp only
      rw [h5.1]
    · unfold m_feed
      simp only [nm_eq]
      rw [sR_I, sR_1, h0.2.1, show nI T + 20 = nI (T + 20) from nI_add T 20, if_pos (show nI (T + 20) ≤ (500 : Int32) from nI_le (b := 500) z (by omega)), q1, bd_s, q2, bd_s, q3, bd_s, q4, bd_s, q5, bd_s, sR_1, h5.2.1]
    · rw [kk.1 10 (by decide), kk.1 11 (by decide)]; exact b1
    · rw [kk.2.2.1 37 (by decide)]; exact b2
    · rw [kk.2.2.2 38 (by decide)]; exact b3
    · rw [kk.2.1, kk.2.2.2 40 (by decide), kk.2.2.2 41 (by decide)]; exact e0
  · refine ⟨-1, sr, ta, sI st 0 0, ?_, ?_, hn, hl, ⟨T, B, a0, h0⟩, ⟨f, k, b1, b2, b3⟩, d0, e0⟩
    · unfold r_feed
      rw [a1, show nI T + 20 = nI (T + 20) from nI_add T 20, if_neg (show ¬ nI (T + 20) ≤ (500 : Int32) from nI_ge (a := 500) (by omega) (by omega))]
    · unfold m_feed
      simp only [nm_eq]
      rw [sR_I, sR_1, h0.2.1, show nI T + 20 = nI (T + 20) from nI_add T 20, if_neg (show ¬ nI (T + 20) ≤ (500 : Int32) from nI_ge (a := 500) (by omega) (by omega))]
/-! net -/
theorem forgetImages_ok (sr : OSt) : ∃ g, r_forgetImages sr = some (sA sr 8 g) ∧ g 0 = 0 ∧ g 1 = 0 := by
  refine ⟨upd (upd (sr.2 8) 0 0) 1 0, ?_, rfl, rfl⟩
  unfold r_forgetImages
  rw [show r_forgetImages_2 20000 sr 0 = r_forgetImages_2 (19999 + 1) sr (nI 0) from rfl, r_forgetImages_2, if_neg (show ¬ (2 : Int32) ≤ nI 0 by decide), gd_nI (by omega) (by omega), nm_eq, nc (by omega), nb0, show nI 0 + 1 = nI 1 from rfl, show (19999 : Nat) = 19998 + 1 from rfl, r_forgetImages_2, if_neg (show ¬ (2 : Int32) ≤ nI 1 by decide), gd_nI (by omega) (by omega), nm_eq, nc (by omega), nb0, show nI 1 + 1 = nI 2 from rfl, show (19998 : Nat) = 19997 + 1 from rfl, r_forgetImages_2, if_pos (show (2 : Int32) ≤ nI 2 by decide), bd_s, sA_sA, sA_2, if_pos rfl]
theorem L_net {V : VS} {sr : OSt} {ta : Nat → Int32} {sc sh sn : NSt} {st : OSt} {r : Nat → Nat} (h : RI V sr ta sc sh sn st r) (da : Nat) (tb : Nat × OSt) (a : Int32) : ∃ x sr' sc' tb' sn' st' r', r_net da sr ta sc tb sn a = some (x, sr', sc', tb', sn') ∧ m_net (sR st r) a = some (x, sR st' r') ∧ RI V sr' ta sc' sh sn' st' r' := by
  have h' := h
  obtain ⟨hn, hl, ⟨T, B, a0, a1, a2, a3⟩, ⟨f, k, b1, b2, b3⟩, d0, e0⟩ := h
  have out : ¬ (¬ a < 0 ∧ a ≤ nI T) → ∃ x sr' sc' tb' sn' st' r', r_net da sr ta sc tb sn a = some (x, sr', sc', tb', sn') ∧ m_net (sR st r) a = some (x, sR st' r') ∧ RI V sr' ta sc' sh sn' st' r' := by
    intro z
    refine ⟨-1, sr, sc, tb, sn, sI st 0 0, r, ?_, ?_, h'.same (KP.i0 st)⟩
    · unfold r_net
      rw [a1]
      by_cases w : a < 0
      · rw [if_pos w]
      · rw [if_neg w, if_neg (fun y => z ⟨w, y⟩)]
    · unfold m_net m_within
      simp only [nm_eq]
      rw [sR_I, sR_1, show (sI st 0 0).1 3 = nI T from a2]
      by_cases w : a < 0
      · rw [if_pos w, bd_s, if_pos rfl]
      · rw [if_neg w, if_pos (show nI T < a from Int32.not_le.mp (fun y => z ⟨w, y⟩)), bd_s, if_pos rfl]
  by_cases z : ¬ a < 0 ∧ a ≤ nI T
  · obtain ⟨n, hn31, rfl⟩ := ge_j z.1
    have hnT : n ≤ T := by
      have := z.2
      rw [n_le hn31 (by omega)] at this
      exact this
    have pre : ∀ X, r_net da sr ta sc tb sn (nI n) = X ↔ (bd (t_read tb.2 500 ta sn (nI n)) fun x4 => if x4.1 = 0 then bd (n_become sc x4.2.2) fun x6 => bd (r_forgetImages (sI sr 1 0)) fun x7 => bd (r_forgetPast x7) fun x8 => some ((ni x6 7), x8, x6, (da, x4.2.1), x4.2.2) else some (x4.1, (sI sr 1 0), sc, (da, x4.2.1), x4.2.2)) = X := by
      intro X
      unfold r_net
      rw [if_neg z.1, a1, if_pos z.2, nm_eq]
    rcases read_ok (tt := tb.2) (sn := sn) (r := r) hnT a0 a2 hl.2.2 (fun i hi => a3 i (by omega)) with R | R
    · obtain ⟨tt', sn', st', r', u1, u2, u3, u4, u5, u6, u7, u8, u9, u10⟩ := R
      obtain ⟨sc', g1, g2, g3⟩ := n_become_ok (sn := sc) u4 (by omega) (by omega) u3
      obtain ⟨g, i1', i2', i3'⟩ := forgetImages_ok (sI sr 1 0)
      refine ⟨nI (r' 1), sI (sI (sA (sI sr 1 0) 8 g) 10 0) 11 0, sc', (da, tt'), sn', st', r', ?_, u2, ⟨u3, g2⟩, ⟨g3.trans hl.1, hl.2.1, u5⟩, ⟨0, fun _ => 0, by omega, rfl, u6, fun i hi => absurd hi (Nat.not_lt_zero _)⟩, ⟨0, 0, ⟨rfl, rfl, by omega, by omega⟩, u7, fun k hk => absurd hk (Nat.not_lt_zero _)⟩, d0, fun k hk => ?_⟩
      · rw [pre, u1, bd_s]
        simp only
        rw [if_pos trivial, g1, bd_s, i1', bd_s]
        unfold r_forgetPast
        simp only [nm_eq]
        rw [bd_s, g2.1.1.2.1]
      · have gk : g k = 0 := by
          have : k = 0 ∨ k = 1 := by omega
          rcases this with rfl | rfl
          · exact i2'
          · exact i3'
        have sk : st'.2 40 k = 0 := by
          have : k = 0 ∨ k = 1 := by omega
          rcases this with rfl | rfl
          · exact u8
          · exact u9
        have e8 : (sI (sI (sA (sI sr 1 0) 8 g) 10 0) 11 0).2 8 = g := by rw [sI_2, sI_2, sA_2, if_pos rfl]
        rw [e8, gk, sk]
        exact ⟨Or.inl rfl, rfl, fun w => absurd w (by decide)⟩
    · obtain ⟨tt', sn', st', r', x, u1, u2, u3, u4, u5, u6, u7⟩ := R
      obtain ⟨v1, v2⟩ := NVC_cong u4 hn.1 hn.2
      refine ⟨x, sI sr 1 0, sc, (da, tt'), sn', st', r', ?_, u3, ⟨v1, v2⟩, ⟨hl.1, hl.2.1, u5⟩, ⟨0, fun _ => 0, by omega, rfl, u6, fun i hi => absurd hi (Nat.not_lt_zero _)⟩, ⟨f, k, b1, by rw [u7.2.1]; exact b2, by rw [u7.1.2.2.1]; exact b3⟩, d0, by rw [u7.2.2, u7.1.2.2.2]; exact e0⟩
      rw [pre, u1, bd_s]
      simp only
      rw [if_neg u2]
  · exact out z
/-! count -/
theorem imagesHeld_ok (sr : OSt) : r_imagesHeld sr = some ((if sr.2 8 0 = 0 then 0 else 1) + (if sr.2 8 1 = 0 then 0 else 1)) := by
  unfold r_imagesHeld
  rw [show r_imagesHeld_4 20000 sr 0 0 = r_imagesHeld_4 (19999 + 1) sr 0 (nI 0) from rfl, r_imagesHeld_4, if_neg (show ¬ (2 : Int32) ≤ nI 0 by decide), gd_nI (by omega) (by omega), nc (by omega), show nI 0 + 1 = nI 1 from rfl, show (19999 : Nat) = 19998 + 1 from rfl]
  have two : ∀ v, r_imagesHeld_4 (19998 + 1) sr v (nI 1) = some (if sr.2 8 1 = 0 then v else v + 1) := by
    intro v
    rw [r_imagesHeld_4, if_neg (show ¬ (2 : Int32) ≤ nI 1 by decide), gd_nI (by omega) (by omega), nc (by omega), show nI 1 + 1 = nI 2 from rfl, show (19998 : Nat) = 19997 + 1 from rfl]
    have one : ∀ v, r_imagesHeld_4 (19997 + 1) sr v (nI 2) = some v := by
      intro v
      rw [r_imagesHeld_4, if_pos (show (2 : Int32) ≤ nI 2 by decide)]
    rw [one, one]
    split <;> rfl
  rw [two, two]
  by_cases z : sr.2 8 0 = 0
  · rw [if_pos z, if_pos z, bd_s]
    by_cases w : sr.2 8 1 = 0
    · rw [if_pos w, if_pos w]; rfl
    · rw [if_neg w, if_neg w]
  · rw [if_neg z, if_neg z, bd_s]
    by_cases w : sr.2 8 1 = 0
    · rw [if_pos w, if_pos w]; rfl
    · rw [if_neg w, if_neg w]; rfl
theorem L_count {V : VS} {sr : OSt} {ta : Nat → Int32} {sc sh sn : NSt} {st : OSt} {r : Nat → Nat} (h : RI V sr ta sc sh sn st r) (a : Int32) : ∃ x, r_count sr sc a = some x ∧ m_count (sR st r) a = some (x, sR (sI st 0 0) r) := by
  obtain ⟨hn, hl, ⟨T, B, a0, a1, a2, a3⟩, ⟨f, k, ⟨b1, b4, _⟩, b2, b3⟩, d0, e0⟩ := h
  obtain ⟨⟨c6, c7, c8, c9⟩, ⟨c11, c10, c12, c13⟩, c3, _⟩ := hn.2.1
  have m4 : p_size (np sc) 1 = some (nI (fb_ct (iP r) 300)) := n_size_ok hn.2
  have m4' := m_pairs_ok (st := sI st 0 0) hn.1 0
  have m5 := n_readyPairs_ok hn.2 hn.1
  have m5' := m_pairs_ok (st := sI st 0 0) hn.1 1
  have m6 := n_rootsThere_ok hn.1 hn.2
  have m6' := m_roots_ok (st := sI st 0 0) hn.1
  unfold r_count m_count
  simp only [nm_eq]
  rw [sR_I, m4, m4', m5, m5', m6, m6', imagesHeld_ok, bd_s, bd_s, bd_s, bd_s, bd_s, bd_s, bd_s, sR_1, sR_2, sR_o _ _ (by decide), show (sI st 0 0).1 37 = nI k from b2, show (sI st 0 0).1 3 = nI T from a2, show (sI st 0 0).2 40 = st.2 40 from rfl, (e0 0 (by omega)).2.1, (e0 1 (by omega)).2.1, c6, c7, c8, c9, c10, c11, c12, c13, b4, a1]
  by_cases z0 : a = 0
  · exact ⟨_, by rw [if_pos z0], by rw [if_pos z0]; rfl⟩
  rw [if_neg z0, if_neg z0]
  by_cases z1 : a = 1
  · exact ⟨_, by rw [if_pos z1], by rw [if_pos z1]; rfl⟩
  rw [if_neg z1, if_neg z1]
  by_cases z2 : a = 2
  · exact ⟨_, by rw [if_pos z2], by rw [if_pos z2]; rfl⟩
  rw [if_neg z2, if_neg z2]
  by_cases z3 : a = 3
  · exact ⟨_, by rw [if_pos z3], by rw [if_pos z3]; rfl⟩
  rw [if_neg z3, if_neg z3]
  by_cases z4 : a = 4
  · exact ⟨_, by rw [if_pos z4], by rw [if_pos z4]; rfl⟩
  rw [if_neg z4, if_neg z4]
  by_cases z5 : a = 5
  · exact ⟨_, by rw [if_pos z5], by rw [if_pos z5]; rfl⟩
  rw [if_neg z5, if_neg z5]
  by_cases z6 : a = 6
  · exact ⟨_, by rw [if_pos z6], by rw [if_pos z6]⟩
  rw [if_neg z6, if_neg z6]
  by_cases z7 : a = 7
  · exact ⟨_, by rw [if_pos z7], by rw [if_pos z7]; rfl⟩
  rw [if_neg z7, if_neg z7]
  by_cases z8 : a = 8
  · exact ⟨_, by rw [if_pos z8], by rw [if_pos z8]; rfl⟩
  rw [if_neg z8, if_neg z8]
  by_cases z9 : a = 9
  · exact ⟨_, by rw [if_pos z9], by rw [if_pos z9]; rfl⟩
  rw [if_neg z9, if_neg z9]
  by_cases z10 : a = 10
  · exact ⟨_, by rw [if_pos z10], by rw [if_pos z10]; rfl⟩
  rw [if_neg z10, if_neg z10]
  by_cases z11 : a = 11
  · refine ⟨_, by rw [if_pos z11], ?_⟩
    rw [if_pos z11]
    by_cases w : sr.2 8 0 = 0
    · rw [if_pos w, if_pos w]
      by_cases y : sr.2 8 1 = 0
      · rw [if_pos y, if_pos y]
      · rw [if_neg y, if_neg y]
    · rw [if_neg w, if_neg w]
      by_cases y : sr.2 8 1 = 0
      · rw [if_pos y, if_pos y]
      · rw [if_neg y, if_neg y]
  rw [if_neg z11, if_neg z11]
  by_cases z12 : a = 12
  · exact ⟨_, by rw [if_pos z12], by rw [if_pos z12]⟩
  rw [if_neg z12, if_neg z12]
  by_cases z13 : a = 13
  · exact ⟨_, by rw [if_pos z13], by rw [if_pos z13]⟩
  rw [if_neg z13, if_neg z13]
  exact ⟨_, rfl, rfl⟩
