/-! what is seen from the roots, on both sides -/
def cd (c m : Int32) : Prop := (∃ i, i < 16 ∧ c = nI (1000 + i) ∧ m = nI (1000 + i)) ∨ (∃ k p, k < 300 ∧ p < 3 ∧ c = nI (10 + 3 * k + p) ∧ m = nI (10000 + 3 * k + p)) ∨ (∃ k p, k < 3 ∧ p < 3 ∧ c = nI (3 * p + k) ∧ m = nI (20000 + 3 * k + p)) ∨ (∃ i, i < 16 ∧ c = nI (2000 + i) ∧ m = nI (30000 + i))
theorem cd_eq {c m c' m' : Int32} (h : cd c m) (h' : cd c' m') : c = c' ↔ m = m' := by
  rcases h with ⟨i, a1, rfl, rfl⟩ | ⟨k, p, a1, a2, rfl, rfl⟩ | ⟨k, p, a1, a2, rfl, rfl⟩ | ⟨i, a1, rfl, rfl⟩ <;> rcases h' with ⟨i', b1, rfl, rfl⟩ | ⟨k', p', b1, b2, rfl, rfl⟩ | ⟨k', p', b1, b2, rfl, rfl⟩ | ⟨i', b1, rfl, rfl⟩ <;> refine (nI_eq (by omega) (by omega)).trans (Iff.trans ?_ (nI_eq (by omega) (by omega)).symm) <;> omega
def nM (st : OSt) (n : Nat) : Bool := !decide (st.2 31 n = -1)
def LR (r : Nat → Nat) (ss st : OSt) (mc tc w : Nat) : Prop :=
  (ss.1 3 = nI mc ∧ st.1 28 = nI mc ∧ ss.1 5 = nI tc ∧ st.1 32 = nI tc ∧ ss.1 7 = nI w) ∧ (∀ i, i < mc → ss.2 0 i = st.2 29 i ∧ ss.2 1 i = st.2 30 i) ∧ (∀ n, n < 300 → ss.2 2 n = st.2 31 n ∧ (st.2 31 n = -1 ∨ ∃ k, k < mc ∧ st.2 31 n = nI k)) ∧ mc = fb_ct (nM st) 300 ∧ (∀ i, i < tc → cd (ss.2 4 i) (st.2 33 i)) ∧ (∀ i, i < w → ∃ p, xP r p ∧ ss.2 6 i = nI p ∧ st.2 34 i = nI p)
/-- the reference's object but for what it has seen -/
def FL (st st' : OSt) : Prop := (∀ k, k ≠ 28 → k ≠ 32 → st'.1 k = st.1 k) ∧ ∀ k, k ≠ 1 → k ≠ 29 → k ≠ 30 → k ≠ 31 → k ≠ 33 → k ≠ 34 → st'.2 k = st.2 k
theorem FL.rf (st : OSt) : FL st st := ⟨fun _ _ _ => rfl, fun _ _ _ _ _ _ _ => rfl⟩
theorem FL.tr {a b c : OSt} (h : FL a b) (g : FL b c) : FL a c := ⟨fun k h1 h2 => (g.1 k h1 h2).trans (h.1 k h1 h2), fun k h1 h2 h3 h4 h5 h6 => (g.2 k h1 h2 h3 h4 h5 h6).trans (h.2 k h1 h2 h3 h4 h5 h6)⟩
theorem FL.I (st : OSt) {j : Nat} (hj : j = 28 ∨ j = 32) (v : Int32) : FL st (sI st j v) := ⟨fun k h1 h2 => by rw [sI_1, if_neg (by omega)], fun _ _ _ _ _ _ _ => rfl⟩
theorem FL.A (st : OSt) {j : Nat} (hj : j = 29 ∨ j = 30 ∨ j = 31 ∨ j = 33 ∨ j = 34) (f : Nat → Int32) : FL st (sA st j f) := ⟨fun _ _ _ => rfl, fun k h1 h2 h3 h4 h5 h6 => by rw [sA_2, if_neg (by omega)]⟩
theorem g_tell_ok {ss : OSt} {tc : Nat} (h : ss.1 5 = nI tc) (ht : tc < 632) (v : Int32) : g_tell ss v = some (sI (sA ss 4 (upd (ss.2 4) tc v)) 5 (nI (tc + 1))) := by
  unfold g_tell
  simp only [nm_eq]
  rw [h, if_neg (show ¬ (632 : Int32) ≤ nI tc from nI_ge (b := 632) ht (by omega)), gd_nI ht (by omega), nc (by omega), sA_1, h, nI_1]
theorem m_tells_ok {st : OSt} {r : Nat → Nat} {tc : Nat} (h : st.1 32 = nI tc) (ht : tc < 1400) (v : Int32) : m_tells (sR st r) v = some (sR (sI (sA st 33 (upd (st.2 33) tc v)) 32 (nI (tc + 1))) r) := by
  unfold m_tells
  simp only [nm_eq]
  rw [sR_1, h, gd_nI ht (by omega), nc (by omega), sR_o _ _ (by decide), sR_A _ _ (by decide), sR_1, sA_1, h, nI_1, sR_I]
theorem LR.tell {r : Nat → Nat} {ss st : OSt} {mc tc w : Nat} (h : LR r ss st mc tc w) {c m : Int32} (hc : cd c m) : LR r (sI (sA ss 4 (upd (ss.2 4) tc c)) 5 (nI (tc + 1))) (sI (sA st 33 (upd (st.2 33) tc m)) 32 (nI (tc + 1))) mc (tc + 1) w := by
  obtain ⟨⟨a1, a2, a3, a4, a5⟩, b, c1, d, e, f⟩ := h
  refine ⟨⟨a1, a2, rfl, rfl, a5⟩, b, c1, d, fun i hi => ?_, f⟩
  show cd (upd (ss.2 4) tc c i) (upd (st.2 33) tc m i)
  rw [upd_at, upd_at]
  by_cases q : i = tc
  · rw [if_pos q, if_pos q]; exact hc
  · rw [if_neg q, if_neg q]; exact e i (by omega)
theorem LR.pop {r : Nat → Nat} {ss st : OSt} {mc tc w : Nat} (h : LR r ss st mc tc (w + 1)) : LR r (sI ss 7 (nI w)) st mc tc w := by
  obtain ⟨⟨a1, a2, a3, a4, a5⟩, b, c1, d, e, f⟩ := h
  exact ⟨⟨a1, a2, a3, a4, rfl⟩, b, c1, d, e, fun i hi => f i (by omega)⟩
theorem LR.push {r : Nat → Nat} {ss st : OSt} {mc tc w : Nat} (h : LR r ss st mc tc w) {p : Nat} (hp : xP r p) : LR r (sI (sA ss 6 (upd (ss.2 6) w (nI p))) 7 (nI (w + 1))) (sA st 34 (upd (st.2 34) w (nI p))) mc tc (w + 1) := by
  obtain ⟨⟨a1, a2, a3, a4, a5⟩, b, c1, d, e, f⟩ := h
  refine ⟨⟨a1, a2, a3, a4, rfl⟩, b, c1, d, e, fun i hi => ?_⟩
  show ∃ p', xP r p' ∧ upd (ss.2 6) w (nI p) i = nI p' ∧ upd (st.2 34) w (nI p) i = nI p'
  rw [upd_at, upd_at]
  by_cases q : i = w
  · rw [if_pos q, if_pos q]; exact ⟨p, hp, rfl, rfl⟩
  · rw [if_neg q, if_neg q]; exact f i (by omega)
theorem LR.new {r : Nat → Nat} {ss st ss' st' : OSt} {mc tc w n : Nat} {pt : Int32} (h : LR r ss st mc tc w) (hn : n < 300) (hnew : st.2 31 n = -1) (e1 : ss'.1 3 = nI (mc + 1) ∧ st'.1 28 = nI (mc + 1) ∧ ss'.1 5 = ss.1 5 ∧ st'.1 32 = st.1 32 ∧ ss'.1 7 = ss.1 7) (e2 : ss'.2 0 = upd (ss.2 0) mc (nI n) ∧ st'.2 29 = upd (st.2 29) mc (nI n) ∧ ss'.2 1 = upd (ss.2 1) mc pt ∧ st'.2 30 = upd (st.2 30) mc pt) (e3 : ss'.2 2 = upd (ss.2 2) n (nI mc) ∧ st'.2 31 = upd (st.2 31) n (nI mc)) (e4 : ss'.2 4 = ss.2 4 ∧ st'.2 33 = st.2 33 ∧ ss'.2 6 = ss.2 6 ∧ st'.2 34 = st.2 34) (hm : mc < 300) : LR r ss' st' (mc + 1) tc w := by
  obtain ⟨⟨a1, a2, a3, a4, a5⟩, b, c1, d, e, f⟩ := h
  refine ⟨⟨e1.1, e1.2.1, by rw [e1.2.2.1]; exact a3, by rw [e1.2.2.2.1]; exact a4, by rw [e1.2.2.2.2]; exact a5⟩, fun i hi => ?_, fun m hm' => ?_, ?_, fun i hi => ?_, fun i hi => ?_⟩
  · rw [e2.1, e2.2.1, e2.2.2.1, e2.2.2.2, upd_at, upd_at, upd_at, upd_at]
    by_cases q : i = mc
    · rw [if_pos q, if_pos q, if_pos q, if_pos q]; exact ⟨rfl, rfl⟩
    · rw [if_neg q, if_neg q, if_neg q, if_neg q]; exact b i (by omega)
  · rw [e3.1, e3.2, upd_at, upd_at]
    by_cases q : m = n
    · rw [if_pos q, if_pos q]
      exact ⟨rfl, Or.inr ⟨mc, by omega, rfl⟩⟩
    · rw [if_neg q, if_neg q]
      obtain ⟨x, y⟩ := c1 m hm'
      exact ⟨x, y.imp id (fun ⟨k, hk, e⟩ => ⟨k, by omega, e⟩)⟩
  · have u := fb_ct_upd (nM st) true hn
    have o : nM st n = false := by unfold nM; rw [hnew]; rfl
    rw [o] at u
    have e : nM st' = fun k => if k = n then true else nM st k := by
      funext k
      unfold nM
      rw [e3.2, upd_at]
      by_cases q : k = n
      · rw [if_pos q, if_pos q, decide_eq_false (ne_m1 (by omega))]; rfl
      · rw [if_neg q, if_neg q]
    rw [e, d]
    simpa using u.symm
  · rw [e4.1, e4.2.1]; exact e i hi
  · rw [e4.2.2.1, e4.2.2.2]; exact f i hi
theorem LR.room {r : Nat → Nat} {ss st : OSt} {mc tc w n : Nat} (h : LR r ss st mc tc w) (hn : n < 300) (hnew : st.2 31 n = -1) : mc < 300 := by
  have u := fb_ct_upd (nM st) true hn
  have o : nM st n = false := by unfold nM; rw [hnew]; rfl
  rw [o] at u
  have l := fb_ct_le (fun k => if k = n then true else nM st k) 300
  have d := h.2.2.2.1
  simp only [Bool.false_eq_true, if_false, if_true, Nat.add_zero] at u
  omega
/-- what is left open, in its order -/
theorem g_leaveOpen_ok {ss : OSt} {w : Nat} (h : ss.1 7 = nI w) (hw : w < 601) (v : Int32) : g_leaveOpen ss v = some (sI (sA ss 6 (upd (ss.2 6) w v)) 7 (nI (w + 1))) := by
  unfold g_leaveOpen
  simp only [nm_eq]
  rw [h, if_neg (show ¬ (601 : Int32) ≤ nI w from nI_ge (b := 601) hw (by omega)), gd_nI hw (by omega), nc (by omega), sA_1, h, nI_1]
section OP
variable {ss st : OSt} {r : Nat → Nat} {f n p j w : Nat}
theorem go_y (hj : j < 3) (e : j = p) : g_leaveOthersOpen_2 (f + 1) ss (nI n) (nI p) (nI j) = g_leaveOthersOpen_2 f ss (nI n) (nI p) (nI j + (-1)) := by
  rw [g_leaveOthersOpen_2, if_neg (nI_pos (by omega)), if_pos (by rw [e])]
theorem go_n (hj : j < 3) (hp : p < 3) (e : j ≠ p) (h : ss.1 7 = nI w) (hw : w < 601) : g_leaveOthersOpen_2 (f + 1) ss (nI n) (nI p) (nI j) = g_leaveOthersOpen_2 f (sI (sA ss 6 (upd (ss.2 6) w (nI (3 * n + j)))) 7 (nI (w + 1))) (nI n) (nI p) (nI j + (-1)) := by
  rw [g_leaveOthersOpen_2, if_neg (nI_pos (by omega)), if_neg (by rw [nI_eq (by omega) (by omega)]; exact e), i3, pk_mul, nI_add, g_leaveOpen_ok h hw, bd_s]
theorem go_z : g_leaveOthersOpen_2 (f + 1) ss (nI n) (nI p) (nI 0 + (-1)) = some ss := by
  rw [g_leaveOthersOpen_2, if_pos (by decide)]
theorem mo_y (hj : j < 3) {q : Nat} (hq : q < 900) (e : j = q % 3) : m_looks_129 (f + 1) (sR st r) (nI q) (nI n) (nI w) (nI j) = m_looks_129 f (sR st r) (nI q) (nI n) (nI w) (nI j + (-1)) := by
  rw [m_looks_129, if_neg (nI_pos (by omega)), if_pos (by rw [i3, n_div (by omega) (by omega) (by omega), pk_mul, n_sub (by omega), sub_dm, e])]
theorem mo_n (hj : j < 3) {q : Nat} (hq : q < 900) (e : j ≠ q % 3) (hn : n < 300) (hk : 1 < r (30 + n)) (hk3 : r (30 + n) ≤ 3) (hw : w < 1000) : m_looks_129 (f + 1) (sR st r) (nI q) (nI n) (nI w) (nI j) = m_looks_129 f (sR (sA st 34 (upd (st.2 34) w (nI (3 * n + j)))) r) (nI q) (nI n) (nI (w + 1)) (nI j + (-1)) := by
  rw [m_looks_129, if_neg (nI_pos (by omega)), if_neg (by rw [i3, n_div (by omega) (by omega) (by omega), pk_mul, n_sub (by omega), sub_dm, nI_eq (by omega) (by omega)]; exact e), m_kindOf_ok hn (by omega), bd_s, if_neg (show ¬ nI (r (30 + n) - 1) ≤ 0 from nI_ge (a := 0) (by omega) (by omega)), gd_nI hw (by omega), nm_eq, nc (by omega), sR_o _ _ (by decide), sR_A _ _ (by decide), i3, pk_mul, nI_add, nI_1]
theorem mo_e {q : Nat} (hj : j < 3) (hn : n < 300) (hk : r (30 + n) = 1) : m_looks_129 (f + 1) (sR st r) (nI q) (nI n) (nI w) (nI j) = m_looks_129 f (sR st r) (nI q) (nI n) (nI w) (nI j + (-1)) := by
  rw [m_looks_129, if_neg (nI_pos (by omega))]
  split
  · rfl
  · rw [m_kindOf_ok hn (by omega), bd_s, hk, if_pos (show nI (1 - 1) ≤ 0 by decide)]
theorem mo_z {q : Nat} : m_looks_129 (f + 1) (sR st r) (nI q) (nI n) (nI w) (nI 0 + (-1)) = some (sR st r, nI w) := by
  rw [m_looks_129, if_pos (by decide)]
end OP
theorem nI_dec (j : Nat) : nI (j + 1) + (-1) = nI j := pk_m1 j
theorem open_ok {r : Nat → Nat} {ss st : OSt} {mc tc w n q : Nat} (h : LR r ss st mc tc w) (hq : q < 900) (eq : q / 3 = n) (hk : 1 < r (30 + n)) (hk3 : r (30 + n) ≤ 3) (hw : w + 2 ≤ 601) : ∃ ss' st', g_leaveOthersOpen ss (nI n) (nI (q % 3)) = some ss' ∧ m_looks_129 20000 (sR st r) (nI q) (nI n) (nI w) 2 = some (sR st' r, nI (w + 2)) ∧ LR r ss' st' mc tc (w + 2) ∧ FL st st' := by
  have hn : n < 300 := by omega
  have ex : ∀ j, j < 3 → xP r (3 * n + j) := fun j hj => Or.inl ⟨by omega, by rw [show (3 * n + j) / 3 = n by omega]; omega, Or.inr (by rw [show (3 * n + j) / 3 = n by omega]; exact hk)⟩
  have h7 := h.1.2.2.2.2
  have go : ∀ ss', g_leaveOthersOpen_2 (19996 + 1 + 1 + 1 + 1) ss (nI n) (nI (q % 3)) (nI 2) = some ss' → g_leaveOthersOpen ss (nI n) (nI (q % 3)) = some ss' := by
    intro ss' e
    unfold g_leaveOthersOpen
    rw [show g_leaveOthersOpen_2 20000 ss (nI n) (nI (q % 3)) 2 = some ss' from e]
    rfl
  have fl : ∀ a b : Nat, FL st (sA (sA st 34 (upd (st.2 34) w (nI a))) 34 (upd ((sA st 34 (upd (st.2 34) w (nI a))).2 34) (w + 1) (nI b))) := fun a b => (FL.A st (by omega) _).tr (FL.A _ (by omega) _)
  have c3 : q % 3 = 0 ∨ q % 3 = 1 ∨ q % 3 = 2 := by omega
  rcases c3 with z | z | z
  · refine ⟨_, _, go _ ?_, ?_, (h.push (ex 2 (by omega))).push (ex 1 (by omega)), fl _ _⟩
    · rw [z, go_n (by omega) (by omega) (by omega) h7 (by omega), nI_dec 1, go_n (by omega) (by omega) (by omega) rfl (by omega), nI_dec 0, go_y (by omega) (by omega), go_z]
    · show m_looks_129 (19996 + 1 + 1 + 1 + 1) (sR st r) (nI q) (nI n) (nI w) (nI 2) = _
      rw [mo_n (by omega) hq (by omega) hn hk hk3 (by omega), nI_dec 1, mo_n (by omega) hq (by omega) hn hk hk3 (by omega), nI_dec 0, mo_y (by omega) hq (by omega), mo_z]
  · refine ⟨_, _, go _ ?_, ?_, (h.push (ex 2 (by omega))).push (ex 0 (by omega)), fl _ _⟩
    · rw [z, go_n (by omega) (by omega) (by omega) h7 (by omega), nI_dec 1, go_y (by omega) (by omega), nI_dec 0, go_n (by omega) (by omega) (by omega) rfl (by omega), go_z]
    · show m_looks_129 (19996 + 1 + 1 + 1 + 1) (sR st r) (nI q) (nI n) (nI w) (nI 2) = _
      rw [mo_n (by omega) hq (by omega) hn hk hk3 (by omega), nI_dec 1, mo_y (by omega) hq (by omega), nI_dec 0, mo_n (by omega) hq (by omega) hn hk hk3 (by omega), mo_z]
  · refine ⟨_, _, go _ ?_, ?_, (h.push (ex 1 (by omega))).push (ex 0 (by omega)), fl _ _⟩
    · rw [z, go_y (by omega) (by omega), nI_dec 1, go_n (by omega) (by omega) (by omega) h7 (by omega), nI_dec 0, go_n (by omega) (by omega) (by omega) rfl (by omega), go_z]
    · show m_looks_129 (19996 + 1 + 1 + 1 + 1) (sR st r) (nI q) (nI n) (nI w) (nI 2) = _
      rw [mo_y (by omega) hq (by omega), nI_dec 1, mo_n (by omega) hq (by omega) hn hk hk3 (by omega), nI_dec 0, mo_n (by omega) hq (by omega) hn hk hk3 (by omega), mo_z]
theorem look_step {r : Nat → Nat} {sn : NSt} (hv : NV r) (hc : NC r sn) {ss st : OSt} {mc tc w p : Nat} (h : LR r ss st mc tc w) (hp : xP r p) (ht : tc < 632) (hw : w ≤ 2 * mc) :
    ∃ ss' st' mc' w', g_come ss sn (nI (lk r p)) = some ss' ∧ m_looks (sR st r) (nI p) (nI w) = some (nI w', sR st' r) ∧ LR r ss' st' mc' (tc + 1) w' ∧ FL st st' ∧ (mc' ≤ 300 ∧ mc ≤ mc' ∧ w' ≤ 2 * mc' ∧ w' + 2 * mc ≤ w + 2 * mc') := by
  have hmc : mc ≤ 300 := by have := fb_ct_le (nM st) 300; have := h.2.2.2.1; omega
  have hq := (hv.2.2 p hp).1
  have plt := xP_lt hp
  have qlt := xP_lt hq
  generalize hqq : lk r p = q at hq qlt
  have hl : m_linkOf (sR st r) (nI p) = some (nI q) := by rw [m_linkOf_ok plt]; show some (nI (lk r p)) = _; rw [hqq]
  have h5 := h.1.2.2.1
  have h32 := h.1.2.2.2.1
  unfold g_come m_looks
  rw [hl, bd_s, if_pos (show (0 : Int32) ≤ nI q from nI_le (a := 0) (Nat.zero_le _) (by omega)), i3, n_div (by omega) (by omega) (by omega)]
  by_cases q9 : q < 900
  · have kq : 0 < r (30 + q / 3) ∧ (q % 3 = 0 ∨ 1 < r (30 + q / 3)) := by
      rcases hq with a | a
      · exact a.2
      · omega
    have n3 : q / 3 < 300 := by omega
    have k3 := (hv.1.2.1 _ n3).1
    have md : nI q - nI (q / 3) * nI 3 = nI (q % 3) := by rw [pk_mul, n_sub (by omega), sub_dm]
    rw [n_kindOf_in hc.1 n3, bd_s, kI_p kq.1, if_pos (show nI q < (1000 : Int32) from nI_lt (b := 1000) (by omega) (by omega)), gd_nI n3 (by omega), nc (by omega), sR_o _ _ (by decide)]
    unfold g_come_17
    rw [if_neg (ne_m1 (by omega)), gd_nI n3 (by omega), nc (by omega), i3, n_div (by omega) (by omega) (by omega), md, pk_mul]
    obtain ⟨s1, s2⟩ := h.2.2.1 _ n3
    rw [s1]
    by_cases nw : st.2 31 (q / 3) = -1
    · have hm3 := h.room n3 nw
      rw [if_pos nw, if_pos nw, m_kindOf_ok n3 kq.1, bd_s]
      have h3 := h.1.1
      have h28 := h.1.2.1
      -- the reference
      have tl : m_tells (sR st r) (20000 + nI 3 * nI (r (30 + q / 3) - 1) + nI (q % 3)) = some (sR (sI (sA st 33 (upd (st.2 33) tc (nI (20000 + 3 * (r (30 + q / 3) - 1) + q % 3)))) 32 (nI (tc + 1))) r) := by
        rw [i20000, pk_mul, nI_add, nI_add, m_tells_ok h32 (by omega)]
      have gm : g_meet ss (nI (q / 3)) (nI (q % 3)) = some (sI (sA (sA (sA ss 2 (upd (ss.2 2) (q / 3) (nI mc))) 0 (upd (ss.2 0) mc (nI (q / 3)))) 1 (upd (ss.2 1) mc (nI (q % 3)))) 3 (nI (mc + 1))) := by
        unfold g_meet
        simp only [nm_eq]
        rw [h3, if_neg (show ¬ (300 : Int32) ≤ nI mc from nI_ge (b := 300) hm3 (by omega)), gd_nI n3 (by omega), sA_1, h3, gd_nI hm3 (by omega), sA_1, sA_1, h3, gd_nI hm3 (by omega), sA_1, sA_1, sA_1, h3, nc (by omega), nc (by omega), nI_1]
        rfl
      have hN : LR r (sI (sA (sA (sA ss 2 (upd (ss.2 2) (q / 3) (nI mc))) 0 (upd (ss.2 0) mc (nI (q / 3)))) 1 (upd (ss.2 1) mc (nI (q % 3)))) 3 (nI (mc + 1))) (sI (sA (sA (sA st 31 (upd (st.2 31) (q / 3) (nI mc))) 29 (upd (st.2 29) mc (nI (q / 3)))) 30 (upd (st.2 30) mc (nI (q % 3)))) 28 (nI (mc + 1))) (mc + 1) tc w := h.new n3 nw ⟨rfl, rfl, rfl, rfl, rfl⟩ ⟨rfl, rfl, rfl, rfl⟩ ⟨rfl, rfl⟩ ⟨rfl, rfl, rfl, rfl⟩ hm3
      have hcd : cd (nI (3 * (q % 3) + (r (30 + q / 3) - 1))) (nI (20000 + 3 * (r (30 + q / 3) - 1) + q % 3)) := Or.inr (Or.inr (Or.inl ⟨r (30 + q / 3) - 1, q % 3, by omega, by omega, rfl, rfl⟩))
      have hT := hN.tell hcd
      generalize hs1 : sI (sA (sA (sA ss 2 (upd (ss.2 2) (q / 3) (nI mc))) 0 (upd (ss.2 0) mc (nI (q / 3)))) 1 (upd (ss.2 1) mc (nI (q % 3)))) 3 (nI (mc + 1)) = ss1 at gm hT
      have ss15 : ss1.1 5 = nI tc := by rw [← hs1]; exact h5
      rw [gm, bd_s, nI_add, g_tell_ok ss15 ht, bd_s, tl, bd_s]
      -- the reference's stores, in its own order
      have rs : ∀ K : OSt → Option (Int32 × OSt), (gd (nI (q / 3)) 300 (nm (sA (sR (sI (sA st 33 (upd (st.2 33) tc (nI (20000 + 3 * (r (30 + q / 3) - 1) + q % 3)))) 32 (nI (tc + 1))) r) 31 (upd ((sR (sI (sA st 33 (upd (st.2 33) tc (nI (20000 + 3 * (r (30 + q / 3) - 1) + q % 3)))) 32 (nI (tc + 1))) r).2 31) (q / 3) ((sR (sI (sA st 33 (upd (st.2 33) tc (nI (20000 + 3 * (r (30 + q / 3) - 1) + q % 3)))) 32 (nI (tc + 1))) r).1 28))) fun s6 => gd (s6.1 28) 300 (nm (sA s6 29 (upd (s6.2 29) (s6.1 28).toNatClampNeg (nI (q / 3)))) fun s7 => gd (s7.1 28) 300 (nm (sA s7 30 (upd (s7.2 30) (s7.1 28).toNatClampNeg (nI (q % 3)))) fun s8 => nm (sI s8 28 ((s8.1 28) + 1)) fun s9 => K s9)))) = K (sR (sI (sA (sI (sA (sA (sA st 31 (upd (st.2 31) (q / 3) (nI mc))) 29 (upd (st.2 29) mc (nI (q / 3)))) 30 (upd (st.2 30) mc (nI (q % 3)))) 28 (nI (mc + 1))) 33 (upd (st.2 33) tc (nI (20000 + 3 * (r (30 + q / 3) - 1) + q % 3)))) 32 (nI (tc + 1))) r) := by
        intro K
        simp only [nm_eq]
        have z28 : ∀ (A : OSt), A.1 28 = nI mc → A.1 28 = nI mc := fun _ h => h
        have y1 : (sR (sI (sA st 33 (upd (st.2 33) tc (nI (20000 + 3 * (r (30 + q / 3) - 1) + q % 3)))) 32 (nI (tc + 1))) r).1 28 = nI mc := h28
        rw [gd_nI n3 (by omega), y1, sA_1, y1, gd_nI hm3 (by omega), sA_1, sA_1, y1, gd_nI hm3 (by omega), sA_1, sA_1, sA_1, y1, nc (by omega), nI_1]
        congr 1
        refine Prod.ext ?_ ?_
        · funext j
          show upd (upd st.1 32 (nI (tc + 1))) 28 (nI (mc + 1)) j = upd (upd st.1 28 (nI (mc + 1))) 32 (nI (tc + 1)) j
          rw [fa_upd_swap _ (by decide)]
        · funext j
          simp only [sR, sA, sI, vf_upd]
          by_cases j1 : j = 1
          · subst j1; rfl
          · by_cases j30 : j = 30
            · subst j30; rfl
            · by_cases j29 : j = 29
              · subst j29; rfl
              · by_cases j31 : j = 31
                · subst j31; rfl
                · by_cases j33 : j = 33
                  · subst j33; rfl
                  · simp [j1, j30, j29, j31, j33]
      rw [rs]
      generalize hs2 : sI (sA (sI (sA (sA (sA st 31 (upd (st.2 31) (q / 3) (nI mc))) 29 (upd (st.2 29) mc (nI (q / 3)))) 30 (upd (st.2 30) mc (nI (q % 3)))) 28 (nI (mc + 1))) 33 (upd (st.2 33) tc (nI (20000 + 3 * (r (30 + q / 3) - 1) + q % 3)))) 32 (nI (tc + 1)) = st2
      have hT2 : LR r (sI (sA ss1 4 (upd (ss1.2 4) tc (nI (3 * (q % 3) + (r (30 + q / 3) - 1))))) 5 (nI (tc + 1))) st2 (mc + 1) (tc + 1) w := by
        rw [← hs2]
        exact hT
      have fl2 : FL st st2 := by
        rw [← hs2]
        exact (((((FL.A st (by omega) _).tr (FL.A _ (by omega) _)).tr (FL.A _ (by omega) _)).tr (FL.I _ (by omega) _)).tr (FL.A _ (by omega) _)).tr (FL.I _ (by omega) _)
      by_cases ke : r (30 + q / 3) = 1
      · rw [ke, if_pos (show nI (1 - 1) = 0 from rfl)]
        rw [ke] at hT2
        refine ⟨_, st2, mc + 1, w, rfl, ?_, hT2, fl2, by omega, by omega, by omega, by omega⟩
        rw [show m_looks_129 20000 (sR st2 r) (nI q) (nI (q / 3)) (nI w) 2 = some (sR st2 r, nI w) by
          show m_looks_129 (19996 + 1 + 1 + 1 + 1) (sR st2 r) (nI q) (nI (q / 3)) (nI w) (nI 2) = _
          rw [mo_e (by omega) n3 ke, nI_dec 1, mo_e (by omega) n3 ke, nI_dec 0, mo_e (by omega) n3 ke, mo_z], bd_s]
      · rw [if_neg (show ¬ nI (r (30 + q / 3) - 1) = 0 from nI_ne0 (by omega) (by omega))]
        obtain ⟨ss', st', b1, b2, b3, b4⟩ := open_ok hT2 q9 rfl (by omega) k3 (by omega)
        rw [b1, bd_s, b2, bd_s]
        exact ⟨ss', st', mc + 1, w + 2, rfl, rfl, b3, fl2.tr b4, by omega, by omega, by omega, by omega⟩
    · obtain ⟨k, hk, ek⟩ := s2.resolve_left nw
      rw [if_neg nw, if_neg nw, gd_nI n3 (by omega), gd_nI n3 (by omega), ek, i10, i10000, pk_mul, nI_add, nI_add, nI_add, nI_add, g_tell_ok h5 ht, bd_s, m_tells_ok h32 (by omega), bd_s]
      have hcd : cd (nI (10 + 3 * k + q % 3)) (nI (10000 + 3 * k + q % 3)) := Or.inr (Or.inl ⟨k, q % 3, by omega, by omega, rfl, rfl⟩)
      exact ⟨_, _, mc, w, rfl, rfl, h.tell hcd, (FL.A st (by omega) _).tr (FL.I _ (by omega) _), hmc, Nat.le_refl _, hw, Nat.le_refl _⟩
  · have qr : 1000 ≤ q := by
      rcases hq with a | a <;> omega
    have nk : n_kindOf sn (nI (q / 3)) = some (-1) := by
      unfold n_kindOf
      rw [if_neg (nI_pos (by omega)), if_pos (show (300 : Int32) ≤ nI (q / 3) from nI_le (a := 300) (by omega) (by omega))]
    rw [nk, bd_s, if_neg (show ¬ nI q < (1000 : Int32) from nI_nlt (b := 1000) qr (by omega))]
    unfold g_come_17
    rw [if_pos rfl, g_tell_ok h5 ht, bd_s, m_tells_ok h32 (by omega), bd_s]
    have hcd : cd (nI q) (nI q) := Or.inl ⟨q - 1000, by omega, by rw [show 1000 + (q - 1000) = q by omega], by rw [show 1000 + (q - 1000) = q by omega]⟩
    exact ⟨_, _, mc, w, rfl, rfl, h.tell hcd, (FL.A st (by omega) _).tr (FL.I _ (by omega) _), hmc, Nat.le_refl _, hw, Nat.le_refl _⟩
